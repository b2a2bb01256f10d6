/-! THE EVALUATORS, pure: a program I gives (kind, argument): 0 number, 1 word, 2 not, 3 or, 4 and, 5 + c join c, 20 stop -/
abbrev xIn : Type := Nat → Nat × Nat
abbrev xE : Type := Nat → Int
def xB (x : Int) : Prop := -1000000000 ≤ x ∧ x ≤ 1000000000
def xOk (nw : Nat) (E : xE) : Prop := ∀ j, j < nw → xB (E j)
def xg (c : Nat) (a b : Int) : Int := match c with
  | 0 => a + b
  | 1 => a - b
  | 2 => a * b
  | 3 => if b = 0 then 1000000001 else Int.tdiv a b
  | 4 => if b = 0 then 1000000001 else Int.tmod a b
  | 5 => if a < b then 1 else 0
  | 6 => if b < a then 1 else 0
  | _ => if a = b then 1 else 0
def xj (c : Nat) (a b : Int) : Option Int := if -1000000000 ≤ xg c a b ∧ xg c a b ≤ 1000000000 then some (xg c a b) else none
theorem xj_B {c : Nat} {a b x : Int} (h : xj c a b = some x) : xB x := by
  unfold xj at h
  split at h
  · next z => cases h; exact z
  · cases h
/-- X goes back over the program's steps from p to q; B: it breaks -/
def xcl (nw : Nat) (I : xIn) (E : xE) (p q : Nat) (B : Prop) (X : Nat → List Int → Prop) : Prop := ∀ i, p ≤ i → i < q → ∀ st : List Int,
  (∀ v, I i = (0, v) → v ≤ 1000 → st.length < 52 → X (i + 1) ((v : Int) :: st) → X i st) ∧
  (∀ j, I i = (1, j) → j < nw → st.length < 52 → X (i + 1) (E j :: st) → X i st) ∧
  (∀ v a, I i = (2, v) → a = 0 ∨ a = 1 → X (i + 1) ((1 - a) :: st) → X i (a :: st)) ∧
  (∀ t a, I i = (3, t) → i < t → t ≤ q → a = 0 ∨ a = 1 → (a = 1 → X t (1 :: st)) → (a = 0 → X (i + 1) st) → X i (a :: st)) ∧
  (∀ t a, I i = (4, t) → i < t → t ≤ q → a = 0 ∨ a = 1 → (a = 0 → X t (0 :: st)) → (a = 1 → X (i + 1) st) → X i (a :: st)) ∧
  (∀ c v a b, I i = (5 + c, v) → c < 8 → xB a → xB b → (∀ x, xj c a b = some x → X (i + 1) (x :: st)) → (xj c a b = none → B) → X i (b :: a :: st))
/-- the steps from p to q lay one number on the pile, or break: what D says; at most w more on the pile -/
def xP (nw : Nat) (I : xIn) (p q w : Nat) (D : xE → Option Int) : Prop := (p < q ∧ 1 ≤ w) ∧ ∀ E, xOk nw E → (∀ x, D E = some x → xB x) ∧ ∀ (B : Prop) (X : Nat → List Int → Prop), xcl nw I E p q B X → ∀ st : List Int, st.length + w ≤ 52 → (∀ x, D E = some x → X q (x :: st)) → (D E = none → B) → X p st
/-- a test: 0 or 1 -/
def xT (nw : Nat) (D : xE → Option Int) : Prop := ∀ E, xOk nw E → ∀ x, D E = some x → x = 0 ∨ x = 1
section
variable {nw : Nat} {I I' : xIn} {p q r w w1 w2 : Nat} {D D' D1 D2 : xE → Option Int}
theorem xcl_sub {E : xE} {p' q' : Nat} {B : Prop} {X : Nat → List Int → Prop} (h : xcl nw I E p q B X) (h1 : p ≤ p') (h2 : q' ≤ q) : xcl nw I E p' q' B X := by
  intro i i1 i2 st
  obtain ⟨a1, a2, a3, a4, a5, a6⟩ := h i (by omega) (by omega) st
  exact ⟨a1, a2, a3, fun t a e b1 b2 => a4 t a e b1 (by omega), fun t a e b1 b2 => a5 t a e b1 (by omega), a6⟩
theorem xP_cg (e : ∀ i, p ≤ i → i < q → I' i = I i) (h : xP nw I p q w D) : xP nw I' p q w D := by
  refine ⟨h.1, fun E hE => ⟨(h.2 E hE).1, fun B X hc => (h.2 E hE).2 B X (fun i i1 i2 st => ?_)⟩⟩
  have := hc i i1 i2 st
  rw [e i i1 i2] at this
  exact this
theorem xP_dg (e : ∀ E, xOk nw E → D' E = D E) (h : xP nw I p q w D) : xP nw I p q w D' := by
  refine ⟨h.1, fun E hE => ?_⟩
  rw [e E hE]
  exact h.2 E hE
theorem xP_w {w' : Nat} (hw : w ≤ w') (h : xP nw I p q w D) : xP nw I p q w' D :=
  ⟨⟨h.1.1, by have := h.1.2; omega⟩, fun E hE => ⟨(h.2 E hE).1, fun B X hc st hst => (h.2 E hE).2 B X hc st (by omega)⟩⟩
theorem xP_num {v : Nat} (hi : I p = (0, v)) (hv : v ≤ 1000) : xP nw I p (p + 1) 1 (fun _ => some (v : Int)) := by
  refine ⟨⟨by omega, by omega⟩, fun E hE => ⟨fun x hx => ?_, fun B X hc st hst k1 _ => ?_⟩⟩
  · cases hx; unfold xB; omega
  · exact (hc p (by omega) (by omega) st).1 v hi hv (by omega) (k1 _ rfl)
theorem xP_word {j : Nat} (hi : I p = (1, j)) (hj : j < nw) : xP nw I p (p + 1) 1 (fun E => some (E j)) := by
  refine ⟨⟨by omega, by omega⟩, fun E hE => ⟨fun x hx => ?_, fun B X hc st hst k1 _ => ?_⟩⟩
  · cases hx; exact hE j hj
  · exact (hc p (by omega) (by omega) st).2.1 j hi hj (by omega) (k1 _ rfl)
theorem xP_join {c v : Nat} (h1 : xP nw I p q w1 D1) (h2 : xP nw I q r w2 D2) (hi : I r = (5 + c, v)) (hc8 : c < 8) : xP nw I p (r + 1) (w1 + w2) (fun E => (D1 E).bind fun a => (D2 E).bind fun b => xj c a b) := by
  have := h1.1
  have := h2.1
  refine ⟨⟨by omega, by omega⟩, fun E hE => ⟨fun x hx => ?_, fun B X hc st hst k1 k0 => ?_⟩⟩
  · obtain ⟨a, ha, hx⟩ := Option.bind_eq_some_iff.mp hx
    obtain ⟨b, hb, hx⟩ := Option.bind_eq_some_iff.mp hx
    exact xj_B hx
  · refine (h1.2 E hE).2 B X (xcl_sub hc (by omega) (by omega)) st (by omega) (fun a ha => ?_) (fun z => k0 (by simp [z]))
    refine (h2.2 E hE).2 B X (xcl_sub hc (by omega) (by omega)) (a :: st) (by simp; omega) (fun b hb => ?_) (fun z => k0 (by simp [ha, z]))
    exact (hc r (by omega) (by omega) st).2.2.2.2.2 c v a b hi hc8 ((h1.2 E hE).1 a ha) ((h2.2 E hE).1 b hb) (fun x hx => k1 x (by simp [ha, hb, hx])) (fun z => k0 (by simp [ha, hb, z]))
theorem xP_not {v : Nat} (h1 : xP nw I p q w D) (ht : xT nw D) (hi : I q = (2, v)) : xP nw I p (q + 1) w (fun E => (D E).map fun a => 1 - a) := by
  have := h1.1
  refine ⟨⟨by omega, by omega⟩, fun E hE => ⟨fun x hx => ?_, fun B X hc st hst k1 k0 => ?_⟩⟩
  · obtain ⟨a, ha, rfl⟩ := Option.map_eq_some_iff.mp hx
    have := ht E hE a ha
    unfold xB; omega
  · refine (h1.2 E hE).2 B X (xcl_sub hc (by omega) (by omega)) st (by omega) (fun a ha => ?_) (fun z => k0 (by simp [z]))
    exact (hc q (by omega) (by omega) st).2.2.1 v a hi (ht E hE a ha) (k1 _ (by simp [ha]))
theorem xT_not (ht : xT nw D) : xT nw (fun E => (D E).map fun a => 1 - a) := by
  intro E hE x hx
  obtain ⟨a, ha, rfl⟩ := Option.map_eq_some_iff.mp hx
  have := ht E hE a ha
  omega
theorem xP_or (h1 : xP nw I p q w1 D1) (ht : xT nw D1) (hi : I q = (3, r)) (h2 : xP nw I (q + 1) r w2 D2) : xP nw I p r (w1 + w2) (fun E => (D1 E).bind fun a => if a = 1 then some 1 else D2 E) := by
  have := h1.1
  have := h2.1
  refine ⟨⟨by omega, by omega⟩, fun E hE => ⟨fun x hx => ?_, fun B X hc st hst k1 k0 => ?_⟩⟩
  · obtain ⟨a, ha, hx⟩ := Option.bind_eq_some_iff.mp hx
    split at hx
    · cases hx; unfold xB; omega
    · exact (h2.2 E hE).1 x hx
  · refine (h1.2 E hE).2 B X (xcl_sub hc (by omega) (by omega)) st (by omega) (fun a ha => ?_) (fun z => k0 (by simp [z]))
    refine (hc q (by omega) (by omega) st).2.2.2.1 r a hi (by omega) (by omega) (ht E hE a ha) (fun z => k1 1 (by simp [ha, z])) (fun z => ?_)
    exact (h2.2 E hE).2 B X (xcl_sub hc (by omega) (by omega)) st (by omega) (fun b hb => k1 b (by simp [ha, hb, z])) (fun y => k0 (by simp [ha, y, z]))
theorem xT_or (h2 : xT nw D2) : xT nw (fun E => (D1 E).bind fun a => if a = 1 then some 1 else D2 E) := by
  intro E hE x hx
  obtain ⟨a, ha, hx⟩ := Option.bind_eq_some_iff.mp hx
  split at hx
  · cases hx; exact Or.inr rfl
  · exact h2 E hE x hx
theorem xP_and (h1 : xP nw I p q w1 D1) (ht : xT nw D1) (hi : I q = (4, r)) (h2 : xP nw I (q + 1) r w2 D2) : xP nw I p r (w1 + w2) (fun E => (D1 E).bind fun a => if a = 0 then some 0 else D2 E) := by
  have := h1.1
  have := h2.1
  refine ⟨⟨by omega, by omega⟩, fun E hE => ⟨fun x hx => ?_, fun B X hc st hst k1 k0 => ?_⟩⟩
  · obtain ⟨a, ha, hx⟩ := Option.bind_eq_some_iff.mp hx
    split at hx
    · cases hx; unfold xB; omega
    · exact (h2.2 E hE).1 x hx
  · refine (h1.2 E hE).2 B X (xcl_sub hc (by omega) (by omega)) st (by omega) (fun a ha => ?_) (fun z => k0 (by simp [z]))
    refine (hc q (by omega) (by omega) st).2.2.2.2.1 r a hi (by omega) (by omega) (ht E hE a ha) (fun z => k1 0 (by simp [ha, z])) (fun z => ?_)
    exact (h2.2 E hE).2 B X (xcl_sub hc (by omega) (by omega)) st (by omega) (fun b hb => k1 b (by simp [ha, hb, z])) (fun y => k0 (by simp [ha, y, z]))
theorem xT_and (h2 : xT nw D2) : xT nw (fun E => (D1 E).bind fun a => if a = 0 then some 0 else D2 E) := by
  intro E hE x hx
  obtain ⟨a, ha, hx⟩ := Option.bind_eq_some_iff.mp hx
  split at hx
  · cases hx; exact Or.inl rfl
  · exact h2 E hE x hx
theorem xT_cmp {c : Nat} (hc : 5 ≤ c) : xT nw (fun E => (D1 E).bind fun a => (D2 E).bind fun b => xj c a b) := by
  intro E hE x hx
  obtain ⟨a, ha, hx⟩ := Option.bind_eq_some_iff.mp hx
  obtain ⟨b, hb, hx⟩ := Option.bind_eq_some_iff.mp hx
  unfold xj at hx
  split at hx
  · cases hx
    match c, hc with
    | 5, _ => by_cases z : a < b <;> simp [xg, z]
    | 6, _ => by_cases z : b < a <;> simp [xg, z]
    | n + 7, _ => by_cases z : a = b <;> simp [xg, z]
  · cases hx
end
/-! numbers of both widths -/
def i32 (x : Int) : Int32 := Int32.ofInt x
def i64 (x : Int) : Int64 := Int64.ofInt x
theorem i32_toInt {x : Int} (h : xB x) : (i32 x).toInt = x := Int32.toInt_ofInt_of_le (by unfold xB at h; omega) (by unfold xB at h; omega)
theorem i64_toInt {x : Int} (h0 : -2000000000000000000 ≤ x) (h1 : x ≤ 2000000000000000000) : (i64 x).toInt = x := Int64.toInt_ofInt_of_le (by omega) (by omega)
theorem i32_l {x : Int} (h : xB x) : (i32 x).toInt64 = i64 x := Int64.toInt_inj.mp (by rw [Int32.toInt_toInt64, i32_toInt h, i64_toInt (by unfold xB at h; omega) (by unfold xB at h; omega)])
theorem i32_nat {n : Nat} : i32 (n : Int) = nI n := Int32.ofInt_eq_ofNat
theorem i64_add (a b : Int) : i64 a + i64 b = i64 (a + b) := (Int64.ofInt_add a b).symm
theorem i64_sub (a b : Int) : i64 a - i64 b = i64 (a - b) := (Int64.ofInt_sub a b).symm
theorem i64_mul (a b : Int) : i64 a * i64 b = i64 (a * b) := (Int64.ofInt_mul a b).symm
theorem i32_sb (a b : Int) : i32 a - i32 b = i32 (a - b) := (Int32.ofInt_sub a b).symm
theorem i32_ml (a b : Int) : i32 a * i32 b = i32 (a * b) := (Int32.ofInt_mul a b).symm
theorem xB_tdiv {a b : Int} (h : xB a) : xB (a.tdiv b) := by
  have h1 : (a.tdiv b).natAbs ≤ a.natAbs := by rw [Int.natAbs_tdiv]; exact Nat.div_le_self _ _
  unfold xB at h ⊢
  omega
theorem i32_div {a b : Int} (ha : xB a) (hb : xB b) : i32 a / i32 b = i32 (a.tdiv b) := Int32.toInt_inj.mp (by
  have := xB_tdiv (b := b) ha
  rw [Int32.toInt_div, i32_toInt ha, i32_toInt hb, i32_toInt this]
  unfold xB at this
  exact Int.bmod_eq_of_le (by omega) (by omega))
theorem i64_div {a b : Int} (ha : xB a) (hb : xB b) : i64 a / i64 b = i64 (a.tdiv b) := Int64.toInt_inj.mp (by
  have := xB_tdiv (b := b) ha
  unfold xB at ha hb this
  rw [Int64.toInt_div, i64_toInt (by omega) (by omega), i64_toInt (by omega) (by omega), i64_toInt (by omega) (by omega)]
  exact Int.bmod_eq_of_le (by omega) (by omega))
theorem xB_tmod {a b : Int} (h : xB a) : xB (a.tmod b) := by
  have h1 : (a.tmod b).natAbs ≤ a.natAbs := by rw [Int.natAbs_tmod]; exact Nat.mod_le _ _
  unfold xB at h ⊢
  omega
theorem tmod_eq (a b : Int) : a - a.tdiv b * b = a.tmod b := by rw [Int.tmod_def, Int.mul_comm]
theorem xg_big {c : Nat} {a b : Int} (ha : xB a) (hb : xB b) : -2000000000000000000 ≤ xg c a b ∧ xg c a b ≤ 2000000000000000000 := by
  have h3 := xB_tdiv (b := b) ha
  have h4 := xB_tmod (b := b) ha
  have h5 : (a * b).natAbs ≤ 1000000000 * 1000000000 := by
    rw [Int.natAbs_mul]
    unfold xB at ha hb
    exact Nat.mul_le_mul (by omega) (by omega)
  unfold xB at *
  match c with
  | 0 => simp only [xg]; omega
  | 1 => simp only [xg]; omega
  | 2 => simp only [xg]; omega
  | 3 => simp only [xg]; split <;> omega
  | 4 => simp only [xg]; split <;> omega
  | 5 => simp only [xg]; split <;> omega
  | 6 => simp only [xg]; split <;> omega
  | n + 7 => simp only [xg]; split <;> omega
theorem i32_inj {a b : Int} (ha : xB a) (hb : xB b) : i32 a = i32 b ↔ a = b := ⟨fun e => by rw [← i32_toInt ha, ← i32_toInt hb, e], fun e => by rw [e]⟩
theorem i64_inj {a b : Int} (ha : xB a) (hb : xB b) : i64 a = i64 b ↔ a = b := by
  unfold xB at ha hb
  exact ⟨fun e => by rw [← i64_toInt (x := a) (by omega) (by omega), ← i64_toInt (x := b) (by omega) (by omega), e], fun e => by rw [e]⟩
theorem i32_0 : i32 0 = 0 := rfl
theorem i32_1 : i32 1 = 1 := rfl
theorem i64_0 : i64 0 = 0 := rfl
theorem i64_1 : i64 1 = 1 := rfl
theorem xB_0 : xB 0 := by unfold xB; omega
theorem xB_1 : xB 1 := by unfold xB; omega
/-! frames -/
def fx (X : Nat → Nat → Prop) (Y : Nat → Prop) (h h' : mmH) : Prop := (mm_kd h' = mm_kd h ∧ mm_ln h' = mm_ln h ∧ mm_gr h' = mm_gr h ∧ mm_sz h' = mm_sz h) ∧ (∀ c j, ¬ X c j → mm_gi h' c j = mm_gi h c j) ∧ (∀ c, ¬ Y c → mm_gl h' c = mm_gl h c) ∧ mm_gl h' 91 54 = mm_gl h 91 54
section
variable {X X' : Nat → Nat → Prop} {Y Y' : Nat → Prop} {h g k : mmH}
theorem fx_rf : fx X Y h h := ⟨⟨rfl, rfl, rfl, rfl⟩, fun _ _ _ => rfl, fun _ _ => rfl, rfl⟩
theorem fx_tr (a : fx X Y h g) (b : fx X Y g k) : fx X Y h k := ⟨⟨b.1.1.trans a.1.1, b.1.2.1.trans a.1.2.1, b.1.2.2.1.trans a.1.2.2.1, b.1.2.2.2.trans a.1.2.2.2⟩, fun c j z => (b.2.1 c j z).trans (a.2.1 c j z), fun c z => (b.2.2.1 c z).trans (a.2.2.1 c z), b.2.2.2.trans a.2.2.2⟩
theorem fx_mo (hX : ∀ c j, X c j → X' c j) (hY : ∀ c, Y c → Y' c) (a : fx X Y h g) : fx X' Y' h g := ⟨a.1, fun c j z => a.2.1 c j (fun y => z (hX c j y)), fun c z => a.2.2.1 c (fun y => z (hY c y)), a.2.2.2⟩
theorem fx_pi {c j : Nat} {x : Int32} (hX : X c j) (a : fx X Y h g) : fx X Y h (mm_pi g c j x) := ⟨a.1, fun b i z => by rw [mm_gi_pi, if_neg (fun y => z (by rw [y.1, y.2]; exact hX))]; exact a.2.1 b i z, a.2.2⟩
theorem fx_pl {c j : Nat} {x : Int64} (hY : Y c) (a : fx X Y h g) (hne : ¬ (c = 91 ∧ j = 54) := by omega) : fx X Y h (mm_pl g c j x) := ⟨a.1, a.2.1, fun b z => by
  have : ¬ b = c := fun y => z (by rw [y]; exact hY)
  rw [← a.2.2.1 b z]
  funext i
  rw [mm_gl_pl, if_neg (fun y => this y.1)], by rw [mm_gl_pl, if_neg (fun y => hne ⟨y.1.symm, y.2.symm⟩)]; exact a.2.2.2⟩
theorem fx_pa {c : Nat} {f : Nat → Int32} (hX : ∀ j, X c j) (a : fx X Y h g) : fx X Y h (mm_pa g c f) := ⟨a.1, fun b i z => by rw [mm_gi_pa, if_neg (fun y => z (by rw [y]; exact hX i))]; exact a.2.1 b i z, a.2.2⟩
theorem fx_WS (a : fx X Y h g) (H : WS h) : WS g := by
  unfold WS
  rw [a.1.1, a.1.2.1, a.1.2.2.1, a.1.2.2.2]
  exact H
theorem fx_hsh {c : Nat} (a : fx X Y h g) (H : hsh h c) : hsh g c := hsh_cg a.1.1 a.1.2.1 a.1.2.2.1 a.1.2.2.2 H
theorem fx_txS {c n m : Nat} (a : fx X Y h g) (H : txS h c n m) : txS g c n m := by
  unfold txS
  rw [a.1.1, a.1.2.1, a.1.2.2.1, a.1.2.2.2]
  exact H
end
/-! the pile in cells -/
def stk (f : Nat → Int32) : List Int → Prop
  | [] => True
  | a :: r => f r.length = i32 a ∧ stk f r
def stl (f : Nat → Int64) : List Int → Prop
  | [] => True
  | a :: r => f r.length = i64 a ∧ stl f r
theorem stk_cg {f g : Nat → Int32} : ∀ {st : List Int}, (∀ k, k < st.length → g k = f k) → stk f st → stk g st
  | [], _, _ => trivial
  | a :: r, e, h => ⟨by rw [e _ (by simp)]; exact h.1, stk_cg (fun k hk => e k (by simp; omega)) h.2⟩
theorem stl_cg {f g : Nat → Int64} : ∀ {st : List Int}, (∀ k, k < st.length → g k = f k) → stl f st → stl g st
  | [], _, _ => trivial
  | a :: r, e, h => ⟨by rw [e _ (by simp)]; exact h.1, stl_cg (fun k hk => e k (by simp; omega)) h.2⟩
/-! how the class and the model write the program down -/
def cst (k : Nat) : Nat := if k = 20 then 0 else k + 1
def cde (S V : Nat → Int32) (i : Nat) (x : Nat × Nat) : Prop := S i = nI (cst x.1) ∧ V i = nI x.2
def mst (k : Nat) : Nat := if k = 2 then 28 else if k = 3 then 30 else if k = 4 then 29 else 15 + k
def mwd (ord : Bool) (o a : Int32) (j : Nat) : Prop := match ord with
  | false => j < 10 ∧ o = nI (j + 1)
  | true => (j < 4 ∧ o = nI (j + 1)) ∨ (4 ≤ j ∧ j < 10 ∧ o = 5 ∧ a = nI (j - 4)) ∨ (10 ≤ j ∧ j < 16 ∧ o = 6 ∧ a = nI (j - 10))
def mde (ord : Bool) (o a : Int32) (x : Nat × Nat) : Prop := (x.1 = 0 → o = 0 ∧ a = nI x.2) ∧ (x.1 = 1 → mwd ord o a x.2) ∧ (2 ≤ x.1 → x.1 < 13 → o = nI (mst x.1)) ∧ (x.1 = 3 ∨ x.1 = 4 → a = nI x.2)
