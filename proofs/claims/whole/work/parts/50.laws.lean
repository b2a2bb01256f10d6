/-! laws: what they mean, and how the class and the model hold them -/
abbrev lwD : Type := Nat × (Nat → Nat) × (Nat → xE → Option Int) × (Nat → xE → Option Int)
/-- an expression in the class's text -/
def cEx (nw sz : Nat) (I : xIn) (x : Int32) (D : xE → Option Int) : Prop := ∃ p q w, x = nI p ∧ q < sz ∧ (I q).1 = 20 ∧ w ≤ 50 ∧ xP nw I p q w D
/-- and in the model's -/
def mEx (nw sz : Nat) (I : xIn) (x y : Int32) (D : xE → Option Int) : Prop := ∃ p q w, x = nI p ∧ y = nI q ∧ q ≤ sz ∧ w ≤ 50 ∧ xP nw I p q w D
def CLW (h : mmH) (t : Nat) (L : lwD) : Prop := ∃ n m sz I, TXP h t n m sz I ∧ mm_gi h t 0 = nI L.1 ∧ L.1 ≤ n ∧ n ≤ 12 ∧ ∀ i, i < L.1 → (mm_gi h (t + 1) i = nI (L.2.1 i) ∧ L.2.1 i < 4) ∧ ((mm_gi h (t + 5) i = -1 ∧ L.2.2.1 i = fun _ => some 1) ∨ cEx 10 sz I (mm_gi h (t + 5) i) (L.2.2.1 i)) ∧ (L.2.1 i = 0 → cEx 10 sz I (mm_gi h (t + 2) i) (L.2.2.2 i))
def MLW (f : Nat → Int32) (o : Nat) (L : lwD) : Prop := f (o + 1) = nI L.1 ∧ L.1 ≤ 12 ∧ ∃ sz I, sz ≤ 400 ∧ (∀ i, i < sz → mde false (f (o + 98 + 2 * i)) (f (o + 98 + 2 * i + 1)) (I i)) ∧ ∀ i, i < L.1 → (f (o + 2 + 8 * i) = nI (L.2.1 i) ∧ L.2.1 i < 4) ∧ (((∃ r, r ≤ 400 ∧ f (o + 2 + 8 * i + 5) = nI r ∧ f (o + 2 + 8 * i + 6) = nI r) ∧ L.2.2.1 i = fun _ => some 1) ∨ mEx 10 sz I (f (o + 2 + 8 * i + 5)) (f (o + 2 + 8 * i + 6)) (L.2.2.1 i)) ∧ (L.2.1 i = 0 → mEx 10 sz I (f (o + 2 + 8 * i + 3)) (f (o + 2 + 8 * i + 4)) (L.2.2.2 i))
/-- the law relation -/
def LRw (h : mmH) (t : Nat) (f : Nat → Int32) (o : Nat) : Prop := ∃ L : lwD, CLW h t L ∧ MLW f o L ∧ ∀ i, i < L.1 → xT 10 (L.2.2.1 i)
theorem CLW_cg {h h' : mmH} {t : Nat} {L : lwD} (e : ∀ c, t ≤ c → c ≤ t + 7 → c < mm_sz h → mm_kd h' c = mm_kd h c ∧ mm_ln h' c = mm_ln h c ∧ (∀ j, mm_gi h' c j = mm_gi h c j) ∧ ∀ j, mm_gr h' c j = mm_gr h c j) (es : mm_sz h ≤ mm_sz h') (H : CLW h t L) : CLW h' t L := by
  obtain ⟨n, m, sz, I, ⟨T, t2, t3, t4, t5, t6⟩, l1, l2, l3, l4⟩ := H
  have hz := T.1.2
  have e0 := e t (by omega) (by omega) (by omega)
  have ei : ∀ i, i ≤ 7 → mm_kd h' (t + i) = mm_kd h (t + i) ∧ mm_ln h' (t + i) = mm_ln h (t + i) ∧ (∀ j, mm_gi h' (t + i) j = mm_gi h (t + i) j) ∧ ∀ j, mm_gr h' (t + i) j = mm_gr h (t + i) j := fun i hi => e (t + i) (by omega) (by omega) (by omega)
  refine ⟨n, m, sz, I, ⟨?_, t2, ?_, t4, t5, fun i hi => ?_⟩, ?_, l2, l3, fun i hi => ?_⟩
  · obtain ⟨⟨a1, a2⟩, ⟨b1, b2, b3, b4, b5, b6, b7⟩, ⟨c1, c2, c3, c4, c5, c6, c7⟩, d1, d2, d3, d4, d5, d6, d7⟩ := T
    refine ⟨⟨e0.1.trans a1, by omega⟩, ⟨?_, ?_, ?_, ?_, ?_, ?_, ?_⟩, ⟨?_, ?_, ?_, ?_, ?_, ?_, ?_⟩, ?_, ?_, ?_, ?_, ?_, ?_, ?_⟩
    · rw [e0.2.2.2]; exact b1
    · rw [e0.2.2.2]; exact b2
    · rw [e0.2.2.2]; exact b3
    · rw [e0.2.2.2]; exact b4
    · rw [e0.2.2.2]; exact b5
    · rw [e0.2.2.2]; exact b6
    · rw [e0.2.2.2]; exact b7
    · rw [(ei 1 (by decide)).1]; exact c1
    · rw [(ei 2 (by decide)).1]; exact c2
    · rw [(ei 3 (by decide)).1]; exact c3
    · rw [(ei 4 (by decide)).1]; exact c4
    · rw [(ei 5 (by decide)).1]; exact c5
    · rw [(ei 6 (by decide)).1]; exact c6
    · rw [(ei 7 (by decide)).1]; exact c7
    · rw [(ei 1 (by decide)).2.1]; exact d1
    · rw [(ei 2 (by decide)).2.1]; exact d2
    · rw [(ei 3 (by decide)).2.1]; exact d3
    · rw [(ei 4 (by decide)).2.1]; exact d4
    · rw [(ei 5 (by decide)).2.1]; exact d5
    · rw [(ei 6 (by decide)).2.1]; exact d6
    · rw [(ei 7 (by decide)).2.1]; exact d7
  · rw [e0.2.2.1]; exact t3
  · unfold cde
    rw [(ei 6 (by decide)).2.2.1, (ei 7 (by decide)).2.2.1]
    exact t6 i hi
  · rw [e0.2.2.1]; exact l1
  · rw [(ei 1 (by decide)).2.2.1, (ei 5 (by decide)).2.2.1, (ei 2 (by decide)).2.2.1]
    exact l4 i hi
theorem MLW_cg {f f' : Nat → Int32} {o o' : Nat} {L : lwD} (e : ∀ j, j < 900 → f' (o' + j) = f (o + j)) (H : MLW f o L) : MLW f' o' L := by
  obtain ⟨l1, l2, sz, I, l3, l4, l5⟩ := H
  have e2 : ∀ j, j < 900 → ∀ a b, a = o' + j → b = o + j → f' a = f b := fun j hj a b ha hb => by rw [ha, hb]; exact e j hj
  refine ⟨(e2 1 (by decide) _ _ rfl rfl).trans l1, l2, sz, I, l3, fun i hi => ?_, fun i hi => ?_⟩
  · rw [e2 (98 + 2 * i) (by omega) (o' + 98 + 2 * i) (o + 98 + 2 * i) (by omega) (by omega), e2 (98 + 2 * i + 1) (by omega) (o' + 98 + 2 * i + 1) (o + 98 + 2 * i + 1) (by omega) (by omega)]
    exact l4 i hi
  · rw [e2 (2 + 8 * i) (by omega) (o' + 2 + 8 * i) (o + 2 + 8 * i) (by omega) (by omega), e2 (2 + 8 * i + 5) (by omega) (o' + 2 + 8 * i + 5) (o + 2 + 8 * i + 5) (by omega) (by omega), e2 (2 + 8 * i + 6) (by omega) (o' + 2 + 8 * i + 6) (o + 2 + 8 * i + 6) (by omega) (by omega), e2 (2 + 8 * i + 3) (by omega) (o' + 2 + 8 * i + 3) (o + 2 + 8 * i + 3) (by omega) (by omega), e2 (2 + 8 * i + 4) (by omega) (o' + 2 + 8 * i + 4) (o + 2 + 8 * i + 4) (by omega) (by omega)]
    exact l5 i hi
theorem FRw : LRf LRw := by
  intro h h' t f f' o o' ht H e es ef
  obtain ⟨L, c, m, x⟩ := H
  exact ⟨L, CLW_cg (fun c c1 c2 c3 => e c (by omega) c3) es c, MLW_cg ef m, x⟩
/-- what the words of a law mean -/
def lA (l : Option Nat) : Int32 := match l with
  | none => -1
  | some l => nI l
def lE (S : HSt) (c : Nat) (l : Option Nat) (tr : Int) (kn dy : Nat) : xE := fun j => match j with
  | 0 => c
  | 1 => match l with | none => -1 | some l => l
  | 2 => tr
  | 3 => pop kn
  | 4 => S 3 c
  | 5 => S 2 c
  | 6 => match l with | none => -1 | some l => S 6 l
  | 7 => match l with | none => -1 | some l => pop (S 5 l &&& kn)
  | 8 => dy
  | _ => S 9 2
/-- a house as it may be on paper: any day up to 1999 -/
def HVx (S : HSt) : Prop := (S 0 0 ≤ 8 ∧ S 0 1 ≤ 6 ∧ S 0 2 ≤ 8 ∧ S 0 3 ≤ 6 ∧ S 0 4 < 2 ^ S 0 0 ∧ S 0 5 ≤ S 0 3) ∧ (∀ c, c < S 0 1 → S 1 c < 256 ∧ S 2 c ≤ 99 ∧ 1 ≤ S 3 c ∧ S 3 c ≤ 8) ∧ (∀ l, l < S 0 0 → S 4 l < 256 ∧ S 5 l < 256 ∧ S 6 l ≤ 9) ∧ (∀ t, t < S 0 2 → S 7 t < 8 ∧ S 8 t < 2) ∧ S 9 0 ≤ 1999 ∧ S 9 1 ≤ 10 ∧ S 9 2 ≤ 9
theorem HV_x {S : HSt} (v : HV S) : HVx S := ⟨v.1, v.2.1, v.2.2.1, v.2.2.2.1, Nat.le_trans (v.2.2.2.2 0 (by decide)) (by decide), v.2.2.2.2 1 (by decide), v.2.2.2.2 2 (by decide)⟩
theorem lE_ok {S : HSt} {c : Nat} {l : Option Nat} {tr : Int} {kn dy : Nat} (v : HVx S) (hc : c < S 0 1) (hl : ∀ i, l = some i → i < S 0 0) (ht : -1 ≤ tr ∧ tr ≤ 7) (hd : dy ≤ 2000) : xOk 10 (lE S c l tr kn dy) := by
  obtain ⟨⟨v1, v2, v3, v4, v5, v6⟩, w1, w2, w3, w4⟩ := v
  have a1 := w1 c hc
  have a2 := w4.2.2
  have a3 := pop_le kn
  intro j hj
  unfold xB
  match j, hj with
  | 0, _ => simp only [lE]; omega
  | 1, _ => cases l with
    | none => simp only [lE]; omega
    | some l => have := hl l rfl; simp only [lE]; omega
  | 2, _ => simp only [lE]; omega
  | 3, _ => simp only [lE]; omega
  | 4, _ => simp only [lE]; omega
  | 5, _ => simp only [lE]; omega
  | 6, _ => cases l with
    | none => simp only [lE]; omega
    | some l => have := w2 l (hl l rfl); simp only [lE]; omega
  | 7, _ => cases l with
    | none => simp only [lE]; omega
    | some l => have := pop_le (S 5 l &&& kn); simp only [lE]; omega
  | 8, _ => simp only [lE]; omega
  | 9, _ => simp only [lE]; omega
/-- what holds, what is told -/
def aH (A : Option lwD) (kind : Nat) (E : xE) : Prop := ∃ L, A = some L ∧ ∃ i, i < L.1 ∧ L.2.1 i = kind ∧ L.2.2.1 i E = some 1
def lwW (L : lwD) (E : xE) : Nat → Option Int
  | 0 => none
  | n + 1 => if L.2.1 n = 0 ∧ L.2.2.1 n E = some 1 ∧ L.2.2.2 n E ≠ none then L.2.2.2 n E else lwW L E n
def clp (x : Int) : Nat := if x < 0 then 0 else if 99 < x then 99 else x.toNat
def aW (A : Option lwD) (E : xE) (sv : Nat) : Nat := match A with
  | none => sv
  | some L => match lwW L E L.1 with
    | none => sv
    | some x => clp x
/-- the law in force -/
def CAL (h : mmH) (a : Nat) (S : HSt) (A : Option lwD) : Prop := (∀ j, j < S 0 3 → ∃ t, mm_gr h (a + 10) j = some t) ∧ ((S 0 5 = 0 ∧ A = none) ∨ ∃ t L, 0 < S 0 5 ∧ mm_gr h (a + 10) (S 0 5 - 1) = some t ∧ 122 ≤ t ∧ CLW h t L ∧ (∀ i, i < L.1 → xT 10 (L.2.2.1 i)) ∧ A = some L)
def MAL (f : Nat → Int32) (S : HSt) (A : Option lwD) : Prop := (S 0 5 = 0 ∧ A = none) ∨ ∃ L, 0 < S 0 5 ∧ S 0 5 ≤ 6 ∧ MLW f (75 + 900 * (S 0 5 - 1)) L ∧ (∀ i, i < L.1 → xT 10 (L.2.2.1 i)) ∧ A = some L
theorem AL_of {h : mmH} {a : Nat} {f : Nat → Int32} {S : HSt} (v : HV S) (H : HLw LRw h a f 0 (S 0 3)) : ∃ A, CAL h a S A ∧ MAL f S A := by
  have h1 : ∀ j, j < S 0 3 → ∃ t, mm_gr h (a + 10) j = some t := fun j hj => by
    obtain ⟨t, e, _⟩ := H.1 j hj
    exact ⟨t, e⟩
  have v6 := v.1.2.2.2.2.2
  have v4 := v.1.2.2.2.1
  by_cases z : S 0 5 = 0
  · exact ⟨none, ⟨h1, Or.inl ⟨z, rfl⟩⟩, Or.inl ⟨z, rfl⟩⟩
  · obtain ⟨t, e, ht, L, c, m, x⟩ := H.1 (S 0 5 - 1) (by omega)
    rw [show 0 + 75 + 900 * (S 0 5 - 1) = 75 + 900 * (S 0 5 - 1) by omega] at m
    exact ⟨some L, ⟨h1, Or.inr ⟨t, L, by omega, e, ht, c, x, rfl⟩⟩, Or.inr ⟨L, by omega, by omega, m, x, rfl⟩⟩
theorem nI_m1 {n : Nat} (h : n < 2 ^ 31) : ¬ nI n = -1 := fun z => by
  have := congrArg Int32.toInt z
  rw [nI_toInt h, ti_m1] at this
  omega
