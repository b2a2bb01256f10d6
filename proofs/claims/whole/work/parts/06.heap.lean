/-! stores to locals -/
def mm_kl : Option Value → Option Value
  | some (.long _) => none
  | some (.double _) => none
  | x => x
def mm_s1 : mmL → Nat → Value → mmL
  | [], _, _ => []
  | _ :: r, 0, v => some v :: r
  | x :: r, 1, v => mm_kl x :: mm_s1 r 0 v
  | x :: r, i + 2, v => x :: mm_s1 r (i + 1) v
def mm_s2 : mmL → Nat → Value → mmL
  | [], _, _ => []
  | [_], 0, v => [some v]
  | _ :: _ :: r, 0, v => some v :: none :: r
  | x :: r, 1, v => mm_kl x :: mm_s2 r 0 v
  | x :: r, i + 2, v => x :: mm_s2 r (i + 1) v
theorem mm_kl_some {x : Option Value} {w : Value} (h : mm_kl x = some w) : x = some w ∧ ¬ w.category = 2 := by
  cases x with
  | none => cases h
  | some v => cases v <;> cases h <;> exact ⟨rfl, by simp [Value.category]⟩
theorem mm_s1_ld : ∀ (lv : mmL) (i j : Nat) (v w : Value), mm_ld (mm_s1 lv i v) j = some w → (j = i ∧ w = v) ∨ (j ≠ i ∧ mm_ld lv j = some w ∧ ¬ (j + 1 = i ∧ w.category = 2)) := by
  intro lv
  induction lv with
  | nil => intro i j v w h; simp [mm_s1, mm_ld] at h
  | cons x r ih =>
    intro i j v w h
    match i, j with
    | 0, 0 => simp only [mm_s1, mm_ld, Option.some.injEq] at h; exact Or.inl ⟨rfl, h.symm⟩
    | 0, j + 1 => simp only [mm_s1, mm_ld] at h; exact Or.inr ⟨by omega, h, by omega⟩
    | 1, 0 =>
      simp only [mm_s1, mm_ld] at h
      obtain ⟨h1, h2⟩ := mm_kl_some h
      exact Or.inr ⟨by omega, h1, fun z => h2 z.2⟩
    | 1, j + 1 =>
      simp only [mm_s1, mm_ld] at h
      rcases ih 0 j v w h with ⟨h1, h2⟩ | ⟨h1, h2, h3⟩
      · exact Or.inl ⟨by omega, h2⟩
      · exact Or.inr ⟨by omega, h2, by omega⟩
    | i + 2, 0 => simp only [mm_s1, mm_ld] at h; exact Or.inr ⟨by omega, h, by omega⟩
    | i + 2, j + 1 =>
      simp only [mm_s1, mm_ld] at h
      rcases ih (i + 1) j v w h with ⟨h1, h2⟩ | ⟨h1, h2, h3⟩
      · exact Or.inl ⟨by omega, h2⟩
      · exact Or.inr ⟨by omega, h2, fun z => h3 ⟨by omega, z.2⟩⟩
theorem mm_s2_ld : ∀ (lv : mmL) (i j : Nat) (v w : Value), mm_ld (mm_s2 lv i v) j = some w → (j = i ∧ w = v) ∨ (j ≠ i ∧ j ≠ i + 1 ∧ mm_ld lv j = some w ∧ ¬ (j + 1 = i ∧ w.category = 2)) := by
  intro lv
  induction lv with
  | nil => intro i j v w h; simp [mm_s2, mm_ld] at h
  | cons x r ih =>
    intro i j v w h
    match i, j, r with
    | 0, 0, [] => simp only [mm_s2, mm_ld, Option.some.injEq] at h; exact Or.inl ⟨rfl, h.symm⟩
    | 0, j + 1, [] => simp [mm_s2, mm_ld] at h
    | 0, 0, y :: r => simp only [mm_s2, mm_ld, Option.some.injEq] at h; exact Or.inl ⟨rfl, h.symm⟩
    | 0, 1, y :: r => simp [mm_s2, mm_ld] at h
    | 0, j + 2, y :: r => simp only [mm_s2, mm_ld] at h; exact Or.inr ⟨by omega, by omega, h, by omega⟩
    | 1, 0, r =>
      simp only [mm_s2, mm_ld] at h
      obtain ⟨h1, h2⟩ := mm_kl_some h
      exact Or.inr ⟨by omega, by omega, h1, fun z => h2 z.2⟩
    | 1, j + 1, r =>
      simp only [mm_s2, mm_ld] at h
      rcases ih 0 j v w h with ⟨h1, h2⟩ | ⟨h1, h4, h2, h3⟩
      · exact Or.inl ⟨by omega, h2⟩
      · exact Or.inr ⟨by omega, by omega, h2, by omega⟩
    | i + 2, 0, r => simp only [mm_s2, mm_ld] at h; exact Or.inr ⟨by omega, by omega, h, by omega⟩
    | i + 2, j + 1, r =>
      simp only [mm_s2, mm_ld] at h
      rcases ih (i + 1) j v w h with ⟨h1, h2⟩ | ⟨h1, h4, h2, h3⟩
      · exact Or.inl ⟨by omega, h2⟩
      · exact Or.inr ⟨by omega, by omega, h2, fun z => h3 ⟨by omega, z.2⟩⟩
theorem mm_mem_ld : ∀ {lv : mmL} {v : Value}, some v ∈ lv → ∃ i, mm_ld lv i = some v := by
  intro lv
  induction lv with
  | nil => intro v h; cases h
  | cons x r ih =>
    intro v h
    rcases List.mem_cons.mp h with h | h
    · exact ⟨0, h.symm⟩
    · obtain ⟨i, hi⟩ := ih h
      exact ⟨i + 1, hi⟩
theorem mm_has_sub {ls : Array Slot} {nL : Nat} {l l' : List (Nat × Value)} (h : lv_has ls nL l) (hs : ∀ q ∈ l', q ∈ l) : lv_has ls nL l' := ⟨h.1, h.2.1, fun q hq => h.2.2 q (hs q hq)⟩
theorem mm_has1 {ls : Array Slot} {nL i : Nat} {lv : mmL} {G : mmG} {ρ : Nat → Nat} {v : Value} (h : lv_has ls nL ((i, mm_tv G ρ v) :: (mm_al G ρ 0 lv).filter (fun q => !(q.1 == i) && !(q.1 + 1 == i && q.2.category == 2)))) : lv_has ls nL (mm_al G ρ 0 (mm_s1 lv i v)) := by
  refine mm_has_sub h (fun q hq => ?_)
  obtain ⟨j, w, h1, rfl⟩ := (mm_al_in _ 0 q).mp hq
  rcases mm_s1_ld lv i j v w h1 with ⟨rfl, rfl⟩ | ⟨h2, h3, h4⟩
  · simp
  · refine List.mem_cons_of_mem _ (List.mem_filter.mpr ⟨(mm_al_in lv 0 _).mpr ⟨j, w, h3, rfl⟩, ?_⟩)
    simp only [mm_tv_cat, Bool.and_eq_true, Bool.not_eq_true', beq_eq_false_iff_ne, Bool.and_eq_false_iff, Nat.zero_add]
    refine ⟨h2, ?_⟩
    by_cases z : j + 1 = i
    · exact Or.inr (fun y => h4 ⟨z, y⟩)
    · exact Or.inl z
theorem mm_has2 {ls : Array Slot} {nL i : Nat} {lv : mmL} {G : mmG} {ρ : Nat → Nat} {v : Value} (h : lv_has ls nL ((i, mm_tv G ρ v) :: (mm_al G ρ 0 lv).filter (fun q => !(q.1 == i) && (!(q.1 == i + 1) && !(q.1 + 1 == i && q.2.category == 2))))) : lv_has ls nL (mm_al G ρ 0 (mm_s2 lv i v)) := by
  refine mm_has_sub h (fun q hq => ?_)
  obtain ⟨j, w, h1, rfl⟩ := (mm_al_in _ 0 q).mp hq
  rcases mm_s2_ld lv i j v w h1 with ⟨rfl, rfl⟩ | ⟨h2, h5, h3, h4⟩
  · simp
  · refine List.mem_cons_of_mem _ (List.mem_filter.mpr ⟨(mm_al_in lv 0 _).mpr ⟨j, w, h3, rfl⟩, ?_⟩)
    simp only [mm_tv_cat, Bool.and_eq_true, Bool.not_eq_true', beq_eq_false_iff_ne, Bool.and_eq_false_iff, Nat.zero_add]
    refine ⟨h2, h5, ?_⟩
    by_cases z : j + 1 = i
    · exact Or.inr (fun y => h4 ⟨z, y⟩)
    · exact Or.inl z
theorem mm_vok_s1 {h : mmH} {lv : mmL} {i : Nat} {x : Value} (hx : mm_vok h x) (hv : ∀ v, some v ∈ lv → mm_vok h v) : ∀ v, some v ∈ mm_s1 lv i x → mm_vok h v := by
  intro v hm
  obtain ⟨j, hj⟩ := mm_mem_ld hm
  rcases mm_s1_ld lv i j x v hj with ⟨-, rfl⟩ | ⟨-, h3, -⟩
  · exact hx
  · exact hv v (mm_ld_mem h3)
theorem mm_vok_s2 {h : mmH} {lv : mmL} {i : Nat} {x : Value} (hx : mm_vok h x) (hv : ∀ v, some v ∈ lv → mm_vok h v) : ∀ v, some v ∈ mm_s2 lv i x → mm_vok h v := by
  intro v hm
  obtain ⟨j, hj⟩ := mm_mem_ld hm
  rcases mm_s2_ld lv i j x v hj with ⟨-, rfl⟩ | ⟨-, -, h3, -⟩
  · exact hx
  · exact hv v (mm_ld_mem h3)
theorem mm_stor {q : mmM} {d : Nat} {b : Nat × Nat} {Q : Option Value → mmH → Prop} {pc pc' : Nat} {lv lv' : mmL} {st st' : List Value} {h : mmH}
    (hlv : (∀ v, some v ∈ lv → mm_vok h v) → (∀ v ∈ st, mm_vok h v) → ∀ v, some v ∈ lv' → mm_vok h v) (hst : ∀ v ∈ st', v ∈ st)
    (hW : ∀ (p : Program) (l : Launch) (e : Env) (R : Room) (s : State) (m : MethodId) (args : Array Value) (below : List Frame) (meth : Method) (c : Code) (G : mmG) (ρ : Nat → Nat) (H : Heap) (locs : List Loc) (cells slots : Nat) (Z : State → Prop) (ls : Array Slot), p.tables.exec = Jvm.exec → c.code = q.2.1 → lv_has ls q.2.2.1 (mm_al G ρ 0 lv) →
      (∀ ls' : Array Slot, lv_has ls' q.2.2.1 (mm_al G ρ 0 lv') → W p l e R s m args below meth c H locs cells slots Z (F0 m pc' ls' (st'.map (mm_tv G ρ)))) → W p l e R s m args below meth c H locs cells slots Z (F0 m pc ls (st.map (mm_tv G ρ))))
    (k : mm_V q d b Q pc' lv' st' h) : mm_V q d b Q pc lv st h := by
  intro p l e R s m args below meth c G A ρ ρ0 n0 H locs cells slots MC MS ls hX hS hR hn hρ hc hm hl hv hvs
  exact hW p l e R s m args below meth c G ρ H locs cells slots _ ls hX.1.1 hX.1.2.1 hl (fun ls' hl' => k p l e R s m args below meth c G A ρ ρ0 n0 H locs cells slots MC MS ls' hX hS hR hn hρ hc hm hl' (hlv hv hvs) (fun v hm => hvs v (hst v hm)))
section
variable {q : mmM} {d : Nat} {b : Nat × Nat} {Q : Option Value → mmH → Prop} {pc : Nat} {K : mmK}
def s_is (i : Nat) (K : mmK) : mmK := fun lv st h => match st with
  | .int x :: r => K (mm_s1 lv i (.int x)) r h
  | _ => False
def s_ls (i : Nat) (K : mmK) : mmK := fun lv st h => match st with
  | .long x :: r => K (mm_s2 lv i (.long x)) r h
  | _ => False
def s_as (i : Nat) (K : mmK) : mmK := fun lv st h => match st with
  | .ref x :: r => K (mm_s1 lv i (.ref x)) r h
  | .null :: r => K (mm_s1 lv i .null) r h
  | .retAddr x :: r => K (mm_s1 lv i (.retAddr x)) r h
  | _ => False
def s_ii (i : Nat) (n : Int32) (K : mmK) : mmK := fun lv st h => match mm_ld lv i with
  | some (.int x) => K (mm_s1 lv i (.int (x + n))) st h
  | _ => False
theorem v_istore {i : Nat} (hd : decode q.2.1 pc = .ok (.istore i, 2)) (hn : i < q.2.2.1) (hK : ∀ lv st h, K lv st h → mm_V q d b Q (pc + 2) lv st h) (lv : mmL) (st : List Value) (h : mmH) (hs : s_is i K lv st h) : mm_V q d b Q pc lv st h := by
  unfold s_is at hs
  split at hs
  · exact mm_stor (fun h1 h2 => mm_vok_s1 (mm_vok_i _ _) h1) (fun v hm => List.mem_cons_of_mem _ hm) (fun p l e R s m args below meth c G ρ H locs cells slots Z ls hx hb hl kW => lv_istore hx hb hd hl hn rfl (fun ls' hl' => kW ls' (mm_has1 (v := .int _) hl'))) (hK _ _ _ hs)
  · exact hs.elim
theorem v_istore_n {k : Fin 4} {i : Nat} (hd : decode q.2.1 pc = .ok (.istore_n k, 1)) (hi : (k : Nat) = i) (hn : i < q.2.2.1) (hK : ∀ lv st h, K lv st h → mm_V q d b Q (pc + 1) lv st h) (lv : mmL) (st : List Value) (h : mmH) (hs : s_is i K lv st h) : mm_V q d b Q pc lv st h := by
  unfold s_is at hs
  split at hs
  · exact mm_stor (fun h1 h2 => mm_vok_s1 (mm_vok_i _ _) h1) (fun v hm => List.mem_cons_of_mem _ hm) (fun p l e R s m args below meth c G ρ H locs cells slots Z ls hx hb hl kW => lv_istore_n hx hb hd hi hl hn rfl (fun ls' hl' => kW ls' (mm_has1 (v := .int _) hl'))) (hK _ _ _ hs)
  · exact hs.elim
theorem v_lstore {i : Nat} (hd : decode q.2.1 pc = .ok (.lstore i, 2)) (hn : i + 1 < q.2.2.1) (hK : ∀ lv st h, K lv st h → mm_V q d b Q (pc + 2) lv st h) (lv : mmL) (st : List Value) (h : mmH) (hs : s_ls i K lv st h) : mm_V q d b Q pc lv st h := by
  unfold s_ls at hs
  split at hs
  · exact mm_stor (fun h1 h2 => mm_vok_s2 (mm_vok_l _ _) h1) (fun v hm => List.mem_cons_of_mem _ hm) (fun p l e R s m args below meth c G ρ H locs cells slots Z ls hx hb hl kW => lv_lstore hx hb hd hl hn rfl (fun ls' hl' => kW ls' (mm_has2 (v := .long _) hl'))) (hK _ _ _ hs)
  · exact hs.elim
theorem v_lstore_n {k : Fin 4} {i : Nat} (hd : decode q.2.1 pc = .ok (.lstore_n k, 1)) (hi : (k : Nat) = i) (hn : i + 1 < q.2.2.1) (hK : ∀ lv st h, K lv st h → mm_V q d b Q (pc + 1) lv st h) (lv : mmL) (st : List Value) (h : mmH) (hs : s_ls i K lv st h) : mm_V q d b Q pc lv st h := by
  unfold s_ls at hs
  split at hs
  · exact mm_stor (fun h1 h2 => mm_vok_s2 (mm_vok_l _ _) h1) (fun v hm => List.mem_cons_of_mem _ hm) (fun p l e R s m args below meth c G ρ H locs cells slots Z ls hx hb hl kW => lv_lstore_n hx hb hd hi hl hn rfl (fun ls' hl' => kW ls' (mm_has2 (v := .long _) hl'))) (hK _ _ _ hs)
  · exact hs.elim
theorem v_astore {i : Nat} (hd : decode q.2.1 pc = .ok (.astore i, 2)) (hn : i < q.2.2.1) (hK : ∀ lv st h, K lv st h → mm_V q d b Q (pc + 2) lv st h) (lv : mmL) (st : List Value) (h : mmH) (hs : s_as i K lv st h) : mm_V q d b Q pc lv st h := by
  unfold s_as at hs
  split at hs
  · exact mm_stor (fun h1 h2 => mm_vok_s1 (h2 _ List.mem_cons_self) h1) (fun v hm => List.mem_cons_of_mem _ hm) (fun p l e R s m args below meth c G ρ H locs cells slots Z ls hx hb hl kW => lv_astore hx hb hd hl hn rfl (fun ls' hl' => kW ls' (mm_has1 (v := .ref _) hl'))) (hK _ _ _ hs)
  · exact mm_stor (fun h1 h2 => mm_vok_s1 (h2 _ List.mem_cons_self) h1) (fun v hm => List.mem_cons_of_mem _ hm) (fun p l e R s m args below meth c G ρ H locs cells slots Z ls hx hb hl kW => lv_astoreN hx hb hd hl hn rfl (fun ls' hl' => kW ls' (mm_has1 (v := .null) hl'))) (hK _ _ _ hs)
  · exact mm_stor (fun h1 h2 => mm_vok_s1 (h2 _ List.mem_cons_self) h1) (fun v hm => List.mem_cons_of_mem _ hm) (fun p l e R s m args below meth c G ρ H locs cells slots Z ls hx hb hl kW => lv_astore hx hb hd hl hn rfl (fun ls' hl' => kW ls' (mm_has1 (v := .retAddr _) hl'))) (hK _ _ _ hs)
  · exact hs.elim
theorem v_astore_n {k : Fin 4} {i : Nat} (hd : decode q.2.1 pc = .ok (.astore_n k, 1)) (hi : (k : Nat) = i) (hn : i < q.2.2.1) (hK : ∀ lv st h, K lv st h → mm_V q d b Q (pc + 1) lv st h) (lv : mmL) (st : List Value) (h : mmH) (hs : s_as i K lv st h) : mm_V q d b Q pc lv st h := by
  unfold s_as at hs
  split at hs
  · exact mm_stor (fun h1 h2 => mm_vok_s1 (h2 _ List.mem_cons_self) h1) (fun v hm => List.mem_cons_of_mem _ hm) (fun p l e R s m args below meth c G ρ H locs cells slots Z ls hx hb hl kW => lv_astore_n hx hb hd hi hl hn rfl (fun ls' hl' => kW ls' (mm_has1 (v := .ref _) hl'))) (hK _ _ _ hs)
  · exact mm_stor (fun h1 h2 => mm_vok_s1 (h2 _ List.mem_cons_self) h1) (fun v hm => List.mem_cons_of_mem _ hm) (fun p l e R s m args below meth c G ρ H locs cells slots Z ls hx hb hl kW => lv_astore_nN hx hb hd hi hl hn rfl (fun ls' hl' => kW ls' (mm_has1 (v := .null) hl'))) (hK _ _ _ hs)
  · exact mm_stor (fun h1 h2 => mm_vok_s1 (h2 _ List.mem_cons_self) h1) (fun v hm => List.mem_cons_of_mem _ hm) (fun p l e R s m args below meth c G ρ H locs cells slots Z ls hx hb hl kW => lv_astore_n hx hb hd hi hl hn rfl (fun ls' hl' => kW ls' (mm_has1 (v := .retAddr _) hl'))) (hK _ _ _ hs)
  · exact hs.elim
theorem v_iinc {i : Nat} {n : Int} {x0 : Int32} (hd : decode q.2.1 pc = .ok (.iinc i n, 3)) (hx0 : Int32.ofInt n = x0) (hn : i < q.2.2.1) (hK : ∀ lv st h, K lv st h → mm_V q d b Q (pc + 3) lv st h) (lv : mmL) (st : List Value) (h : mmH) (hs : s_ii i x0 K lv st h) : mm_V q d b Q pc lv st h := by
  unfold s_ii at hs
  split at hs
  · rename_i x hx9
    refine mm_stor (fun h1 h2 => mm_vok_s1 (mm_vok_i _ _) h1) (fun v hm => hm) (fun p l e R s m args below meth c G ρ H locs cells slots Z ls hx hb hl kW => ?_) (hK _ _ _ hs)
    obtain ⟨k, hk⟩ := List.getElem?_of_mem ((mm_al_in (G := G) (ρ := ρ) lv 0 (i, .int x)).mpr ⟨i, .int x, hx9, by simp [mm_tv]⟩)
    exact lv_iinc hx hb hd hl hk (by rw [hx0]) hn rfl (fun ls' hl' => kW ls' (mm_has1 (v := .int _) hl'))
  · exact hs.elim
end
/-! cells -/
theorem mm_ce_obj {G : mmG} {ρ : Nat → Nat} {h : mmH} {a ci : Nat} (hk : mm_kd h a = ci) (hc : ci < 11) : mm_ce G ρ h a = .inr (ci, (List.range (mm_N ci)).map (mm_fv ρ h a ci)) := by
  subst hk
  unfold mm_ce
  rw [if_neg (by omega), if_neg (by omega), if_neg (by omega), if_neg (by omega), if_neg (by omega)]
theorem mm_ce_100 {G : mmG} {ρ : Nat → Nat} {h : mmH} {a : Nat} (hk : mm_kd h a = 100) : mm_ce G ρ h a = .inl (G.2.1 0, mm_ln h a, .inl (mm_gi h a)) := by simp [mm_ce, hk]
theorem mm_ce_101 {G : mmG} {ρ : Nat → Nat} {h : mmH} {a : Nat} (hk : mm_kd h a = 101) : mm_ce G ρ h a = .inl (G.2.1 1, mm_ln h a, .inr (.inl (mm_gl h a))) := by simp [mm_ce, hk]
theorem mm_ce_102 {G : mmG} {ρ : Nat → Nat} {h : mmH} {a : Nat} (hk : mm_kd h a = 102) : mm_ce G ρ h a = .inl (G.2.1 2, mm_ln h a, .inl (mm_gi h a)) := by simp [mm_ce, hk]
theorem mm_ce_103 {G : mmG} {ρ : Nat → Nat} {h : mmH} {a : Nat} (hk : mm_kd h a = 103) : mm_ce G ρ h a = .inl (G.2.1 3, mm_ln h a, .inr (.inr (.inr (.inr fun k => (mm_gr h a k).map ρ)))) := by simp [mm_ce, hk]
theorem mm_ce_104 {G : mmG} {ρ : Nat → Nat} {h : mmH} {a : Nat} (hk : mm_kd h a = 104) : mm_ce G ρ h a = .inl (G.2.1 4, mm_ln h a, .inr (.inr (.inr (.inr fun k => (mm_gr h a k).map ρ)))) := by simp [mm_ce, hk]
/-- a cell depends on its own slots alone -/
theorem mm_ce_cg {G : mmG} {ρ ρ' : Nat → Nat} {h h' : mmH} {a : Nat} (h1 : mm_kd h' a = mm_kd h a) (h2 : mm_ln h' a = mm_ln h a) (h3 : mm_gi h' a = mm_gi h a) (h4 : mm_gl h' a = mm_gl h a) (h5 : ∀ k, (mm_gr h' a k).map ρ' = (mm_gr h a k).map ρ) : mm_ce G ρ' h' a = mm_ce G ρ h a := by
  have e5 : (fun k => (mm_gr h' a k).map ρ') = fun k => (mm_gr h a k).map ρ := funext h5
  have e6 : mm_fv ρ' h' a (mm_kd h a) = mm_fv ρ h a (mm_kd h a) := by
    funext k
    unfold mm_fv
    rw [h3, h4, h5]
  unfold mm_ce
  rw [h1, h2, h3, h4, e5, e6]
theorem mm_fs_set {N k : Nat} {f g : Nat → Value} {v : Value} (hk : k < N) (h1 : g k = v) (h2 : ∀ j, j ≠ k → g j = f j) : ((List.range N).map f).set k v = (List.range N).map g := by
  apply List.ext_getElem?
  intro i
  rw [List.getElem?_set]
  by_cases z : k = i
  · subst z
    simp [hk, h1]
  · rw [if_neg z]
    by_cases hi : i < N
    · simp [hi, h2 i (fun y => z y.symm)]
    · simp [hi]
def mm_fl (own : String) (idx ci k : Nat) : Prop := (ci < 11 ∧ k < mm_N ci) ∧ (Cond.fieldLink own idx (mm_T ci k).1 (mm_T ci k).2.1 (mm_T ci k).2.2.1 ∈ mm_tb ∨ ∃ host, Cond.fieldLinkNest own idx (mm_T ci k).1 (mm_T ci k).2.1 (mm_T ci k).2.2.1 host ∈ mm_tb)
theorem mm_getW {q : mmM} {d MC MS pc idx ci k a : Nat} {p : Program} {l : Launch} {e : Env} {R : Room} {s : State} {m : MethodId} {args : Array Value} {below : List Frame} {meth : Method} {c : Code} {G : mmG} {A : Nat → Prop} {ρ : Nat → Nat} {h : mmH} {H : Heap} {locs : List Loc} {cells slots : Nat} {Z : State → Prop} {ls : Array Slot} {rest : List Value} (hX : mm_CX p R s m args meth c G A q d MC MS) (hR : mm_RL G A ρ h H) (hd : decode q.2.1 pc = .ok (.getfield idx, 3)) (hw : mm_fl q.1.cls idx ci k) (hk : mm_kd h a = ci) (ha : a < mm_sz h)
    (kk : W p l e R s m args below meth c H locs cells slots Z (F0 m (pc + 3) ls (mm_fv ρ h a ci k :: rest))) : W p l e R s m args below meth c H locs cells slots Z (F0 m pc ls (.ref (ρ a) :: rest)) := by
  obtain ⟨⟨hx, hb, hml, hown, hts⟩, -, -, -, hG, -⟩ := hX
  obtain ⟨⟨hci, hkN⟩, hw⟩ := hw
  have he : (mm_wl G ρ h)[a]? = some (ρ a, .inr (ci, (List.range (mm_N ci)).map (mm_fv ρ h a ci))) := by rw [mm_wl_at ha, mm_ce_obj hk hci]
  have hv : ((List.range (mm_N ci)).map (mm_fv ρ h a ci))[k]? = some (mm_fv ρ h a ci k) := by simp [hkN]
  rcases hw with hw | ⟨host, hw⟩
  · exact va_get (D := G.1) hx hb hts (mm_lays ci hci) hown hG.1 hR.1 a he (mm_cl ci hci) k hkN (hts _ hw) (fun _ z => z) hv hd kk
  · exact va_getN (D := G.1) hx hb hts (mm_lays ci hci) hown hG.1 hR.1 a he (mm_cl ci hci) k hkN (hts _ hw) (fun _ z => z) hv hd kk
section
variable {q : mmM} {d : Nat} {b : Nat × Nat} {Q : Option Value → mmH → Prop} {pc : Nat} {K : mmK}
def s_gi (ci k : Nat) (K : mmK) : mmK := fun lv st h => match st with
  | .ref a :: r => (mm_kd h a = ci ∧ a < mm_sz h) ∧ K lv (.int (mm_gi h a k) :: r) h
  | _ => False
def s_gl (ci k : Nat) (K : mmK) : mmK := fun lv st h => match st with
  | .ref a :: r => (mm_kd h a = ci ∧ a < mm_sz h) ∧ K lv (.long (mm_gl h a k) :: r) h
  | _ => False
def s_gr (ci k : Nat) (K : mmK) : mmK := fun lv st h => match st with
  | .ref a :: r => (mm_kd h a = ci ∧ a < mm_sz h) ∧ K lv (va_rf (mm_gr h a k) :: r) h
  | _ => False
theorem v_gi {idx ci k : Nat} (hd : decode q.2.1 pc = .ok (.getfield idx, 3)) (hw : mm_fl q.1.cls idx ci k) (ht : mm_tc (mm_ty ci k) = 0 ∨ mm_tc (mm_ty ci k) = 3) (hK : ∀ lv st h, K lv st h → mm_V q d b Q (pc + 3) lv st h) (lv : mmL) (st : List Value) (h : mmH) (hs : s_gi ci k K lv st h) : mm_V q d b Q pc lv st h := by
  unfold s_gi at hs
  split at hs
  · rename_i a r
    intro p l e R s m args below meth c G A ρ ρ0 n0 H locs cells slots MC MS ls hX hS hR hn hρ hc hm hl hv hvs
    refine mm_getW hX hR hd hw hs.1.1 hs.1.2 ?_
    have e1 : mm_fv ρ h a ci k = mm_tv G ρ (.int (mm_gi h a k)) := by rcases ht with z | z <;> simp [mm_fv, z, mm_tv]
    rw [e1]
    exact hK _ _ _ hs.2 p l e R s m args below meth c G A ρ ρ0 n0 H locs cells slots MC MS ls hX hS hR hn hρ hc hm hl hv (fun v hm => by
      rcases List.mem_cons.mp hm with rfl | hm
      · exact mm_vok_i _ _
      · exact hvs v (List.mem_cons_of_mem _ hm))
  · exact hs.elim
theorem v_gl {idx ci k : Nat} (hd : decode q.2.1 pc = .ok (.getfield idx, 3)) (hw : mm_fl q.1.cls idx ci k) (ht : mm_tc (mm_ty ci k) = 1) (hK : ∀ lv st h, K lv st h → mm_V q d b Q (pc + 3) lv st h) (lv : mmL) (st : List Value) (h : mmH) (hs : s_gl ci k K lv st h) : mm_V q d b Q pc lv st h := by
  unfold s_gl at hs
  split at hs
  · rename_i a r
    intro p l e R s m args below meth c G A ρ ρ0 n0 H locs cells slots MC MS ls hX hS hR hn hρ hc hm hl hv hvs
    refine mm_getW hX hR hd hw hs.1.1 hs.1.2 ?_
    have e1 : mm_fv ρ h a ci k = mm_tv G ρ (.long (mm_gl h a k)) := by simp [mm_fv, ht, mm_tv]
    rw [e1]
    exact hK _ _ _ hs.2 p l e R s m args below meth c G A ρ ρ0 n0 H locs cells slots MC MS ls hX hS hR hn hρ hc hm hl hv (fun v hm => by
      rcases List.mem_cons.mp hm with rfl | hm
      · exact mm_vok_l _ _
      · exact hvs v (List.mem_cons_of_mem _ hm))
  · exact hs.elim
theorem v_gr {idx ci k : Nat} (hd : decode q.2.1 pc = .ok (.getfield idx, 3)) (hw : mm_fl q.1.cls idx ci k) (ht : mm_tc (mm_ty ci k) = 2) (hK : ∀ lv st h, K lv st h → mm_V q d b Q (pc + 3) lv st h) (lv : mmL) (st : List Value) (h : mmH) (hs : s_gr ci k K lv st h) : mm_V q d b Q pc lv st h := by
  unfold s_gr at hs
  split at hs
  · rename_i a r
    intro p l e R s m args below meth c G A ρ ρ0 n0 H locs cells slots MC MS ls hX hS hR hn hρ hc hm hl hv hvs
    refine mm_getW hX hR hd hw hs.1.1 hs.1.2 ?_
    have e1 : mm_fv ρ h a ci k = mm_tv G ρ (va_rf (mm_gr h a k)) := by rw [mm_tv_rf]; simp [mm_fv, ht]
    rw [e1]
    exact hK _ _ _ hs.2 p l e R s m args below meth c G A ρ ρ0 n0 H locs cells slots MC MS ls hX hS hR hn hρ hc hm hl hv (fun v hm => by
      rcases List.mem_cons.mp hm with rfl | hm
      · exact mm_vok_rf (fun b hb => hR.2.2 a k b hs.1.2 hb)
      · exact hvs v (List.mem_cons_of_mem _ hm))
  · exact hs.elim
end
