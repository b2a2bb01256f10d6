/-! pairs: the class's call, then the model's, keep the invariant and answer alike -/
def same5 (h h' : mmH) : Prop := mm_kd h' = mm_kd h ∧ mm_ln h' = mm_ln h ∧ mm_gl h' = mm_gl h ∧ mm_gr h' = mm_gr h ∧ mm_sz h' = mm_sz h
theorem WS_same {h h' : mmH} (e : same5 h h') (H : WS h) : WS h' := by
  unfold WS
  rw [e.1, e.2.1, e.2.2.2.1, e.2.2.2.2]
  exact H
theorem I_tape_cg {h h' : mmH} (e1 : mm_gi h' 54 1 = mm_gi h 54 1) (e2 : mm_gi h' 91 13 = mm_gi h 91 13) (e3 : ∀ j, mm_gi h' 55 j = mm_gi h 55 j) (e4 : ∀ j, mm_gi h' 100 j = mm_gi h 100 j) (H : I_tape h) : I_tape h' := by
  obtain ⟨n, h1, h2, h3, h4⟩ := H
  exact ⟨n, h1, e1.trans h2, e2.trans h3, fun i hi => by rw [e3, e4]; exact h4 i hi⟩
theorem TE_cg {h h' : mmH} {S S' : HSt} {k : Nat} (e1 : ∀ j, mm_gi h' 51 j = mm_gi h 51 j) (e2 : ∀ j, mm_gi h' 96 j = mm_gi h 96 j) (e3 : ∀ j, mm_gi h' 97 j = mm_gi h 97 j) (s : S' 0 0 = S 0 0 ∧ S' 0 1 = S 0 1 ∧ S' 9 1 = S 9 1 ∧ S' 9 2 = S 9 2) (H : TE h S k) : TE h' S' k := by
  obtain ⟨j, A, D, kn, gw, q1, q2, q3, q4, ⟨q5, q6, q7, q8⟩, q9, q10, q11, q12, q13, q14⟩ := H
  refine ⟨j, A, D, kn, gw, q1, by rw [s.1]; exact q2, q3, by rw [s.2.1]; exact q4, ⟨by rw [e1]; exact q5, by rw [e1]; exact q6, by rw [e1]; exact q7, fun c hc => ?_⟩, by rw [e3]; exact q9, by rw [e2]; exact q10, by rw [e2, s.2.2.1]; exact q11, by rw [e2, s.2.2.2]; exact q12, fun c hc => ?_, fun l hl => ?_⟩
  · rw [e1, e1]; exact q8 c (by rw [← s.2.1]; exact hc)
  · rw [e2, e2]; exact q13 c (by rw [← s.2.1]; exact hc)
  · rw [e2]; exact q14 l (by rw [← s.1]; exact hl)
theorem I_trail_cg {h h' : mmH} {S S' : HSt} (e0 : mm_gi h' 50 1 = mm_gi h 50 1) (e9 : mm_gi h' 91 8 = mm_gi h 91 8) (e1 : ∀ j, mm_gi h' 51 j = mm_gi h 51 j) (e2 : ∀ j, mm_gi h' 96 j = mm_gi h 96 j) (e3 : ∀ j, mm_gi h' 97 j = mm_gi h 97 j) (s : S' 0 0 = S 0 0 ∧ S' 0 1 = S 0 1 ∧ S' 9 1 = S 9 1 ∧ S' 9 2 = S 9 2) (H : I_trail h S) : I_trail h' S' := by
  obtain ⟨n, h1, h2, h3, h4⟩ := H
  exact ⟨n, h1, e0.trans h2, e9.trans h3, fun k hk => TE_cg e1 e2 e3 s (h4 k hk)⟩
theorem I_trail_0 {h' : mmH} {S' : HSt} (e0 : mm_gi h' 50 1 = nI 0) (e9 : mm_gi h' 91 8 = nI 0) : I_trail h' S' := ⟨0, by decide, e0, e9, fun k hk => by omega⟩
section
variable {LR : mmH → Nat → (Nat → Int32) → Nat → Prop}
theorem same_t {h h' : mmH} (e : same5 h h') (eg : ∀ c j, 122 ≤ c → mm_gi h' c j = mm_gi h c j) : ∀ c, 122 ≤ c → mm_kd h' c = mm_kd h c ∧ mm_ln h' c = mm_ln h c ∧ (∀ j, mm_gi h' c j = mm_gi h c j) ∧ ∀ j, mm_gr h' c j = mm_gr h c j := fun c hc => ⟨by rw [e.1], by rw [e.2.1], fun j => eg c j hc, fun j => by rw [e.2.2.2.1]⟩
theorem I_img_cg (FR : LRf LR) {h h' : mmH} {k a : Nat} (e : same5 h h') (e1 : ∀ c j, (a ≤ c ∧ c ≤ a + 9) ∨ c = 49 ∨ c = 94 ∨ c = 95 ∨ 122 ≤ c → mm_gi h' c j = mm_gi h c j) (H : I_img LR h k a) : I_img LR h' k a := by
  refine ⟨fun w hw t ht => ?_, ?_⟩
  · rw [e.1, e.2.2.2.2]
    rw [e.2.2.2.1] at ht
    exact H.1 w hw t ht
  · rw [e1 49 k (by omega), e1 95 k (by omega)]
    rcases H.2 with z | ⟨z1, z2, S, v, c, m, lw⟩
    · exact Or.inl z
    · have ef : mm_gi h' 94 = mm_gi h 94 := funext fun j => e1 94 j (by omega)
      refine Or.inr ⟨z1, z2, S, v, HC_cg (fun c j c1 c2 => e1 c j (by omega)) c, by rw [ef]; exact m, HLw_cg FR v.1.2.2.2.1 (same_t e (fun c j hc => e1 c j (by omega))) (by rw [e.2.2.2.2]; exact Nat.le_refl _) (fun w => by rw [e.2.2.2.1]) (fun j _ _ => by rw [ef]) lw⟩
theorem Inv_i (FR : LRf LR) {h h' : mmH} (h5 : same5 h h') (hI : Inv LR h) (hmisc : I_misc h') (htape : I_tape h') (hhouse : ∃ S, HV S ∧ HC h' 4 S ∧ HM (mm_gi h' 93) 0 S ∧ HLw LR h' 4 (mm_gi h' 93) 0 (S 0 3) ∧ I_trail h' S) (eimg : ∀ c j, (27 ≤ c ∧ c ≤ 49) ∨ c = 94 ∨ c = 95 ∨ 122 ≤ c → mm_gi h' c j = mm_gi h c j) (esch : mm_gi h' 79 6 = mm_gi h 79 6 ∧ mm_gi h' 91 56 = mm_gi h 91 56 ∧ ∀ c j, c = 83 ∨ c = 85 ∨ c = 121 → mm_gi h' c j = mm_gi h c j) (e20 : mm_gi h' 91 20 = mm_gi h 91 20) : Inv LR h' := by
  obtain ⟨hw, -, -, -, i0, i1, sc, ⟨lr1, lr2⟩, c1, c2, c3, c4, c5, c6⟩ := hI
  refine ⟨WS_same h5 hw, hmisc, htape, hhouse, I_img_cg FR h5 (fun c j hc => eimg c j (by omega)) i0, I_img_cg FR h5 (fun c j hc => eimg c j (by omega)) i1, ?_, ⟨?_, ?_⟩, ?_, ?_, ?_, ?_, ?_, ?_⟩
  · obtain ⟨c, q1, q2, q3, q4⟩ := sc
    exact ⟨c, q1, esch.1.trans q2, by rw [esch.2.1]; exact q3, fun i hi => by rw [esch.2.2 83 i (by omega), esch.2.2 85 i (by omega), esch.2.2 121 i (by omega), esch.2.2 121 (6 + i) (by omega)]; exact q4 i hi⟩
  · intro w hw t ht
    rw [h5.2.2.2.1] at ht
    rw [h5.1, h5.2.2.2.2]
    exact lr1 w hw t ht
  · intro w hw t ht
    rw [h5.2.2.2.1] at ht
    rw [h5.1, h5.2.2.2.2]
    exact lr2 w hw t ht
  · rw [h5.2.2.1]; exact c1
  · rw [h5.2.2.1]; exact c2
  · rw [h5.2.2.1]; exact c3
  · rw [h5.2.2.1]; exact c4
  · rw [h5.2.2.1]; exact c5
  · exact e20.trans c6
/-- only misc cells moved -/
theorem Inv_m (FR : LRf LR) {h h' : mmH} (h5 : same5 h h') (hI : Inv LR h) (hmisc : I_misc h') (eg : ∀ c j, c ≠ 0 → c ≠ 90 → c ≠ 92 → (c = 91 → j ≠ 0 ∧ j ≠ 1) → mm_gi h' c j = mm_gi h c j) : Inv LR h' := by
  have e : ∀ c j, c ≠ 0 → c ≠ 90 → c ≠ 92 → c ≠ 91 → mm_gi h' c j = mm_gi h c j := fun c j a1 a2 a3 a4 => eg c j a1 a2 a3 (fun z => absurd z a4)
  obtain ⟨hw, _, tp, ⟨S, v, hc, hm, hl, tr⟩, _⟩ := id hI
  have ef : mm_gi h' 93 = mm_gi h 93 := funext fun j => e 93 j (by decide) (by decide) (by decide) (by decide)
  refine Inv_i FR h5 hI hmisc (I_tape_cg (e 54 1 (by decide) (by decide) (by decide) (by decide)) (eg 91 13 (by decide) (by decide) (by decide) (fun _ => by decide)) (fun j => e 55 j (by decide) (by decide) (by decide) (by decide)) (fun j => e 100 j (by decide) (by decide) (by decide) (by decide)) tp) ⟨S, v, HC_cg (fun c j c1 c2 => e c j (by omega) (by omega) (by omega) (by omega)) hc, by rw [ef]; exact hm, HLw_cg FR v.1.2.2.2.1 (same_t h5 (fun c j hc => e c j (by omega) (by omega) (by omega) (by omega))) (by rw [h5.2.2.2.2]; exact Nat.le_refl _) (fun w => by rw [h5.2.2.2.1]) (fun j _ _ => by rw [ef]) hl, I_trail_cg (e 50 1 (by decide) (by decide) (by decide) (by decide)) (eg 91 8 (by decide) (by decide) (by decide) (fun _ => by decide)) (fun j => e 51 j (by decide) (by decide) (by decide) (by decide)) (fun j => e 96 j (by decide) (by decide) (by decide) (by decide)) (fun j => e 97 j (by decide) (by decide) (by decide) (by decide)) ⟨rfl, rfl, rfl, rfl⟩ tr⟩ (fun c j hc => e c j (by omega) (by omega) (by omega) (by omega)) ⟨e 79 6 (by decide) (by decide) (by decide) (by decide), eg 91 56 (by decide) (by decide) (by decide) (fun _ => by decide), fun c j hc => e c j (by omega) (by omega) (by omega) (by omega)⟩ (eg 91 20 (by decide) (by decide) (by decide) (fun _ => by decide))
theorem Inv_th (FR : LRf LR) {h : mmH} (hI : Inv LR h) : Inv LR (mm_pi h 91 0 0) := by
  refine Inv_m (h := h) FR ⟨rfl, rfl, rfl, rfl, rfl⟩ hI ?_ (fun c j c1 c2 c3 c4 => by rw [mm_gi_pi, if_neg (fun z => (c4 z.1).1 z.2)])
  simpa [I_misc, mm_gi_pi] using hI.2.1
theorem op_38 (FR : LRf LR) : OP_38 (Inv LR) := by
  intro h hI
  refine sp_status hI.1 ⟨⟨W_kd_91 hI.1, W_s_91 hI.1⟩, ms_status hI.1 ⟨⟨_, rfl, ?_⟩, Inv_th FR hI⟩⟩
  rw [hI.2.1.1.1]
theorem op_9 (FR : LRf LR) : OP_9 (Inv LR) := by
  intro h hI
  refine sp_blots hI.1 ⟨⟨W_kd_91 hI.1, W_s_91 hI.1⟩, ms_blots hI.1 ⟨⟨_, rfl, ?_⟩, Inv_th FR hI⟩⟩
  rw [hI.2.1.1.2.2.1]
theorem op_12 (FR : LRf LR) : OP_12 (Inv LR) := by
  intro h hI
  refine sp_fault hI.1 ⟨⟨W_kd_91 hI.1, W_s_91 hI.1⟩, ms_fault hI.1 ⟨⟨_, rfl, ?_⟩, Inv_th FR hI⟩⟩
  rw [hI.2.1.1.2.2.2]
theorem op_13 (FR : LRf LR) : OP_13 (Inv LR) := by
  intro h hI
  refine sp_stopped hI.1 ⟨⟨W_kd_91 hI.1, W_s_91 hI.1⟩, ms_stopped hI.1 ⟨⟨_, rfl, ?_⟩, Inv_th FR hI⟩⟩
  rw [hI.2.1.1.2.1]
theorem op_1 (FR : LRf LR) : OP_1 (Inv LR) := by
  intro x1 x2 h hI
  obtain ⟨hw, _, _, ⟨S, v, hc, hm, _⟩, _⟩ := id hI
  have mL : mm_gi h 93 0 = nI (S 0 0) := hm.1.1
  have bit : ∀ j, j < S 0 0 → (mm_gi h 4 5 >>> (nI j &&& 31)) &&& 1 = nI (S 0 4 / 2 ^ j % 2) := fun j hj => by
    rw [hc.1.2.2.2.2.1]
    exact bit_at _ (Nat.lt_of_lt_of_le v.1.2.2.2.2.1 (Nat.pow_le_pow_right (by decide) v.1.1)) j (Nat.lt_of_lt_of_le hj v.1.1)
  have fin : ∀ (r : Int32), (mm_MV q_X10_at 1000 (0, 0) [.ref 91, .int x1, .int x2] h (fun v' h2 => v' = some (.int r) ∧ h2 = mm_pi h 91 0 0)) → (mm_kd h 91 = 10 ∧ 91 < mm_sz h) ∧ mm_MV q_X10_at 1000 (0, 0) [.ref 91, .int x1, .int x2] h (fun v' h2 => (∃ r' : Int32, some (Value.int r) = some (Value.int r') ∧ v' = some (.int r')) ∧ Inv LR h2) := fun r k => ⟨⟨W_kd_91 hw, W_s_91 hw⟩, mm_MV.mono (fun v' h2 z => ⟨⟨r, rfl, z.1⟩, by rw [z.2]; exact Inv_th FR hI⟩) k⟩
  have run := fun (K : Option Value → mmH → Prop) a1 a2 a3 a4 a5 a6 => ms_at (d := 998) (x1 := x1) (x2 := x2) (K := K) hw mL v.1.1 a1 a2 a3 a4 a5 a6
  have inj : ∀ {i j : Nat}, i < S 0 0 → j < S 0 0 → nI i = nI j → i = j := fun h1 h2 e => (nI_eq (by have := v.1.1; omega) (by have := v.1.1; omega)).mp e
  have vin : ∀ {j : Nat}, j < S 0 0 → vp_in (nI j) (S 0 0) := fun hj => vp_in_nI hj (by have := v.1.1; omega)
  refine sp_at hw hc.1.1 v.1.1 (fun c => fin _ ?_) (fun j hj e e2 => fin _ ?_) (fun j hj e e2 => fin _ ?_) (fun j hj e e2 => fin _ ?_) (fun j hj e e2 b => fin _ ?_) (fun j hj e e2 b => fin _ ?_) (fun j hj e n0 n1 n2 n3 => fin _ ?_)
  · refine run _ (fun _ => ⟨rfl, rfl⟩) (fun j hj e _ => absurd (by rw [e]; exact vin hj) c) (fun j hj e _ => absurd (by rw [e]; exact vin hj) c) (fun j hj e _ => absurd (by rw [e]; exact vin hj) c) (fun j hj e _ => absurd (by rw [e]; exact vin hj) c) (fun j hj e _ _ _ _ => absurd (by rw [e]; exact vin hj) c)
  · subst e; subst e2
    refine run _ (fun c => absurd (vin hj) c) (fun i hi e _ => ?_) (fun i hi e c => absurd c (by decide)) (fun i hi e c => absurd c (by decide)) (fun i hi e c => absurd c (by decide)) (fun i hi e c _ _ _ => absurd rfl c)
    obtain rfl := inj hj hi e
    have := (hm.2.2.1 j hj).1
    rw [show 0 + 28 + j = 28 + j by omega] at this
    rw [(hc.2.2.1 j hj).1, this]
    exact ⟨rfl, rfl⟩
  · subst e; subst e2
    refine run _ (fun c => absurd (vin hj) c) (fun i hi e c => absurd c (by decide)) (fun i hi e _ => ?_) (fun i hi e c => absurd c (by decide)) (fun i hi e c => absurd c (by decide)) (fun i hi e _ c _ _ => absurd rfl c)
    obtain rfl := inj hj hi e
    have := (hm.2.2.1 j hj).2.1
    rw [show 0 + 36 + j = 36 + j by omega] at this
    rw [(hc.2.2.1 j hj).2.1, this]
    exact ⟨rfl, rfl⟩
  · subst e; subst e2
    refine run _ (fun c => absurd (vin hj) c) (fun i hi e c => absurd c (by decide)) (fun i hi e c => absurd c (by decide)) (fun i hi e _ => ?_) (fun i hi e c => absurd c (by decide)) (fun i hi e _ _ c _ => absurd rfl c)
    obtain rfl := inj hj hi e
    have := (hm.2.2.1 j hj).2.2.1
    rw [show 0 + 44 + j = 44 + j by omega] at this
    rw [(hc.2.2.1 j hj).2.2, this]
    exact ⟨rfl, rfl⟩
  · subst e; subst e2
    refine run _ (fun c => absurd (vin hj) c) (fun i hi e c => absurd c (by decide)) (fun i hi e c => absurd c (by decide)) (fun i hi e c => absurd c (by decide)) (fun i hi e _ => ?_) (fun i hi e _ _ _ c => absurd rfl c)
    obtain rfl := inj hj hi e
    have := (hm.2.2.1 j hj).2.2.2
    rw [show 0 + 20 + j = 20 + j by omega, ← bit j hj, b] at this
    exact ⟨by rw [this], rfl⟩
  · subst e; subst e2
    refine run _ (fun c => absurd (vin hj) c) (fun i hi e c => absurd c (by decide)) (fun i hi e c => absurd c (by decide)) (fun i hi e c => absurd c (by decide)) (fun i hi e _ => ?_) (fun i hi e _ _ _ c => absurd rfl c)
    obtain rfl := inj hj hi e
    have := (hm.2.2.1 j hj).2.2.2
    rw [show 0 + 20 + j = 20 + j by omega] at this
    rw [bit j hj] at b
    have e3 : S 0 4 / 2 ^ j % 2 = 0 := by
      rcases Nat.mod_two_eq_zero_or_one (S 0 4 / 2 ^ j) with z | z
      · exact z
      · rw [z] at b; exact absurd rfl b
    rw [e3] at this
    exact ⟨by rw [this]; rfl, rfl⟩
  · subst e
    exact run _ (fun c => absurd (vin hj) c) (fun i hi e c => absurd c n0) (fun i hi e c => absurd c n1) (fun i hi e c => absurd c n2) (fun i hi e c => absurd c n3) (fun i hi e _ _ _ _ => ⟨rfl, rfl⟩)
end
