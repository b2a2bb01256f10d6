/-! the model's deeds -/
def xrw (c j : Nat) : Prop := xL c j ∨ (c = 93 ∧ 5 ≤ j ∧ j < 28)
theorem xrw_L {h g : mmH} (F : fx xL yL h g) : fx xrw yL h g := fx_mo (fun c j z => Or.inl z) (fun c z => z) F
theorem xrw_H {h g : mmH} {c0 : Nat} (hc : c0 < 6) (F : fx (xH c0) yL h g) : fx xrw yL h g := fx_mo (fun c j z => z.imp id (fun y => ⟨y.1, by omega⟩)) (fun c z => z) F
theorem MAL_rw {h g : mmH} {S S' : HSt} {A : Option lwD} (F : fx xrw yL h g) (e : S' 0 5 = S 0 5) (H : MAL (mm_gi h 93) S A) : MAL (mm_gi g 93) S' A := MAL_cg (fun j hj => F.2.1 93 j (by unfold xrw xL; omega)) e H
theorem HM_up2 {f g : Nat → Int32} {S : HSt} {c k : Nat} (hc : c < S 0 1) (hC : S 0 1 ≤ 6) (H : HM f 0 S) (e : ∀ j, j ≠ 14 + c → g j = f j) (ek : g (14 + c) = nI k) : HM g 0 (upS S 2 c k) := by
  obtain ⟨⟨m1, m2, m3, m4, m5⟩, n1, n2, n3, n4⟩ := H
  refine ⟨⟨?_, ?_, ?_, ?_, ?_⟩, fun c' hc' => ?_, fun l hl => ?_, fun t ht => ?_, fun k hk => ?_⟩
  · rw [e _ (by omega)]; exact m1
  · rw [e _ (by omega)]; exact m2
  · rw [e _ (by omega)]; exact m3
  · rw [e _ (by omega)]; exact m4
  · rw [e _ (by omega)]; exact m5
  · have hc' : c' < S 0 1 := hc'
    obtain ⟨a1, a2, a3⟩ := n1 c' hc'
    refine ⟨?_, ?_, ?_⟩
    · rw [e _ (by omega), a1]; simp [upS]
    · by_cases z : c' = c
      · subst z
        rw [show 0 + 14 + c' = 14 + c' by omega, ek]; simp [upS]
      · rw [e _ (by omega), a2]; simp [upS, z]
    · rw [e _ (by omega), a3]; simp [upS]
  · have hl : l < S 0 0 := hl
    obtain ⟨a1, a2, a3, a4⟩ := n2 l hl
    rw [e _ (by omega), e _ (by omega), e _ (by omega), e _ (by omega)]
    exact ⟨a1, a2, a3, a4⟩
  · have ht : t < S 0 2 := ht
    obtain ⟨a1, a2⟩ := n3 t ht
    rw [e _ (by omega), e _ (by omega)]
    exact ⟨a1, a2⟩
  · rw [e _ (by omega)]; exact n4 k hk
theorem or_bit (x l j : Nat) : (x ||| 2 ^ l) / 2 ^ j % 2 = if j = l then 1 else x / 2 ^ j % 2 := by
  have h := Nat.testBit_or x (2 ^ l) j
  rw [Nat.testBit_two_pow, Nat.testBit_eq_decide_div_mod_eq, Nat.testBit_eq_decide_div_mod_eq] at h
  by_cases z : j = l
  · subst z
    simp at h ⊢
    omega
  · rw [if_neg z]
    simp [show ¬ l = j from fun y => z y.symm] at h
    rcases Nat.mod_two_eq_zero_or_one (x / 2 ^ j) with y | y
    · rw [y] at h ⊢
      simp at h
      omega
    · rw [y] at h ⊢
      simp at h
      exact h
theorem HM_upA {f g : Nat → Int32} {S : HSt} {l : Nat} (hl : l < S 0 0) (hL : S 0 0 ≤ 8) (hC : S 0 1 ≤ 6) (H : HM f 0 S) (e : ∀ j, j ≠ 20 + l → g j = f j) (ek : g (20 + l) = nI 1) : HM g 0 (upS S 0 4 (anA S l)) := by
  obtain ⟨⟨m1, m2, m3, m4, m5⟩, n1, n2, n3, n4⟩ := H
  refine ⟨⟨?_, ?_, ?_, ?_, ?_⟩, fun c' hc' => ?_, fun l' hl' => ?_, fun t ht => ?_, fun k hk => ?_⟩
  · rw [e _ (by omega)]; exact m1
  · rw [e _ (by omega)]; exact m2
  · rw [e _ (by omega)]; exact m3
  · rw [e _ (by omega)]; exact m4
  · rw [e _ (by omega)]; exact m5
  · have hc' : c' < S 0 1 := hc'
    rw [e (0 + 8 + c') (by omega), e (0 + 14 + c') (by omega), e (0 + 52 + c') (by omega)]
    exact n1 c' hc'
  · have hl' : l' < S 0 0 := hl'
    obtain ⟨a1, a2, a3, a4⟩ := n2 l' hl'
    refine ⟨by rw [e _ (by omega)]; exact a1, by rw [e _ (by omega)]; exact a2, by rw [e _ (by omega)]; exact a3, ?_⟩
    have : upS S 0 4 (anA S l) 0 4 = S 0 4 ||| 2 ^ l := by simp [upS, anA]
    rw [this, or_bit]
    by_cases z : l' = l
    · subst z
      rw [show 0 + 20 + l' = 20 + l' by omega, ek, if_pos rfl]
    · rw [e _ (by omega), if_neg z]; exact a4
  · have ht : t < S 0 2 := ht
    obtain ⟨a1, a2⟩ := n3 t ht
    rw [e _ (by omega), e _ (by omega)]
    exact ⟨a1, a2⟩
  · rw [e _ (by omega)]; exact n4 k hk
theorem HM_upT {f g : Nat → Int32} {S : HSt} {k : Nat} (H : HM f 0 S) (e : ∀ j, j ≠ 5 → g j = f j) (ek : g 5 = nI k) : HM g 0 (upS S 9 0 k) := by
  obtain ⟨⟨m1, m2, m3, m4, m5⟩, n1, n2, n3, n4⟩ := H
  refine ⟨⟨?_, ?_, ?_, ?_, ?_⟩, fun c' hc' => ?_, fun l hl => ?_, fun t ht => ?_, fun k' hk => ?_⟩
  · rw [e _ (by omega)]; exact m1
  · rw [e _ (by omega)]; exact m2
  · rw [e _ (by omega)]; exact m3
  · rw [e _ (by omega)]; exact m4
  · rw [e _ (by omega)]; exact m5
  · rw [e (0 + 8 + c') (by omega), e (0 + 14 + c') (by omega), e (0 + 52 + c') (by omega)]; exact n1 c' hc'
  · rw [e _ (by omega), e _ (by omega), e _ (by omega), e _ (by omega)]; exact n2 l hl
  · rw [e _ (by omega), e _ (by omega)]; exact n3 t ht
  · by_cases z : k' = 0
    · subst z
      rw [show 0 + 5 + 0 = 5 by omega, ek]; simp [upS]
    · rw [e _ (by omega), n4 k' hk]; simp [upS, z]
section
variable {d : Nat} {h : mmH} {S : HSt} {K : Option Value → mmH → Prop} {A : Option lwD} {p q : Nat}
theorem sp_canAnswer {l c : Nat} (H : WS h) (h20 : mm_gi h 91 20 = 0) (v : HVx S) (hm : HM (mm_gi h 93) 0 S) (hA : MAL (mm_gi h 93) S A) (hcc : c < S 0 1) (hl : l < S 0 0)
    (k1 : ∀ g, fx xL yL h g → can S A l c → K (some (.int 1)) g) (k0 : ∀ g, fx xL yL h g → ¬ can S A l c → K (some (.int 0)) g) : mm_MV q_X10_canAnswer (d + 6) (0, 0) [.ref 91, .int (nI l), .int (nI c)] h K := by
  have l8 : l < 8 := by have := v.1.1; omega
  obtain ⟨-, -, e44, e20⟩ := HM_l hm hl
  have w6 := (v.2.2.1 l hl).2.2
  have no : ∀ g, fx xL yL h g → ¬ can S A l c → mm_V q_X10_canAnswer (d + 6) (0, 0) K 37 [some (.ref 91), some (.int (nI l)), some (.int (nI c))] [] g := by
    intro g F z
    refine t_X10_canAnswer_37 _ _ _ ?_
    simp only [s_iadd, s_isub, s_imul, s_iand, s_ior, s_ixor, s_ishl, s_ishr, s_iushr, s_idiv, s_irem, s_ladd, s_lsub, s_lmul, s_ldiv, s_lrem, s_ineg, s_i2l, s_l2i, s_i2c, s_lcmp, s_ic, s_lc, s_nul, s_str, s_il, s_ll, s_al, s_dup, s_dup2, s_pop, s_ifne, s_icne, s_ifeq, s_iflt, s_ifge, s_ifgt, s_ifle, s_iceq, s_iclt, s_icge, s_icgt, s_icle, s_ifnull, s_ifnonnull, s_is, s_ls, s_as, s_ii, s_gi, s_gl, s_gr, s_pi, s_pz, s_pl, s_pr, s_iald, s_zald, s_lald, s_aald, s_alen, s_iast, s_zast, s_last, s_iret, s_zret, s_lret, s_aret, s_vret, s_sw, s_aast, mm_sw, mm_ld, mm_s1, mm_s2, mm_kl, Value.category, va_rf, List.nil_append, List.cons_append, Option.toList, true_and, and_true, and_self, true_or, or_true, eq_self, not_true_eq_false, false_implies, true_implies, not_false_eq_true, mm_10, mm_01, false_or, or_false, Nat.left_eq_add, Nat.add_eq_left, Nat.add_left_cancel_iff, Nat.reduceEqDiff, false_and, and_false, reduceIte, mm_kd_pi, mm_ln_pi, mm_gl_pi, mm_gr_pi, mm_sz_pi, mm_gi_pi, mm_kd_pl, mm_ln_pl, mm_gi_pl, mm_gr_pl, mm_sz_pl, mm_gl_pl, mm_kd_pr, mm_ln_pr, mm_gi_pr, mm_gl_pr, mm_sz_pr, mm_gr_pr, mm_kd_pa, mm_ln_pa, mm_gl_pa, mm_gr_pa, mm_sz_pa, mm_gi_pa]
    refine t_X10_canAnswer_38 _ _ _ ?_
    simp only [s_iadd, s_isub, s_imul, s_iand, s_ior, s_ixor, s_ishl, s_ishr, s_iushr, s_idiv, s_irem, s_ladd, s_lsub, s_lmul, s_ldiv, s_lrem, s_ineg, s_i2l, s_l2i, s_i2c, s_lcmp, s_ic, s_lc, s_nul, s_str, s_il, s_ll, s_al, s_dup, s_dup2, s_pop, s_ifne, s_icne, s_ifeq, s_iflt, s_ifge, s_ifgt, s_ifle, s_iceq, s_iclt, s_icge, s_icgt, s_icle, s_ifnull, s_ifnonnull, s_is, s_ls, s_as, s_ii, s_gi, s_gl, s_gr, s_pi, s_pz, s_pl, s_pr, s_iald, s_zald, s_lald, s_aald, s_alen, s_iast, s_zast, s_last, s_iret, s_zret, s_lret, s_aret, s_vret, s_sw, s_aast, mm_sw, mm_ld, mm_s1, mm_s2, mm_kl, Value.category, va_rf, List.nil_append, List.cons_append, Option.toList, true_and, and_true, and_self, true_or, or_true, eq_self, not_true_eq_false, false_implies, true_implies, not_false_eq_true, mm_10, mm_01, false_or, or_false, Nat.left_eq_add, Nat.add_eq_left, Nat.add_left_cancel_iff, Nat.reduceEqDiff, false_and, and_false, reduceIte, mm_kd_pi, mm_ln_pi, mm_gl_pi, mm_gr_pi, mm_sz_pi, mm_gi_pi, mm_kd_pl, mm_ln_pl, mm_gi_pl, mm_gr_pl, mm_sz_pl, mm_gl_pl, mm_kd_pr, mm_ln_pr, mm_gi_pr, mm_gl_pr, mm_sz_pr, mm_gr_pr, mm_kd_pa, mm_ln_pa, mm_gl_pa, mm_gr_pa, mm_sz_pa, mm_gi_pa]
    exact k0 g F z
  refine e_X10_canAnswer (t_X10_canAnswer_0 _ _ _ ?_)
  simp only [s_iadd, s_isub, s_imul, s_iand, s_ior, s_ixor, s_ishl, s_ishr, s_iushr, s_idiv, s_irem, s_ladd, s_lsub, s_lmul, s_ldiv, s_lrem, s_ineg, s_i2l, s_l2i, s_i2c, s_lcmp, s_ic, s_lc, s_nul, s_str, s_il, s_ll, s_al, s_dup, s_dup2, s_pop, s_ifne, s_icne, s_ifeq, s_iflt, s_ifge, s_ifgt, s_ifle, s_iceq, s_iclt, s_icge, s_icgt, s_icle, s_ifnull, s_ifnonnull, s_is, s_ls, s_as, s_ii, s_gi, s_gl, s_gr, s_pi, s_pz, s_pl, s_pr, s_iald, s_zald, s_lald, s_aald, s_alen, s_iast, s_zast, s_last, s_iret, s_zret, s_lret, s_aret, s_vret, s_sw, s_aast, mm_sw, mm_ld, mm_s1, mm_s2, mm_kl, Value.category, va_rf, List.nil_append, List.cons_append, Option.toList, true_and, and_true, and_self, true_or, or_true, eq_self, not_true_eq_false, false_implies, true_implies, not_false_eq_true, mm_10, mm_01, false_or, or_false, Nat.left_eq_add, Nat.add_eq_left, Nat.add_left_cancel_iff, Nat.reduceEqDiff, false_and, and_false, reduceIte, mm_kd_pi, mm_ln_pi, mm_gl_pi, mm_gr_pi, mm_sz_pi, mm_gi_pi, mm_kd_pl, mm_ln_pl, mm_gi_pl, mm_gr_pl, mm_sz_pl, mm_gl_pl, mm_kd_pr, mm_ln_pr, mm_gi_pr, mm_gl_pr, mm_sz_pr, mm_gr_pr, mm_kd_pa, mm_ln_pa, mm_gl_pa, mm_gr_pa, mm_sz_pa, mm_gi_pa, W_kd_91 H, W_s_91 H, W_gr_91_2 H, W_gr_91_3 H, W_gr_91_4 H, W_gr_91_5 H, W_gr_91_6 H, W_gr_91_7 H, W_gr_91_9 H, W_gr_91_10 H, W_gr_91_12 H, W_gr_91_22 H, W_gr_91_24 H, W_gr_91_25 H, W_gr_91_27 H, W_gr_91_28 H, W_gr_91_31 H, W_gr_91_32 H, W_gr_91_33 H, W_gr_91_35 H, W_gr_91_36 H, W_gr_91_37 H, W_gr_91_41 H, W_gr_91_42 H, W_gr_91_43 H, W_gr_91_44 H, W_gr_91_45 H, W_gr_91_46 H, W_gr_91_47 H, W_gr_91_48 H, W_gr_91_49 H, W_gr_91_55 H, W_kd_93 H, W_s_93 H, W_ln_93 H, l_44, l_20, nI_add, nI_clamp (show 44 + l < 2 ^ 31 by omega), vp_in_nI (show 44 + l < 5475 by omega) (show 5475 < 2 ^ 31 by decide), nI_clamp (show 20 + l < 2 ^ 31 by omega), vp_in_nI (show 20 + l < 5475 by omega) (show 5475 < 2 ^ 31 by decide), e44, e20, show (nI (S 6 l) ≤ 0) = (S 6 l ≤ 0) from propext (nI_leI (b := 0) (by omega) (by decide)), show (nI (S 0 4 / 2 ^ l % 2) = 0) = (S 0 4 / 2 ^ l % 2 = 0) from propext (nI_eq (b := 0) (by omega) (by decide))]
  refine ⟨fun z => no h fx_rf (fun w => w.1 (by omega)), fun z => ⟨fun z2 => no h fx_rf (fun w => w.2.1 (by omega)), fun z2 => ?_⟩⟩
  refine c_X10_canAnswer_27 (bb := (0, 0)) (b := (0, 0)) (Nat.le_of_ble_eq_true rfl) ⟨rfl, rfl⟩ (W_kd_91 H) (W_s_91 H) (sp_isBarred H h20 v hm hA hcc hl (fun g F w => ?_) (fun g F w => ?_)) <;> refine t_X10_canAnswer_30 _ _ _ ?_
  · simp only [s_iadd, s_isub, s_imul, s_iand, s_ior, s_ixor, s_ishl, s_ishr, s_iushr, s_idiv, s_irem, s_ladd, s_lsub, s_lmul, s_ldiv, s_lrem, s_ineg, s_i2l, s_l2i, s_i2c, s_lcmp, s_ic, s_lc, s_nul, s_str, s_il, s_ll, s_al, s_dup, s_dup2, s_pop, s_ifne, s_icne, s_ifeq, s_iflt, s_ifge, s_ifgt, s_ifle, s_iceq, s_iclt, s_icge, s_icgt, s_icle, s_ifnull, s_ifnonnull, s_is, s_ls, s_as, s_ii, s_gi, s_gl, s_gr, s_pi, s_pz, s_pl, s_pr, s_iald, s_zald, s_lald, s_aald, s_alen, s_iast, s_zast, s_last, s_iret, s_zret, s_lret, s_aret, s_vret, s_sw, s_aast, mm_sw, mm_ld, mm_s1, mm_s2, mm_kl, Value.category, va_rf, List.nil_append, List.cons_append, Option.toList, true_and, and_true, and_self, true_or, or_true, eq_self, not_true_eq_false, false_implies, true_implies, not_false_eq_true, mm_10, mm_01, false_or, or_false, Nat.left_eq_add, Nat.add_eq_left, Nat.add_left_cancel_iff, Nat.reduceEqDiff, false_and, and_false, reduceIte, mm_kd_pi, mm_ln_pi, mm_gl_pi, mm_gr_pi, mm_sz_pi, mm_gi_pi, mm_kd_pl, mm_ln_pl, mm_gi_pl, mm_gr_pl, mm_sz_pl, mm_gl_pl, mm_kd_pr, mm_ln_pr, mm_gi_pr, mm_gl_pr, mm_sz_pr, mm_gr_pr, mm_kd_pa, mm_ln_pa, mm_gl_pa, mm_gr_pa, mm_sz_pa, mm_gi_pa, mm_10]
    exact no g F (fun y => y.2.2 w)
  · simp only [s_iadd, s_isub, s_imul, s_iand, s_ior, s_ixor, s_ishl, s_ishr, s_iushr, s_idiv, s_irem, s_ladd, s_lsub, s_lmul, s_ldiv, s_lrem, s_ineg, s_i2l, s_l2i, s_i2c, s_lcmp, s_ic, s_lc, s_nul, s_str, s_il, s_ll, s_al, s_dup, s_dup2, s_pop, s_ifne, s_icne, s_ifeq, s_iflt, s_ifge, s_ifgt, s_ifle, s_iceq, s_iclt, s_icge, s_icgt, s_icle, s_ifnull, s_ifnonnull, s_is, s_ls, s_as, s_ii, s_gi, s_gl, s_gr, s_pi, s_pz, s_pl, s_pr, s_iald, s_zald, s_lald, s_aald, s_alen, s_iast, s_zast, s_last, s_iret, s_zret, s_lret, s_aret, s_vret, s_sw, s_aast, mm_sw, mm_ld, mm_s1, mm_s2, mm_kl, Value.category, va_rf, List.nil_append, List.cons_append, Option.toList, true_and, and_true, and_self, true_or, or_true, eq_self, not_true_eq_false, false_implies, true_implies, not_false_eq_true, mm_10, mm_01, false_or, or_false, Nat.left_eq_add, Nat.add_eq_left, Nat.add_left_cancel_iff, Nat.reduceEqDiff, false_and, and_false, reduceIte, mm_kd_pi, mm_ln_pi, mm_gl_pi, mm_gr_pi, mm_sz_pi, mm_gi_pi, mm_kd_pl, mm_ln_pl, mm_gi_pl, mm_gr_pl, mm_sz_pl, mm_gl_pl, mm_kd_pr, mm_ln_pr, mm_gi_pr, mm_gl_pr, mm_sz_pr, mm_gr_pr, mm_kd_pa, mm_ln_pa, mm_gl_pa, mm_gr_pa, mm_sz_pa, mm_gi_pa]
    refine t_X10_canAnswer_38 _ _ _ ?_
    simp only [s_iadd, s_isub, s_imul, s_iand, s_ior, s_ixor, s_ishl, s_ishr, s_iushr, s_idiv, s_irem, s_ladd, s_lsub, s_lmul, s_ldiv, s_lrem, s_ineg, s_i2l, s_l2i, s_i2c, s_lcmp, s_ic, s_lc, s_nul, s_str, s_il, s_ll, s_al, s_dup, s_dup2, s_pop, s_ifne, s_icne, s_ifeq, s_iflt, s_ifge, s_ifgt, s_ifle, s_iceq, s_iclt, s_icge, s_icgt, s_icle, s_ifnull, s_ifnonnull, s_is, s_ls, s_as, s_ii, s_gi, s_gl, s_gr, s_pi, s_pz, s_pl, s_pr, s_iald, s_zald, s_lald, s_aald, s_alen, s_iast, s_zast, s_last, s_iret, s_zret, s_lret, s_aret, s_vret, s_sw, s_aast, mm_sw, mm_ld, mm_s1, mm_s2, mm_kl, Value.category, va_rf, List.nil_append, List.cons_append, Option.toList, true_and, and_true, and_self, true_or, or_true, eq_self, not_true_eq_false, false_implies, true_implies, not_false_eq_true, mm_10, mm_01, false_or, or_false, Nat.left_eq_add, Nat.add_eq_left, Nat.add_left_cancel_iff, Nat.reduceEqDiff, false_and, and_false, reduceIte, mm_kd_pi, mm_ln_pi, mm_gl_pi, mm_gr_pi, mm_sz_pi, mm_gi_pi, mm_kd_pl, mm_ln_pl, mm_gi_pl, mm_gr_pl, mm_sz_pl, mm_gl_pl, mm_kd_pr, mm_ln_pr, mm_gi_pr, mm_gl_pr, mm_sz_pr, mm_gr_pr, mm_kd_pa, mm_ln_pa, mm_gl_pa, mm_gr_pa, mm_sz_pa, mm_gi_pa]
    exact k1 g F ⟨by omega, by omega, w⟩
theorem sp_readIt (H : WS h) (h20 : mm_gi h 91 20 = 0) (v : HVx S) (hm : HM (mm_gi h 93) 0 S) (hA : MAL (mm_gi h 93) S A) (hq : q < S 0 1) (hp : p < S 0 0)
    (k : ∀ g, fx xrw yL h g → HM (mm_gi g 93) 0 (dS S A 0 p q) → K (some (.int (dR S A 0 p q))) g) : mm_MV q_X10_readIt (d + 7) (0, 0) [.ref 91, .int (nI p), .int (nI q)] h K := by
  have c6 : q < 6 := by have := v.1.2.1; omega
  have w1 := v.2.1 q hq
  have tl := tkS_lt (S := S) (A := A) (c := q) (l := p) w1.1 8 (by decide)
  have v8 := vp_in_nI (show 8 + q < 5475 by omega) (show 5475 < 2 ^ 31 by decide)
  have c8 := nI_clamp (show 8 + q < 2 ^ 31 by omega)
  have f8 : (8 : Int32) + nI q = nI (8 + q) := nI_add 8 q
  have v14 := vp_in_nI (show 14 + q < 5475 by omega) (show 5475 < 2 ^ 31 by decide)
  have c14 := nI_clamp (show 14 + q < 2 ^ 31 by omega)
  obtain ⟨e8, e14, -⟩ := HM_c hm hq
  refine e_X10_readIt (t_X10_readIt_0 _ _ _ ?_)
  simp only [s_iadd, s_isub, s_imul, s_iand, s_ior, s_ixor, s_ishl, s_ishr, s_iushr, s_idiv, s_irem, s_ladd, s_lsub, s_lmul, s_ldiv, s_lrem, s_ineg, s_i2l, s_l2i, s_i2c, s_lcmp, s_ic, s_lc, s_nul, s_str, s_il, s_ll, s_al, s_dup, s_dup2, s_pop, s_ifne, s_icne, s_ifeq, s_iflt, s_ifge, s_ifgt, s_ifle, s_iceq, s_iclt, s_icge, s_icgt, s_icle, s_ifnull, s_ifnonnull, s_is, s_ls, s_as, s_ii, s_gi, s_gl, s_gr, s_pi, s_pz, s_pl, s_pr, s_iald, s_zald, s_lald, s_aald, s_alen, s_iast, s_zast, s_last, s_iret, s_zret, s_lret, s_aret, s_vret, s_sw, s_aast, mm_sw, mm_ld, mm_s1, mm_s2, mm_kl, Value.category, va_rf, List.nil_append, List.cons_append, Option.toList, true_and, and_true, and_self, true_or, or_true, eq_self, not_true_eq_false, false_implies, true_implies, not_false_eq_true, mm_10, mm_01, false_or, or_false, Nat.left_eq_add, Nat.add_eq_left, Nat.add_left_cancel_iff, Nat.reduceEqDiff, false_and, and_false, reduceIte, mm_kd_pi, mm_ln_pi, mm_gl_pi, mm_gr_pi, mm_sz_pi, mm_gi_pi, mm_kd_pl, mm_ln_pl, mm_gi_pl, mm_gr_pl, mm_sz_pl, mm_gl_pl, mm_kd_pr, mm_ln_pr, mm_gi_pr, mm_gl_pr, mm_sz_pr, mm_gr_pr, mm_kd_pa, mm_ln_pa, mm_gl_pa, mm_gr_pa, mm_sz_pa, mm_gi_pa, W_kd_91 H, W_s_91 H, W_gr_91_2 H, W_gr_91_3 H, W_gr_91_4 H, W_gr_91_5 H, W_gr_91_6 H, W_gr_91_7 H, W_gr_91_9 H, W_gr_91_10 H, W_gr_91_12 H, W_gr_91_22 H, W_gr_91_24 H, W_gr_91_25 H, W_gr_91_27 H, W_gr_91_28 H, W_gr_91_31 H, W_gr_91_32 H, W_gr_91_33 H, W_gr_91_35 H, W_gr_91_36 H, W_gr_91_37 H, W_gr_91_41 H, W_gr_91_42 H, W_gr_91_43 H, W_gr_91_44 H, W_gr_91_45 H, W_gr_91_46 H, W_gr_91_47 H, W_gr_91_48 H, W_gr_91_49 H, W_gr_91_55 H, W_kd_93 H, W_s_93 H, W_ln_93 H, f8, v8, c8, e8]
  refine c_X10_readIt_9 (bb := (0, 0)) (b := (0, 0)) (Nat.le_of_ble_eq_true rfl) ⟨rfl, rfl⟩ (sp_ones w1.1 ?_)
  refine t_X10_readIt_12 _ _ _ ?_
  simp only [s_iadd, s_isub, s_imul, s_iand, s_ior, s_ixor, s_ishl, s_ishr, s_iushr, s_idiv, s_irem, s_ladd, s_lsub, s_lmul, s_ldiv, s_lrem, s_ineg, s_i2l, s_l2i, s_i2c, s_lcmp, s_ic, s_lc, s_nul, s_str, s_il, s_ll, s_al, s_dup, s_dup2, s_pop, s_ifne, s_icne, s_ifeq, s_iflt, s_ifge, s_ifgt, s_ifle, s_iceq, s_iclt, s_icge, s_icgt, s_icle, s_ifnull, s_ifnonnull, s_is, s_ls, s_as, s_ii, s_gi, s_gl, s_gr, s_pi, s_pz, s_pl, s_pr, s_iald, s_zald, s_lald, s_aald, s_alen, s_iast, s_zast, s_last, s_iret, s_zret, s_lret, s_aret, s_vret, s_sw, s_aast, mm_sw, mm_ld, mm_s1, mm_s2, mm_kl, Value.category, va_rf, List.nil_append, List.cons_append, Option.toList, true_and, and_true, and_self, true_or, or_true, eq_self, not_true_eq_false, false_implies, true_implies, not_false_eq_true, mm_10, mm_01, false_or, or_false, Nat.left_eq_add, Nat.add_eq_left, Nat.add_left_cancel_iff, Nat.reduceEqDiff, false_and, and_false, reduceIte, mm_kd_pi, mm_ln_pi, mm_gl_pi, mm_gr_pi, mm_sz_pi, mm_gi_pi, mm_kd_pl, mm_ln_pl, mm_gi_pl, mm_gr_pl, mm_sz_pl, mm_gl_pl, mm_kd_pr, mm_ln_pr, mm_gi_pr, mm_gl_pr, mm_sz_pr, mm_gr_pr, mm_kd_pa, mm_ln_pa, mm_gl_pa, mm_gr_pa, mm_sz_pa, mm_gi_pa]
  refine c_X10_readIt_16 (bb := (0, 0)) (b := (0, 0)) (Nat.le_of_ble_eq_true rfl) ⟨rfl, rfl⟩ (W_kd_91 H) (W_s_91 H) (sp_hear H h20 v hm hA hq hp (fun g F et => ?_))
  have Hg := fx_WS F H
  have e14g : mm_gi g 93 (14 + q) = nI (S 2 q) := by rw [F.2.1 93 _ (by unfold xH xL; omega)]; exact e14
  refine t_X10_readIt_19 _ _ _ ?_
  simp only [s_iadd, s_isub, s_imul, s_iand, s_ior, s_ixor, s_ishl, s_ishr, s_iushr, s_idiv, s_irem, s_ladd, s_lsub, s_lmul, s_ldiv, s_lrem, s_ineg, s_i2l, s_l2i, s_i2c, s_lcmp, s_ic, s_lc, s_nul, s_str, s_il, s_ll, s_al, s_dup, s_dup2, s_pop, s_ifne, s_icne, s_ifeq, s_iflt, s_ifge, s_ifgt, s_ifle, s_iceq, s_iclt, s_icge, s_icgt, s_icle, s_ifnull, s_ifnonnull, s_is, s_ls, s_as, s_ii, s_gi, s_gl, s_gr, s_pi, s_pz, s_pl, s_pr, s_iald, s_zald, s_lald, s_aald, s_alen, s_iast, s_zast, s_last, s_iret, s_zret, s_lret, s_aret, s_vret, s_sw, s_aast, mm_sw, mm_ld, mm_s1, mm_s2, mm_kl, Value.category, va_rf, List.nil_append, List.cons_append, Option.toList, true_and, and_true, and_self, true_or, or_true, eq_self, not_true_eq_false, false_implies, true_implies, not_false_eq_true, mm_10, mm_01, false_or, or_false, Nat.left_eq_add, Nat.add_eq_left, Nat.add_left_cancel_iff, Nat.reduceEqDiff, false_and, and_false, reduceIte, mm_kd_pi, mm_ln_pi, mm_gl_pi, mm_gr_pi, mm_sz_pi, mm_gi_pi, mm_kd_pl, mm_ln_pl, mm_gi_pl, mm_gr_pl, mm_sz_pl, mm_gl_pl, mm_kd_pr, mm_ln_pr, mm_gi_pr, mm_gl_pr, mm_sz_pr, mm_gr_pr, mm_kd_pa, mm_ln_pa, mm_gl_pa, mm_gr_pa, mm_sz_pa, mm_gi_pa, W_kd_91 Hg, W_s_91 Hg, W_gr_91_2 Hg, W_gr_91_3 Hg, W_gr_91_4 Hg, W_gr_91_5 Hg, W_gr_91_6 Hg, W_gr_91_7 Hg, W_gr_91_9 Hg, W_gr_91_10 Hg, W_gr_91_12 Hg, W_gr_91_22 Hg, W_gr_91_24 Hg, W_gr_91_25 Hg, W_gr_91_27 Hg, W_gr_91_28 Hg, W_gr_91_31 Hg, W_gr_91_32 Hg, W_gr_91_33 Hg, W_gr_91_35 Hg, W_gr_91_36 Hg, W_gr_91_37 Hg, W_gr_91_41 Hg, W_gr_91_42 Hg, W_gr_91_43 Hg, W_gr_91_44 Hg, W_gr_91_45 Hg, W_gr_91_46 Hg, W_gr_91_47 Hg, W_gr_91_48 Hg, W_gr_91_49 Hg, W_gr_91_55 Hg, W_kd_93 Hg, W_s_93 Hg, W_ln_93 Hg, l_14, nI_add, v14, c14, e14g, nI_1]
  have fin : mm_V q_X10_readIt (d + 7) (0, 0) K 45 [some (.ref 91), some (.int (nI p)), some (.int (nI q)), some (.int (nI (pop (S 1 q))))] [.int (nI (min 99 (S 2 q + 1))), .int (nI (14 + q)), .ref 93] g := by
    refine t_X10_readIt_45 _ _ _ ?_
    simp only [s_iadd, s_isub, s_imul, s_iand, s_ior, s_ixor, s_ishl, s_ishr, s_iushr, s_idiv, s_irem, s_ladd, s_lsub, s_lmul, s_ldiv, s_lrem, s_ineg, s_i2l, s_l2i, s_i2c, s_lcmp, s_ic, s_lc, s_nul, s_str, s_il, s_ll, s_al, s_dup, s_dup2, s_pop, s_ifne, s_icne, s_ifeq, s_iflt, s_ifge, s_ifgt, s_ifle, s_iceq, s_iclt, s_icge, s_icgt, s_icle, s_ifnull, s_ifnonnull, s_is, s_ls, s_as, s_ii, s_gi, s_gl, s_gr, s_pi, s_pz, s_pl, s_pr, s_iald, s_zald, s_lald, s_aald, s_alen, s_iast, s_zast, s_last, s_iret, s_zret, s_lret, s_aret, s_vret, s_sw, s_aast, mm_sw, mm_ld, mm_s1, mm_s2, mm_kl, Value.category, va_rf, List.nil_append, List.cons_append, Option.toList, true_and, and_true, and_self, true_or, or_true, eq_self, not_true_eq_false, false_implies, true_implies, not_false_eq_true, mm_10, mm_01, false_or, or_false, Nat.left_eq_add, Nat.add_eq_left, Nat.add_left_cancel_iff, Nat.reduceEqDiff, false_and, and_false, reduceIte, mm_kd_pi, mm_ln_pi, mm_gl_pi, mm_gr_pi, mm_sz_pi, mm_gi_pi, mm_kd_pl, mm_ln_pl, mm_gi_pl, mm_gr_pl, mm_sz_pl, mm_gl_pl, mm_kd_pr, mm_ln_pr, mm_gi_pr, mm_gl_pr, mm_sz_pr, mm_gr_pr, mm_kd_pa, mm_ln_pa, mm_gl_pa, mm_gr_pa, mm_sz_pa, mm_gi_pa, W_kd_91 Hg, W_s_91 Hg, W_gr_91_2 Hg, W_gr_91_3 Hg, W_gr_91_4 Hg, W_gr_91_5 Hg, W_gr_91_6 Hg, W_gr_91_7 Hg, W_gr_91_9 Hg, W_gr_91_10 Hg, W_gr_91_12 Hg, W_gr_91_22 Hg, W_gr_91_24 Hg, W_gr_91_25 Hg, W_gr_91_27 Hg, W_gr_91_28 Hg, W_gr_91_31 Hg, W_gr_91_32 Hg, W_gr_91_33 Hg, W_gr_91_35 Hg, W_gr_91_36 Hg, W_gr_91_37 Hg, W_gr_91_41 Hg, W_gr_91_42 Hg, W_gr_91_43 Hg, W_gr_91_44 Hg, W_gr_91_45 Hg, W_gr_91_46 Hg, W_gr_91_47 Hg, W_gr_91_48 Hg, W_gr_91_49 Hg, W_gr_91_55 Hg, W_kd_93 Hg, W_s_93 Hg, W_ln_93 Hg, v14, c14, f8, v8, c8, show (8 + q = 14 + q) = False by simp, et]
    refine c_X10_readIt_55 (bb := (0, 0)) (b := (0, 0)) (Nat.le_of_ble_eq_true rfl) ⟨rfl, rfl⟩ (sp_ones tl ?_)
    refine t_X10_readIt_58 _ _ _ ?_
    simp only [s_iadd, s_isub, s_imul, s_iand, s_ior, s_ixor, s_ishl, s_ishr, s_iushr, s_idiv, s_irem, s_ladd, s_lsub, s_lmul, s_ldiv, s_lrem, s_ineg, s_i2l, s_l2i, s_i2c, s_lcmp, s_ic, s_lc, s_nul, s_str, s_il, s_ll, s_al, s_dup, s_dup2, s_pop, s_ifne, s_icne, s_ifeq, s_iflt, s_ifge, s_ifgt, s_ifle, s_iceq, s_iclt, s_icge, s_icgt, s_icle, s_ifnull, s_ifnonnull, s_is, s_ls, s_as, s_ii, s_gi, s_gl, s_gr, s_pi, s_pz, s_pl, s_pr, s_iald, s_zald, s_lald, s_aald, s_alen, s_iast, s_zast, s_last, s_iret, s_zret, s_lret, s_aret, s_vret, s_sw, s_aast, mm_sw, mm_ld, mm_s1, mm_s2, mm_kl, Value.category, va_rf, List.nil_append, List.cons_append, Option.toList, true_and, and_true, and_self, true_or, or_true, eq_self, not_true_eq_false, false_implies, true_implies, not_false_eq_true, mm_10, mm_01, false_or, or_false, Nat.left_eq_add, Nat.add_eq_left, Nat.add_left_cancel_iff, Nat.reduceEqDiff, false_and, and_false, reduceIte, mm_kd_pi, mm_ln_pi, mm_gl_pi, mm_gr_pi, mm_sz_pi, mm_gi_pi, mm_kd_pl, mm_ln_pl, mm_gi_pl, mm_gr_pl, mm_sz_pl, mm_gl_pl, mm_kd_pr, mm_ln_pr, mm_gi_pr, mm_gl_pr, mm_sz_pr, mm_gr_pr, mm_kd_pa, mm_ln_pa, mm_gl_pa, mm_gr_pa, mm_sz_pa, mm_gi_pa]
    refine k _ (fx_pi (Or.inr ⟨rfl, by omega⟩) (xrw_H c6 F)) ?_
    refine HM_up2 (S := upS S 1 q (tkS S A q p (S 1 q) 8)) (f := mm_gi g 93) hq v.1.2.1 (HM_up1 hq v.1.2.1 hm (fun j hj => F.2.1 93 j (by unfold xH xL; omega)) et) (fun j hj => by rw [mm_gi_pi, if_neg (fun z => hj z.2)]) (by rw [mm_gi_pi, if_pos ⟨rfl, rfl⟩])
  have b : xB ((S 2 q + 1 : Nat) : Int) := by unfold xB; omega
  have t1 : ((nI (S 2 q + 1)).toInt64).toInt = ((S 2 q + 1 : Nat) : Int) := by rw [Int32.toInt_toInt64, nI_toInt (by omega)]
  refine c_X10_readIt_42 (bb := (0, 0)) (b := (0, 0)) (Nat.le_of_ble_eq_true rfl) ⟨rfl, rfl⟩ (sp_within (fun z => ?_) (fun z1 z2 => ?_) (fun z1 z2 => ?_))
  · rw [t1, ti_0] at z; omega
  · rw [t1, ti_99] at z2
    rw [Nat.min_eq_left (by omega)] at fin
    exact fin
  · rw [t1, ti_99] at z2
    rw [Nat.min_eq_right (by omega)] at fin
    rw [i64_nat (by omega), i64_i32 b, i32_nat]
    exact fin
theorem HVx_ps {n : Nat} (v : HVx S) : HVx (psS S A n) := by
  obtain ⟨v1, v2, v3, v4, v5⟩ := v
  refine ⟨by simpa [psS] using v1, fun c hc => ?_, by simpa [psS] using v3, by simpa [psS] using v4, by simpa [psS] using v5⟩
  obtain ⟨a1, a2, a3, a4⟩ := v2 c (by simpa [psS] using hc)
  refine ⟨?_, by simpa [psS] using a2, by simpa [psS] using a3, by simpa [psS] using a4⟩
  unfold psS
  split <;> omega
theorem lp_passIt (H : WS h) (h20 : mm_gi h 91 20 = 0) (v : HVx S) (hm : HM (mm_gi h 93) 0 S) (hA : MAL (mm_gi h 93) S A)
    (k : ∀ g, fx xrw yL h g → HM (mm_gi g 93) 0 (dS S A 3 p q) → K none g) : ∀ n i g, i + n = S 0 1 → fx xrw yL h g → HM (mm_gi g 93) 0 (psS S A i) → mm_V q_X10_passIt (d + 7) (0, 0) K 2 [some (.ref 91), some (.int (nI i))] [] g := by
  have v2 := v.1.2.1
  have t9 := v.2.2.2.2.1
  intro n
  induction n with
  | zero =>
    intro i g hi F hmg
    obtain rfl : i = S 0 1 := by omega
    have Hg := fx_WS F H
    have e1 : mm_gi g 93 1 = nI (S 0 1) := hmg.1.2.1
    have e5 : mm_gi g 93 5 = nI (S 9 0) := (HM_t hmg).1
    refine t_X10_passIt_2 _ _ _ ?_
    simp only [s_iadd, s_isub, s_imul, s_iand, s_ior, s_ixor, s_ishl, s_ishr, s_iushr, s_idiv, s_irem, s_ladd, s_lsub, s_lmul, s_ldiv, s_lrem, s_ineg, s_i2l, s_l2i, s_i2c, s_lcmp, s_ic, s_lc, s_nul, s_str, s_il, s_ll, s_al, s_dup, s_dup2, s_pop, s_ifne, s_icne, s_ifeq, s_iflt, s_ifge, s_ifgt, s_ifle, s_iceq, s_iclt, s_icge, s_icgt, s_icle, s_ifnull, s_ifnonnull, s_is, s_ls, s_as, s_ii, s_gi, s_gl, s_gr, s_pi, s_pz, s_pl, s_pr, s_iald, s_zald, s_lald, s_aald, s_alen, s_iast, s_zast, s_last, s_iret, s_zret, s_lret, s_aret, s_vret, s_sw, s_aast, mm_sw, mm_ld, mm_s1, mm_s2, mm_kl, Value.category, va_rf, List.nil_append, List.cons_append, Option.toList, true_and, and_true, and_self, true_or, or_true, eq_self, not_true_eq_false, false_implies, true_implies, not_false_eq_true, mm_10, mm_01, false_or, or_false, Nat.left_eq_add, Nat.add_eq_left, Nat.add_left_cancel_iff, Nat.reduceEqDiff, false_and, and_false, reduceIte, mm_kd_pi, mm_ln_pi, mm_gl_pi, mm_gr_pi, mm_sz_pi, mm_gi_pi, mm_kd_pl, mm_ln_pl, mm_gi_pl, mm_gr_pl, mm_sz_pl, mm_gl_pl, mm_kd_pr, mm_ln_pr, mm_gi_pr, mm_gl_pr, mm_sz_pr, mm_gr_pr, mm_kd_pa, mm_ln_pa, mm_gl_pa, mm_gr_pa, mm_sz_pa, mm_gi_pa, W_kd_91 Hg, W_s_91 Hg, W_gr_91_2 Hg, W_gr_91_3 Hg, W_gr_91_4 Hg, W_gr_91_5 Hg, W_gr_91_6 Hg, W_gr_91_7 Hg, W_gr_91_9 Hg, W_gr_91_10 Hg, W_gr_91_12 Hg, W_gr_91_22 Hg, W_gr_91_24 Hg, W_gr_91_25 Hg, W_gr_91_27 Hg, W_gr_91_28 Hg, W_gr_91_31 Hg, W_gr_91_32 Hg, W_gr_91_33 Hg, W_gr_91_35 Hg, W_gr_91_36 Hg, W_gr_91_37 Hg, W_gr_91_41 Hg, W_gr_91_42 Hg, W_gr_91_43 Hg, W_gr_91_44 Hg, W_gr_91_45 Hg, W_gr_91_46 Hg, W_gr_91_47 Hg, W_gr_91_48 Hg, W_gr_91_49 Hg, W_gr_91_55 Hg, W_kd_93 Hg, W_s_93 Hg, W_ln_93 Hg, show (1 : Int32).toNatClampNeg = 1 from rfl, show vp_in (1 : Int32) 5475 from vp_in_nI (n := 1) (by decide) (by decide), show (5 : Int32).toNatClampNeg = 5 from rfl, show vp_in (5 : Int32) 5475 from vp_in_nI (n := 5) (by decide) (by decide), e1, e5, eq_true (nI_le (Nat.le_refl (S 0 1)) (show S 0 1 < 2 ^ 31 by omega)), nI_1]
    refine k _ (fx_pi (Or.inr ⟨rfl, by omega⟩) F) ?_
    exact HM_upT hmg (fun j hj => by rw [mm_gi_pi, if_neg (fun z => hj z.2)]) (by rw [mm_gi_pi, if_pos ⟨rfl, rfl⟩])
  | succ n ih =>
    intro i g hi F hmg
    have Hg := fx_WS F H
    have hi' : i < S 0 1 := by omega
    have e1 : mm_gi g 93 1 = nI (S 0 1) := hmg.1.2.1
    have pi : psS S A i 1 i = S 1 i := by unfold psS; rw [if_neg (by omega)]
    have e8 : mm_gi g 93 (8 + i) = nI (S 1 i) := by have := (HM_c hmg (show i < psS S A i 0 1 from hi')).1; rwa [pi] at this
    have v8 := vp_in_nI (show 8 + i < 5475 by omega) (show 5475 < 2 ^ 31 by decide)
    have c8 := nI_clamp (show 8 + i < 2 ^ 31 by omega)
    have f8 : (8 : Int32) + nI i = nI (8 + i) := nI_add 8 i
    refine t_X10_passIt_2 _ _ _ ?_
    simp only [s_iadd, s_isub, s_imul, s_iand, s_ior, s_ixor, s_ishl, s_ishr, s_iushr, s_idiv, s_irem, s_ladd, s_lsub, s_lmul, s_ldiv, s_lrem, s_ineg, s_i2l, s_l2i, s_i2c, s_lcmp, s_ic, s_lc, s_nul, s_str, s_il, s_ll, s_al, s_dup, s_dup2, s_pop, s_ifne, s_icne, s_ifeq, s_iflt, s_ifge, s_ifgt, s_ifle, s_iceq, s_iclt, s_icge, s_icgt, s_icle, s_ifnull, s_ifnonnull, s_is, s_ls, s_as, s_ii, s_gi, s_gl, s_gr, s_pi, s_pz, s_pl, s_pr, s_iald, s_zald, s_lald, s_aald, s_alen, s_iast, s_zast, s_last, s_iret, s_zret, s_lret, s_aret, s_vret, s_sw, s_aast, mm_sw, mm_ld, mm_s1, mm_s2, mm_kl, Value.category, va_rf, List.nil_append, List.cons_append, Option.toList, true_and, and_true, and_self, true_or, or_true, eq_self, not_true_eq_false, false_implies, true_implies, not_false_eq_true, mm_10, mm_01, false_or, or_false, Nat.left_eq_add, Nat.add_eq_left, Nat.add_left_cancel_iff, Nat.reduceEqDiff, false_and, and_false, reduceIte, mm_kd_pi, mm_ln_pi, mm_gl_pi, mm_gr_pi, mm_sz_pi, mm_gi_pi, mm_kd_pl, mm_ln_pl, mm_gi_pl, mm_gr_pl, mm_sz_pl, mm_gl_pl, mm_kd_pr, mm_ln_pr, mm_gi_pr, mm_gl_pr, mm_sz_pr, mm_gr_pr, mm_kd_pa, mm_ln_pa, mm_gl_pa, mm_gr_pa, mm_sz_pa, mm_gi_pa, W_kd_91 Hg, W_s_91 Hg, W_gr_91_2 Hg, W_gr_91_3 Hg, W_gr_91_4 Hg, W_gr_91_5 Hg, W_gr_91_6 Hg, W_gr_91_7 Hg, W_gr_91_9 Hg, W_gr_91_10 Hg, W_gr_91_12 Hg, W_gr_91_22 Hg, W_gr_91_24 Hg, W_gr_91_25 Hg, W_gr_91_27 Hg, W_gr_91_28 Hg, W_gr_91_31 Hg, W_gr_91_32 Hg, W_gr_91_33 Hg, W_gr_91_35 Hg, W_gr_91_36 Hg, W_gr_91_37 Hg, W_gr_91_41 Hg, W_gr_91_42 Hg, W_gr_91_43 Hg, W_gr_91_44 Hg, W_gr_91_45 Hg, W_gr_91_46 Hg, W_gr_91_47 Hg, W_gr_91_48 Hg, W_gr_91_49 Hg, W_gr_91_55 Hg, W_kd_93 Hg, W_s_93 Hg, W_ln_93 Hg, show (1 : Int32).toNatClampNeg = 1 from rfl, show vp_in (1 : Int32) 5475 from vp_in_nI (n := 1) (by decide) (by decide), e1, eq_false (nI_ge hi' (show S 0 1 < 2 ^ 31 by omega)), f8, v8, c8, e8]
    refine c_X10_passIt_24 (bb := (0, 0)) (b := (0, 0)) (Nat.le_of_ble_eq_true rfl) ⟨rfl, rfl⟩ (W_kd_91 Hg) (W_s_91 Hg) (sp_fading (S := psS S A i) (A := A) Hg (by rw [F.2.1 91 20 (by unfold xrw xL; omega)]; exact h20) (HVx_ps v) hmg (MAL_rw F (by unfold psS; rw [if_neg (by omega)]) hA) hi' (fun g' F' => ?_))
    have Hg' := fx_WS F' Hg
    refine t_X10_passIt_27 _ _ _ ?_
    rw [pi, fdF_cg (fun tr => lE_ps), show psS S A i 9 0 = S 9 0 by unfold psS; rw [if_neg (by omega)]]
    simp only [s_iadd, s_isub, s_imul, s_iand, s_ior, s_ixor, s_ishl, s_ishr, s_iushr, s_idiv, s_irem, s_ladd, s_lsub, s_lmul, s_ldiv, s_lrem, s_ineg, s_i2l, s_l2i, s_i2c, s_lcmp, s_ic, s_lc, s_nul, s_str, s_il, s_ll, s_al, s_dup, s_dup2, s_pop, s_ifne, s_icne, s_ifeq, s_iflt, s_ifge, s_ifgt, s_ifle, s_iceq, s_iclt, s_icge, s_icgt, s_icle, s_ifnull, s_ifnonnull, s_is, s_ls, s_as, s_ii, s_gi, s_gl, s_gr, s_pi, s_pz, s_pl, s_pr, s_iald, s_zald, s_lald, s_aald, s_alen, s_iast, s_zast, s_last, s_iret, s_zret, s_lret, s_aret, s_vret, s_sw, s_aast, mm_sw, mm_ld, mm_s1, mm_s2, mm_kl, Value.category, va_rf, List.nil_append, List.cons_append, Option.toList, true_and, and_true, and_self, true_or, or_true, eq_self, not_true_eq_false, false_implies, true_implies, not_false_eq_true, mm_10, mm_01, false_or, or_false, Nat.left_eq_add, Nat.add_eq_left, Nat.add_left_cancel_iff, Nat.reduceEqDiff, false_and, and_false, reduceIte, mm_kd_pi, mm_ln_pi, mm_gl_pi, mm_gr_pi, mm_sz_pi, mm_gi_pi, mm_kd_pl, mm_ln_pl, mm_gi_pl, mm_gr_pl, mm_sz_pl, mm_gl_pl, mm_kd_pr, mm_ln_pr, mm_gi_pr, mm_gl_pr, mm_sz_pr, mm_gr_pr, mm_kd_pa, mm_ln_pa, mm_gl_pa, mm_gr_pa, mm_sz_pa, mm_gi_pa, W_kd_93 Hg', W_s_93 Hg', W_ln_93 Hg', v8, c8, nI_1, pk_sub (fdF_kn (S := S) (A := A) (c := i) (kn := S 1 i) (dy := S 9 0) 8)]
    refine ih (i + 1) _ (by omega) (fx_pi (Or.inr ⟨rfl, by omega⟩) (fx_tr F (xrw_L F'))) ?_
    rw [← psS_s]
    exact HM_up1 hi' v2 hmg (fun j hj => by rw [mm_gi_pi, if_neg (fun z => hj z.2), F'.2.1 93 j (by unfold xL; omega)]) (by rw [mm_gi_pi, if_pos ⟨rfl, rfl⟩])
theorem sp_passIt (H : WS h) (h20 : mm_gi h 91 20 = 0) (v : HVx S) (hm : HM (mm_gi h 93) 0 S) (hA : MAL (mm_gi h 93) S A)
    (k : ∀ g, fx xrw yL h g → HM (mm_gi g 93) 0 (dS S A 3 p q) → K none g) : mm_MV q_X10_passIt (d + 7) (0, 0) [.ref 91] h K := by
  refine e_X10_passIt (t_X10_passIt_0 _ _ _ ?_)
  simp only [s_iadd, s_isub, s_imul, s_iand, s_ior, s_ixor, s_ishl, s_ishr, s_iushr, s_idiv, s_irem, s_ladd, s_lsub, s_lmul, s_ldiv, s_lrem, s_ineg, s_i2l, s_l2i, s_i2c, s_lcmp, s_ic, s_lc, s_nul, s_str, s_il, s_ll, s_al, s_dup, s_dup2, s_pop, s_ifne, s_icne, s_ifeq, s_iflt, s_ifge, s_ifgt, s_ifle, s_iceq, s_iclt, s_icge, s_icgt, s_icle, s_ifnull, s_ifnonnull, s_is, s_ls, s_as, s_ii, s_gi, s_gl, s_gr, s_pi, s_pz, s_pl, s_pr, s_iald, s_zald, s_lald, s_aald, s_alen, s_iast, s_zast, s_last, s_iret, s_zret, s_lret, s_aret, s_vret, s_sw, s_aast, mm_sw, mm_ld, mm_s1, mm_s2, mm_kl, Value.category, va_rf, List.nil_append, List.cons_append, Option.toList, true_and, and_true, and_self, true_or, or_true, eq_self, not_true_eq_false, false_implies, true_implies, not_false_eq_true, mm_10, mm_01, false_or, or_false, Nat.left_eq_add, Nat.add_eq_left, Nat.add_left_cancel_iff, Nat.reduceEqDiff, false_and, and_false, reduceIte, mm_kd_pi, mm_ln_pi, mm_gl_pi, mm_gr_pi, mm_sz_pi, mm_gi_pi, mm_kd_pl, mm_ln_pl, mm_gi_pl, mm_gr_pl, mm_sz_pl, mm_gl_pl, mm_kd_pr, mm_ln_pr, mm_gi_pr, mm_gl_pr, mm_sz_pr, mm_gr_pr, mm_kd_pa, mm_ln_pa, mm_gl_pa, mm_gr_pa, mm_sz_pa, mm_gi_pa]
  exact lp_passIt H h20 v hm hA k (S 0 1) 0 h (by omega) fx_rf (by rw [psS_0]; exact hm)
end
