section
variable {d : Nat} {h : mmH} {x : Int32} {K : Option Value → mmH → Prop}
theorem sp_highestTerm {w : Nat} (hw : w < 3) (k : K (some (.int (nI (tmax w)))) h) : mm_MV q_X9_highestTerm d (0, 0) [.int (nI w)] h K := by
  refine e_X9_highestTerm (t_X9_highestTerm_0 _ _ _ ?_)
  rcases (show w = 0 ∨ w = 1 ∨ w = 2 by omega) with rfl | rfl | rfl
  · simp only [s_iadd, s_isub, s_imul, s_iand, s_ior, s_ixor, s_ishl, s_ishr, s_iushr, s_idiv, s_irem, s_ladd, s_lsub, s_lmul, s_ldiv, s_lrem, s_ineg, s_i2l, s_l2i, s_i2c, s_lcmp, s_ic, s_lc, s_nul, s_str, s_il, s_ll, s_al, s_dup, s_dup2, s_pop, s_ifne, s_icne, s_ifeq, s_iflt, s_ifge, s_ifgt, s_ifle, s_iceq, s_iclt, s_icge, s_icgt, s_icle, s_ifnull, s_ifnonnull, s_is, s_ls, s_as, s_ii, s_gi, s_gl, s_gr, s_pi, s_pz, s_pl, s_pr, s_iald, s_zald, s_lald, s_aald, s_alen, s_iast, s_zast, s_last, s_iret, s_zret, s_lret, s_aret, s_vret, s_sw, s_aast, mm_sw, mm_ld, mm_s1, mm_s2, mm_kl, Value.category, va_rf, List.nil_append, List.cons_append, Option.toList, true_and, and_true, and_self, true_or, or_true, eq_self, not_true_eq_false, false_implies, true_implies, not_false_eq_true, mm_10, mm_01, false_or, or_false, Nat.left_eq_add, Nat.add_eq_left, Nat.add_left_cancel_iff, Nat.reduceEqDiff, false_and, and_false, reduceIte, mm_kd_pi, mm_ln_pi, mm_gl_pi, mm_gr_pi, mm_sz_pi, mm_gi_pi, mm_kd_pl, mm_ln_pl, mm_gi_pl, mm_gr_pl, mm_sz_pl, mm_gl_pl, mm_kd_pr, mm_ln_pr, mm_gi_pr, mm_gl_pr, mm_sz_pr, mm_gr_pr, mm_kd_pa, mm_ln_pa, mm_gl_pa, mm_gr_pa, mm_sz_pa, mm_gi_pa]
    exact ⟨fun c => absurd rfl c, fun _ => k⟩
  · simp only [s_iadd, s_isub, s_imul, s_iand, s_ior, s_ixor, s_ishl, s_ishr, s_iushr, s_idiv, s_irem, s_ladd, s_lsub, s_lmul, s_ldiv, s_lrem, s_ineg, s_i2l, s_l2i, s_i2c, s_lcmp, s_ic, s_lc, s_nul, s_str, s_il, s_ll, s_al, s_dup, s_dup2, s_pop, s_ifne, s_icne, s_ifeq, s_iflt, s_ifge, s_ifgt, s_ifle, s_iceq, s_iclt, s_icge, s_icgt, s_icle, s_ifnull, s_ifnonnull, s_is, s_ls, s_as, s_ii, s_gi, s_gl, s_gr, s_pi, s_pz, s_pl, s_pr, s_iald, s_zald, s_lald, s_aald, s_alen, s_iast, s_zast, s_last, s_iret, s_zret, s_lret, s_aret, s_vret, s_sw, s_aast, mm_sw, mm_ld, mm_s1, mm_s2, mm_kl, Value.category, va_rf, List.nil_append, List.cons_append, Option.toList, true_and, and_true, and_self, true_or, or_true, eq_self, not_true_eq_false, false_implies, true_implies, not_false_eq_true, mm_10, mm_01, false_or, or_false, Nat.left_eq_add, Nat.add_eq_left, Nat.add_left_cancel_iff, Nat.reduceEqDiff, false_and, and_false, reduceIte, mm_kd_pi, mm_ln_pi, mm_gl_pi, mm_gr_pi, mm_sz_pi, mm_gi_pi, mm_kd_pl, mm_ln_pl, mm_gi_pl, mm_gr_pl, mm_sz_pl, mm_gl_pl, mm_kd_pr, mm_ln_pr, mm_gi_pr, mm_gl_pr, mm_sz_pr, mm_gr_pr, mm_kd_pa, mm_ln_pa, mm_gl_pa, mm_gr_pa, mm_sz_pa, mm_gi_pa]
    refine ⟨fun _ => ⟨fun c => absurd rfl c, fun _ => ?_⟩, fun c => absurd c (by decide)⟩
    refine t_X9_highestTerm_20 _ _ _ ?_
    simp only [s_iadd, s_isub, s_imul, s_iand, s_ior, s_ixor, s_ishl, s_ishr, s_iushr, s_idiv, s_irem, s_ladd, s_lsub, s_lmul, s_ldiv, s_lrem, s_ineg, s_i2l, s_l2i, s_i2c, s_lcmp, s_ic, s_lc, s_nul, s_str, s_il, s_ll, s_al, s_dup, s_dup2, s_pop, s_ifne, s_icne, s_ifeq, s_iflt, s_ifge, s_ifgt, s_ifle, s_iceq, s_iclt, s_icge, s_icgt, s_icle, s_ifnull, s_ifnonnull, s_is, s_ls, s_as, s_ii, s_gi, s_gl, s_gr, s_pi, s_pz, s_pl, s_pr, s_iald, s_zald, s_lald, s_aald, s_alen, s_iast, s_zast, s_last, s_iret, s_zret, s_lret, s_aret, s_vret, s_sw, s_aast, mm_sw, mm_ld, mm_s1, mm_s2, mm_kl, Value.category, va_rf, List.nil_append, List.cons_append, Option.toList, true_and, and_true, and_self, true_or, or_true, eq_self, not_true_eq_false, false_implies, true_implies, not_false_eq_true, mm_10, mm_01, false_or, or_false, Nat.left_eq_add, Nat.add_eq_left, Nat.add_left_cancel_iff, Nat.reduceEqDiff, false_and, and_false, reduceIte, mm_kd_pi, mm_ln_pi, mm_gl_pi, mm_gr_pi, mm_sz_pi, mm_gi_pi, mm_kd_pl, mm_ln_pl, mm_gi_pl, mm_gr_pl, mm_sz_pl, mm_gl_pl, mm_kd_pr, mm_ln_pr, mm_gi_pr, mm_gl_pr, mm_sz_pr, mm_gr_pr, mm_kd_pa, mm_ln_pa, mm_gl_pa, mm_gr_pa, mm_sz_pa, mm_gi_pa]
    exact k
  · simp only [s_iadd, s_isub, s_imul, s_iand, s_ior, s_ixor, s_ishl, s_ishr, s_iushr, s_idiv, s_irem, s_ladd, s_lsub, s_lmul, s_ldiv, s_lrem, s_ineg, s_i2l, s_l2i, s_i2c, s_lcmp, s_ic, s_lc, s_nul, s_str, s_il, s_ll, s_al, s_dup, s_dup2, s_pop, s_ifne, s_icne, s_ifeq, s_iflt, s_ifge, s_ifgt, s_ifle, s_iceq, s_iclt, s_icge, s_icgt, s_icle, s_ifnull, s_ifnonnull, s_is, s_ls, s_as, s_ii, s_gi, s_gl, s_gr, s_pi, s_pz, s_pl, s_pr, s_iald, s_zald, s_lald, s_aald, s_alen, s_iast, s_zast, s_last, s_iret, s_zret, s_lret, s_aret, s_vret, s_sw, s_aast, mm_sw, mm_ld, mm_s1, mm_s2, mm_kl, Value.category, va_rf, List.nil_append, List.cons_append, Option.toList, true_and, and_true, and_self, true_or, or_true, eq_self, not_true_eq_false, false_implies, true_implies, not_false_eq_true, mm_10, mm_01, false_or, or_false, Nat.left_eq_add, Nat.add_eq_left, Nat.add_left_cancel_iff, Nat.reduceEqDiff, false_and, and_false, reduceIte, mm_kd_pi, mm_ln_pi, mm_gl_pi, mm_gr_pi, mm_sz_pi, mm_gi_pi, mm_kd_pl, mm_ln_pl, mm_gi_pl, mm_gr_pl, mm_sz_pl, mm_gl_pl, mm_kd_pr, mm_ln_pr, mm_gi_pr, mm_gl_pr, mm_sz_pr, mm_gr_pr, mm_kd_pa, mm_ln_pa, mm_gl_pa, mm_gr_pa, mm_sz_pa, mm_gi_pa]
    refine ⟨fun _ => ⟨fun _ => ?_, fun c => absurd c (by decide)⟩, fun c => absurd c (by decide)⟩
    refine t_X9_highestTerm_20 _ _ _ ?_
    simp only [s_iadd, s_isub, s_imul, s_iand, s_ior, s_ixor, s_ishl, s_ishr, s_iushr, s_idiv, s_irem, s_ladd, s_lsub, s_lmul, s_ldiv, s_lrem, s_ineg, s_i2l, s_l2i, s_i2c, s_lcmp, s_ic, s_lc, s_nul, s_str, s_il, s_ll, s_al, s_dup, s_dup2, s_pop, s_ifne, s_icne, s_ifeq, s_iflt, s_ifge, s_ifgt, s_ifle, s_iceq, s_iclt, s_icge, s_icgt, s_icle, s_ifnull, s_ifnonnull, s_is, s_ls, s_as, s_ii, s_gi, s_gl, s_gr, s_pi, s_pz, s_pl, s_pr, s_iald, s_zald, s_lald, s_aald, s_alen, s_iast, s_zast, s_last, s_iret, s_zret, s_lret, s_aret, s_vret, s_sw, s_aast, mm_sw, mm_ld, mm_s1, mm_s2, mm_kl, Value.category, va_rf, List.nil_append, List.cons_append, Option.toList, true_and, and_true, and_self, true_or, or_true, eq_self, not_true_eq_false, false_implies, true_implies, not_false_eq_true, mm_10, mm_01, false_or, or_false, Nat.left_eq_add, Nat.add_eq_left, Nat.add_left_cancel_iff, Nat.reduceEqDiff, false_and, and_false, reduceIte, mm_kd_pi, mm_ln_pi, mm_gl_pi, mm_gr_pi, mm_sz_pi, mm_gi_pi, mm_kd_pl, mm_ln_pl, mm_gi_pl, mm_gr_pl, mm_sz_pl, mm_gl_pl, mm_kd_pr, mm_ln_pr, mm_gi_pr, mm_gl_pr, mm_sz_pr, mm_gr_pr, mm_kd_pa, mm_ln_pa, mm_gl_pa, mm_gr_pa, mm_sz_pa, mm_gi_pa]
    exact k
theorem sp_terms {x1 x2 : Int32} (H : WS h) (k0 : ¬ (∃ w, w < 3 ∧ x1 = nI w ∧ 0 ≤ x2.toInt ∧ x2.toInt ≤ tmax w) → K (some (.int (-1))) (rfH h (-1) 0)) (k1 : ∀ w, w < 3 → x1 = nI w → 0 ≤ x2.toInt → x2.toInt ≤ tmax w → K (some (.int (mm_gi h 13 w))) (acH (mm_pi (mm_pi h 50 1 0) 13 w x2))) : mm_MV q_X9_terms (d + 1) (0, 0) [.ref 0, .int x1, .int x2] h K := by
  have no : ¬ (∃ w, w < 3 ∧ x1 = nI w ∧ 0 ≤ x2.toInt ∧ x2.toInt ≤ tmax w) → mm_V q_X9_terms (d + 1) (0, 0) K 21 [some (.ref 0), some (.int x1), some (.int x2), none] [] h := by
    intro c
    refine t_X9_terms_21 _ _ _ ?_
    simp only [s_iadd, s_isub, s_imul, s_iand, s_ior, s_ixor, s_ishl, s_ishr, s_iushr, s_idiv, s_irem, s_ladd, s_lsub, s_lmul, s_ldiv, s_lrem, s_ineg, s_i2l, s_l2i, s_i2c, s_lcmp, s_ic, s_lc, s_nul, s_str, s_il, s_ll, s_al, s_dup, s_dup2, s_pop, s_ifne, s_icne, s_ifeq, s_iflt, s_ifge, s_ifgt, s_ifle, s_iceq, s_iclt, s_icge, s_icgt, s_icle, s_ifnull, s_ifnonnull, s_is, s_ls, s_as, s_ii, s_gi, s_gl, s_gr, s_pi, s_pz, s_pl, s_pr, s_iald, s_zald, s_lald, s_aald, s_alen, s_iast, s_zast, s_last, s_iret, s_zret, s_lret, s_aret, s_vret, s_sw, s_aast, mm_sw, mm_ld, mm_s1, mm_s2, mm_kl, Value.category, va_rf, List.nil_append, List.cons_append, Option.toList, true_and, and_true, and_self, true_or, or_true, eq_self, not_true_eq_false, false_implies, true_implies, not_false_eq_true, mm_10, mm_01, false_or, or_false, Nat.left_eq_add, Nat.add_eq_left, Nat.add_left_cancel_iff, Nat.reduceEqDiff, false_and, and_false, reduceIte, mm_kd_pi, mm_ln_pi, mm_gl_pi, mm_gr_pi, mm_sz_pi, mm_gi_pi, mm_kd_pl, mm_ln_pl, mm_gi_pl, mm_gr_pl, mm_sz_pl, mm_gl_pl, mm_kd_pr, mm_ln_pr, mm_gi_pr, mm_gl_pr, mm_sz_pr, mm_gr_pr, mm_kd_pa, mm_ln_pa, mm_gl_pa, mm_gr_pa, mm_sz_pa, mm_gi_pa]
    refine c_X9_terms_23 (bb := (0, 0)) (b := (0, 0)) (Nat.le_of_ble_eq_true rfl) ⟨rfl, rfl⟩ (W_kd_0 H) (W_s_0 H) (sp_refuse (p := 0) H (by simp) ?_)
    (first | refine t_X9_terms_0 _ _ _ ?_ | refine t_X9_terms_18 _ _ _ ?_ | refine t_X9_terms_21 _ _ _ ?_ | refine t_X9_terms_26 _ _ _ ?_ | refine t_X9_terms_34 _ _ _ ?_ | refine t_X9_terms_59 _ _ _ ?_)
    simp only [s_iadd, s_isub, s_imul, s_iand, s_ior, s_ixor, s_ishl, s_ishr, s_iushr, s_idiv, s_irem, s_ladd, s_lsub, s_lmul, s_ldiv, s_lrem, s_ineg, s_i2l, s_l2i, s_i2c, s_lcmp, s_ic, s_lc, s_nul, s_str, s_il, s_ll, s_al, s_dup, s_dup2, s_pop, s_ifne, s_icne, s_ifeq, s_iflt, s_ifge, s_ifgt, s_ifle, s_iceq, s_iclt, s_icge, s_icgt, s_icle, s_ifnull, s_ifnonnull, s_is, s_ls, s_as, s_ii, s_gi, s_gl, s_gr, s_pi, s_pz, s_pl, s_pr, s_iald, s_zald, s_lald, s_aald, s_alen, s_iast, s_zast, s_last, s_iret, s_zret, s_lret, s_aret, s_vret, s_sw, s_aast, mm_sw, mm_ld, mm_s1, mm_s2, mm_kl, Value.category, va_rf, List.nil_append, List.cons_append, Option.toList, true_and, and_true, and_self, true_or, or_true, eq_self, not_true_eq_false, false_implies, true_implies, not_false_eq_true, mm_10, mm_01, false_or, or_false, Nat.left_eq_add, Nat.add_eq_left, Nat.add_left_cancel_iff, Nat.reduceEqDiff, false_and, and_false, reduceIte, mm_kd_pi, mm_ln_pi, mm_gl_pi, mm_gr_pi, mm_sz_pi, mm_gi_pi, mm_kd_pl, mm_ln_pl, mm_gi_pl, mm_gr_pl, mm_sz_pl, mm_gl_pl, mm_kd_pr, mm_ln_pr, mm_gi_pr, mm_gl_pr, mm_sz_pr, mm_gr_pr, mm_kd_pa, mm_ln_pa, mm_gl_pa, mm_gr_pa, mm_sz_pa, mm_gi_pa]
    exact k0 c
  refine e_X9_terms (t_X9_terms_0 _ _ _ ?_)
  simp only [s_iadd, s_isub, s_imul, s_iand, s_ior, s_ixor, s_ishl, s_ishr, s_iushr, s_idiv, s_irem, s_ladd, s_lsub, s_lmul, s_ldiv, s_lrem, s_ineg, s_i2l, s_l2i, s_i2c, s_lcmp, s_ic, s_lc, s_nul, s_str, s_il, s_ll, s_al, s_dup, s_dup2, s_pop, s_ifne, s_icne, s_ifeq, s_iflt, s_ifge, s_ifgt, s_ifle, s_iceq, s_iclt, s_icge, s_icgt, s_icle, s_ifnull, s_ifnonnull, s_is, s_ls, s_as, s_ii, s_gi, s_gl, s_gr, s_pi, s_pz, s_pl, s_pr, s_iald, s_zald, s_lald, s_aald, s_alen, s_iast, s_zast, s_last, s_iret, s_zret, s_lret, s_aret, s_vret, s_sw, s_aast, mm_sw, mm_ld, mm_s1, mm_s2, mm_kl, Value.category, va_rf, List.nil_append, List.cons_append, Option.toList, true_and, and_true, and_self, true_or, or_true, eq_self, not_true_eq_false, false_implies, true_implies, not_false_eq_true, mm_10, mm_01, false_or, or_false, Nat.left_eq_add, Nat.add_eq_left, Nat.add_left_cancel_iff, Nat.reduceEqDiff, false_and, and_false, reduceIte, mm_kd_pi, mm_ln_pi, mm_gl_pi, mm_gr_pi, mm_sz_pi, mm_gi_pi, mm_kd_pl, mm_ln_pl, mm_gi_pl, mm_gr_pl, mm_sz_pl, mm_gl_pl, mm_kd_pr, mm_ln_pr, mm_gi_pr, mm_gl_pr, mm_sz_pr, mm_gr_pr, mm_kd_pa, mm_ln_pa, mm_gl_pa, mm_gr_pa, mm_sz_pa, mm_gi_pa]
  refine ⟨fun c => no (fun ⟨w, hw, e, _⟩ => ?_), fun c1 => ⟨fun c => no (fun ⟨w, hw, e, _⟩ => ?_), fun c2 => ⟨fun c => no (fun ⟨w, hw, e, z1, z2⟩ => ?_), fun c3 => ?_⟩⟩⟩
  · subst e
    exact nI_pos (by omega) c
  · subst e
    rcases (show w = 0 ∨ w = 1 ∨ w = 2 by omega) with rfl | rfl | rfl <;> exact absurd c (by decide)
  · rw [Int32.lt_iff_toInt_lt, ti_0] at c
    omega
  · rw [Int32.lt_iff_toInt_lt, ti_0] at c1 c3
    rw [Int32.lt_iff_toInt_lt, ti_2] at c2
    obtain ⟨w, hw, rfl⟩ := vp_in_of (in_of (x := x1) (n := 3) (by omega) (by omega)) (by decide)
    refine c_X9_terms_15 (bb := (0, 0)) (b := (0, 0)) (Nat.le_of_ble_eq_true rfl) ⟨rfl, rfl⟩ (sp_highestTerm hw ?_)
    refine t_X9_terms_18 _ _ _ ?_
    simp only [s_iadd, s_isub, s_imul, s_iand, s_ior, s_ixor, s_ishl, s_ishr, s_iushr, s_idiv, s_irem, s_ladd, s_lsub, s_lmul, s_ldiv, s_lrem, s_ineg, s_i2l, s_l2i, s_i2c, s_lcmp, s_ic, s_lc, s_nul, s_str, s_il, s_ll, s_al, s_dup, s_dup2, s_pop, s_ifne, s_icne, s_ifeq, s_iflt, s_ifge, s_ifgt, s_ifle, s_iceq, s_iclt, s_icge, s_icgt, s_icle, s_ifnull, s_ifnonnull, s_is, s_ls, s_as, s_ii, s_gi, s_gl, s_gr, s_pi, s_pz, s_pl, s_pr, s_iald, s_zald, s_lald, s_aald, s_alen, s_iast, s_zast, s_last, s_iret, s_zret, s_lret, s_aret, s_vret, s_sw, s_aast, mm_sw, mm_ld, mm_s1, mm_s2, mm_kl, Value.category, va_rf, List.nil_append, List.cons_append, Option.toList, true_and, and_true, and_self, true_or, or_true, eq_self, not_true_eq_false, false_implies, true_implies, not_false_eq_true, mm_10, mm_01, false_or, or_false, Nat.left_eq_add, Nat.add_eq_left, Nat.add_left_cancel_iff, Nat.reduceEqDiff, false_and, and_false, reduceIte, mm_kd_pi, mm_ln_pi, mm_gl_pi, mm_gr_pi, mm_sz_pi, mm_gi_pi, mm_kd_pl, mm_ln_pl, mm_gi_pl, mm_gr_pl, mm_sz_pl, mm_gl_pl, mm_kd_pr, mm_ln_pr, mm_gi_pr, mm_gl_pr, mm_sz_pr, mm_gr_pr, mm_kd_pa, mm_ln_pa, mm_gl_pa, mm_gr_pa, mm_sz_pa, mm_gi_pa, W_kd_0 H, W_s_0 H, W_gr_0_0 H, W_gr_0_1 H, W_gr_0_2 H, W_gr_0_3 H, W_gr_0_4 H, W_gr_0_5 H, W_gr_0_6 H, W_gr_0_7 H, W_gr_0_8 H, W_gr_0_9 H, W_gr_0_10 H, W_gr_0_11 H]
    have tw : (nI (tmax w)).toInt = tmax w := nI_toInt (by rcases (show w = 0 ∨ w = 1 ∨ w = 2 by omega) with rfl | rfl | rfl <;> decide)
    refine ⟨fun c4 => ?_, fun c4 => ?_⟩
    · rw [Int32.le_iff_toInt_le, tw] at c4
      refine c_X9_terms_31 (bb := (0, 0)) (b := (0, 0)) (Nat.le_of_ble_eq_true rfl) ⟨rfl, rfl⟩ (W_kd_50 H) (W_s_50 H) (sp_tclear (W_tr50 H) ?_)
      refine t_X9_terms_34 _ _ _ ?_
      have vw : vp_in (nI w) 3 := vp_in_nI hw (by decide)
      simp only [s_iadd, s_isub, s_imul, s_iand, s_ior, s_ixor, s_ishl, s_ishr, s_iushr, s_idiv, s_irem, s_ladd, s_lsub, s_lmul, s_ldiv, s_lrem, s_ineg, s_i2l, s_l2i, s_i2c, s_lcmp, s_ic, s_lc, s_nul, s_str, s_il, s_ll, s_al, s_dup, s_dup2, s_pop, s_ifne, s_icne, s_ifeq, s_iflt, s_ifge, s_ifgt, s_ifle, s_iceq, s_iclt, s_icge, s_icgt, s_icle, s_ifnull, s_ifnonnull, s_is, s_ls, s_as, s_ii, s_gi, s_gl, s_gr, s_pi, s_pz, s_pl, s_pr, s_iald, s_zald, s_lald, s_aald, s_alen, s_iast, s_zast, s_last, s_iret, s_zret, s_lret, s_aret, s_vret, s_sw, s_aast, mm_sw, mm_ld, mm_s1, mm_s2, mm_kl, Value.category, va_rf, List.nil_append, List.cons_append, Option.toList, true_and, and_true, and_self, true_or, or_true, eq_self, not_true_eq_false, false_implies, true_implies, not_false_eq_true, mm_10, mm_01, false_or, or_false, Nat.left_eq_add, Nat.add_eq_left, Nat.add_left_cancel_iff, Nat.reduceEqDiff, false_and, and_false, reduceIte, mm_kd_pi, mm_ln_pi, mm_gl_pi, mm_gr_pi, mm_sz_pi, mm_gi_pi, mm_kd_pl, mm_ln_pl, mm_gi_pl, mm_gr_pl, mm_sz_pl, mm_gl_pl, mm_kd_pr, mm_ln_pr, mm_gi_pr, mm_gl_pr, mm_sz_pr, mm_gr_pr, mm_kd_pa, mm_ln_pa, mm_gl_pa, mm_gr_pa, mm_sz_pa, mm_gi_pa, W_kd_0 H, W_s_0 H, W_gr_0_0 H, W_gr_0_1 H, W_gr_0_2 H, W_gr_0_3 H, W_gr_0_4 H, W_gr_0_5 H, W_gr_0_6 H, W_gr_0_7 H, W_gr_0_8 H, W_gr_0_9 H, W_gr_0_10 H, W_gr_0_11 H, W_kd_4 H, W_s_4 H, W_gr_4_0 H, W_gr_4_2 H, W_gr_4_3 H, W_gr_4_4 H, W_gr_4_7 H, W_gr_4_8 H, W_gr_4_9 H, W_gr_4_11 H, W_gr_4_12 H, W_gr_4_13 H, W_gr_4_15 H, W_kd_13 H, W_s_13 H, W_ln_13 H, vw, nI_clamp (show w < 2 ^ 31 by omega)]
      refine c_X9_terms_56 (bb := (0, 0)) (b := (0, 0)) (Nat.le_of_ble_eq_true rfl) ⟨rfl, rfl⟩ (W_kd_0 H) (W_s_0 H) (sp_accept (h := mm_pi (mm_pi h 50 1 0) 13 w x2) H ?_)
      (first | refine t_X9_terms_0 _ _ _ ?_ | refine t_X9_terms_18 _ _ _ ?_ | refine t_X9_terms_21 _ _ _ ?_ | refine t_X9_terms_26 _ _ _ ?_ | refine t_X9_terms_34 _ _ _ ?_ | refine t_X9_terms_59 _ _ _ ?_)
      simp only [s_iadd, s_isub, s_imul, s_iand, s_ior, s_ixor, s_ishl, s_ishr, s_iushr, s_idiv, s_irem, s_ladd, s_lsub, s_lmul, s_ldiv, s_lrem, s_ineg, s_i2l, s_l2i, s_i2c, s_lcmp, s_ic, s_lc, s_nul, s_str, s_il, s_ll, s_al, s_dup, s_dup2, s_pop, s_ifne, s_icne, s_ifeq, s_iflt, s_ifge, s_ifgt, s_ifle, s_iceq, s_iclt, s_icge, s_icgt, s_icle, s_ifnull, s_ifnonnull, s_is, s_ls, s_as, s_ii, s_gi, s_gl, s_gr, s_pi, s_pz, s_pl, s_pr, s_iald, s_zald, s_lald, s_aald, s_alen, s_iast, s_zast, s_last, s_iret, s_zret, s_lret, s_aret, s_vret, s_sw, s_aast, mm_sw, mm_ld, mm_s1, mm_s2, mm_kl, Value.category, va_rf, List.nil_append, List.cons_append, Option.toList, true_and, and_true, and_self, true_or, or_true, eq_self, not_true_eq_false, false_implies, true_implies, not_false_eq_true, mm_10, mm_01, false_or, or_false, Nat.left_eq_add, Nat.add_eq_left, Nat.add_left_cancel_iff, Nat.reduceEqDiff, false_and, and_false, reduceIte, mm_kd_pi, mm_ln_pi, mm_gl_pi, mm_gr_pi, mm_sz_pi, mm_gi_pi, mm_kd_pl, mm_ln_pl, mm_gi_pl, mm_gr_pl, mm_sz_pl, mm_gl_pl, mm_kd_pr, mm_ln_pr, mm_gi_pr, mm_gl_pr, mm_sz_pr, mm_gr_pr, mm_kd_pa, mm_ln_pa, mm_gl_pa, mm_gr_pa, mm_sz_pa, mm_gi_pa, show (13 = 50) = False by decide]
      exact k1 w hw rfl (by omega) c4
    · rw [Int32.le_iff_toInt_le, tw] at c4
      refine no (fun ⟨w', hw', e, z1, z2⟩ => ?_)
      have : w = w' := (nI_eq (by omega) (by omega)).mp e
      subst this
      exact c4 z2
end
section
variable {LR : mmH → Nat → (Nat → Int32) → Nat → Prop}
theorem op_2 (FR : LRf LR) : OP_2 (Inv LR) := by
  intro x1 h hI
  obtain ⟨hw, _, _, ⟨S, v, hc, hm, hl, htr⟩, _⟩ := id hI
  refine sp_child hw hc.1.2.1 v.1.2.1 (fun c => ?_) (fun a1 a2 c => ?_) (fun a1 a2 c => ?_)
  · refine no_pr (h := h) (g := rfH h (-1) 0) hw (ms_child (d := 998) (h := rfH h (-1) 0) (C := S 0 1) hw (by simpa [rfH, mm_gi_pi] using hm.1.2.1) v.1.2.1 (fun _ => ⟨rfl, Inv_rf FR (by simp) hI⟩) (fun b1 b2 _ => absurd ⟨b1, b2⟩ c) (fun b1 b2 _ => absurd ⟨b1, b2⟩ c))
  · refine no_pr (h := h) (g := rfH h (-5) 3) hw (ms_child (d := 998) (h := rfH h (-5) 3) (C := S 0 1) hw (by simpa [rfH, mm_gi_pi] using hm.1.2.1) v.1.2.1 (fun z => absurd ⟨a1, a2⟩ z) (fun _ _ _ => ⟨rfl, Inv_rf FR (by simp) hI⟩) (fun _ _ _ => by omega))
  · obtain ⟨j1, g1, rfl⟩ := vp_in_of (in_of (x := x1) (n := 9) (by omega) (by omega)) (by decide)
    have t1 : (nI j1).toInt = j1 := nI_toInt (by omega)
    refine no_pr (h := h) (g := acH (addC (mm_pi h 50 1 0) 4 (S 0 1) (nI j1))) hw (ms_child (d := 998) (h := acH (addC (mm_pi h 50 1 0) 4 (S 0 1) (nI j1))) (C := S 0 1) hw (by simpa [acH, addC, mm_gi_pi] using hm.1.2.1) v.1.2.1 (fun z => absurd ⟨a1, a2⟩ z) (fun _ _ _ => by omega) (fun _ _ _ => ⟨rfl, Inv_child FR hI v hc hm hl htr c (by omega) (by omega)⟩))
theorem op_21 (FR : LRf LR) : OP_21 (Inv LR) := by
  intro x1 x2 h hI
  obtain ⟨hw, _, _, ⟨S, v, hc, hm, hl, htr⟩, _⟩ := id hI
  refine sp_told hw hc.1.2.2.1 v.1.2.2.1 (fun c => ?_) (fun a1 a2 c => ?_) (fun a1 a2 c => ?_)
  · refine no_pr (h := h) (g := rfH h (-1) 0) hw (ms_told (d := 998) (h := rfH h (-1) 0) (T := S 0 2) hw (by simpa [rfH, mm_gi_pi] using hm.1.2.2.1) v.1.2.2.1 (fun _ => ⟨rfl, Inv_rf FR (by simp) hI⟩) (fun b1 b2 _ => absurd ⟨b1, b2⟩ c) (fun b1 b2 _ => absurd ⟨b1, b2⟩ c))
  · refine no_pr (h := h) (g := rfH h (-5) 3) hw (ms_told (d := 998) (h := rfH h (-5) 3) (T := S 0 2) hw (by simpa [rfH, mm_gi_pi] using hm.1.2.2.1) v.1.2.2.1 (fun z => absurd ⟨a1, a2⟩ z) (fun _ _ _ => ⟨rfl, Inv_rf FR (by simp) hI⟩) (fun _ _ _ => by omega))
  · obtain ⟨j1, g1, rfl⟩ := vp_in_of a1 (by decide)
    obtain ⟨j2, g2, rfl⟩ := vp_in_of a2 (by decide)
    refine no_pr (h := h) (g := acH (addT h 4 (S 0 2) (nI j1) (nI j2))) hw (ms_told (d := 998) (h := acH (addT h 4 (S 0 2) (nI j1) (nI j2))) (T := S 0 2) hw (by simpa [acH, addT, mm_gi_pi] using hm.1.2.2.1) v.1.2.2.1 (fun z => absurd ⟨a1, a2⟩ z) (fun _ _ _ => by omega) (fun _ _ _ => ⟨rfl, Inv_told FR hI v hc hm hl htr c g1 g2⟩))
theorem op_14 (FR : LRf LR) : OP_14 (Inv LR) := by
  intro x1 h hI
  obtain ⟨hw, _, _, ⟨S, v, hc, hm, hl, htr⟩, _⟩ := id hI
  have w6 := v.1.2.2.2.1
  refine sp_force hw hc.1.2.2.2.1 w6 (fun c1 c2 => ?_) (fun c => ?_)
  · refine no_pr (h := h) (g := rfH h (-2) 1) hw (ms_force (d := 998) (h := rfH h (-2) 1) (W := S 0 3) hw (by simpa [rfH, mm_gi_pi] using hm.1.2.2.2.1) w6 (fun _ _ => ⟨rfl, Inv_rf FR (by simp) hI⟩) (fun z => by rcases z with z | z; exact absurd z c1; exact absurd z c2))
  · obtain ⟨m, hmW, rfl⟩ : ∃ m, m ≤ S 0 3 ∧ x1 = fo m := by
      rcases c with c | c
      · exact ⟨0, Nat.zero_le _, c⟩
      · obtain ⟨j, hj, e⟩ := vp_in_of c (by omega)
        exact ⟨j + 1, hj, by rw [e]; rfl⟩
    refine no_pr (h := h) (g := acH (mm_pi h 4 16 (fo m))) hw (ms_force (d := 998) (h := acH (mm_pi h 4 16 (fo m))) (W := S 0 3) hw (by simpa [acH, mm_gi_pi] using hm.1.2.2.2.1) w6 (fun z1 z2 => by rcases c with c | c; exact absurd c z1; exact absurd c z2) (fun _ => ⟨?_, Inv_force FR hI v hc hm hl htr hmW⟩))
    have := hm.1.2.2.2.2
    simp at this
    simp [acH, mm_gi_pi, hc.1.2.2.2.2.2, this]
theorem op_5 (FR : LRf LR) : OP_5 (Inv LR) := by
  intro x1 x2 h hI
  obtain ⟨hw, _, _, ⟨S, v, hc, hm, hl, htr⟩, _⟩ := id hI
  refine sp_terms hw (fun c => ?_) (fun w hw3 e a1 a2 => ?_)
  · exact no_pr (h := h) (g := rfH h (-1) 0) hw (ms_terms (d := 998) (h := rfH h (-1) 0) hw (fun _ => ⟨rfl, Inv_rf FR (by simp) hI⟩) (fun w b1 b2 b3 b4 => absurd ⟨w, b1, b2, b3, b4⟩ c))
  · have t9 : tmax w ≤ 999 := by rcases (show w = 0 ∨ w = 1 ∨ w = 2 by omega) with rfl | rfl | rfl <;> decide
    obtain ⟨j1, g1, rfl⟩ := vp_in_of (in_of (x := x2) (n := 1000) (by omega) (by omega)) (by decide)
    have t1 : (nI j1).toInt = j1 := nI_toInt (by omega)
    subst e
    refine no_pr (h := h) (g := acH (mm_pi (mm_pi h 50 1 0) 13 w (nI j1))) hw (ms_terms (d := 998) (h := acH (mm_pi (mm_pi h 50 1 0) 13 w (nI j1))) hw (fun z => absurd ⟨w, hw3, rfl, a1, a2⟩ z) (fun u b1 b2 b3 b4 => ?_))
    have : w = u := (nI_eq (by omega) (by omega)).mp b2
    subst this
    refine ⟨?_, Inv_terms FR hI v hc hm hl htr hw3 (by omega)⟩
    have e1 := hm.2.2.2.2 w hw3
    simp at e1
    simp [acH, mm_gi_pi, hc.2.2.2.2 w hw3, e1]
theorem op_7 (FR : LRf LR) : OP_7 (Inv LR) := by
  intro x1 h hI
  obtain ⟨hw, hms, ⟨n, n4, t1, t2, t3⟩, ⟨S, v, hc, hm, hl, htr⟩, _⟩ := id hI
  refine sp_end hw t1 n4 (fun c => ?_) (fun c => ?_)
  · exact no_pr (h := h) (g := h) hw (ms_end (h := h) hw t2 n4 (fun _ => ⟨rfl, Inv_th FR hI⟩) (fun z => absurd z c))
  · obtain ⟨j, hj, rfl⟩ := vp_in_of c (by omega)
    refine no_pr (h := h) (g := mm_pi h 54 1 (nI j)) hw (ms_end (h := mm_pi h 54 1 (nI j)) hw (by simpa [mm_gi_pi] using t2) n4 (fun z => absurd c z) (fun _ => ⟨rfl, ?_⟩))
    have e : ∀ c k, mm_gi (mm_pi (mm_pi (mm_pi h 54 1 (nI j)) 91 0 0) 91 13 (nI j)) c k = if c = 91 ∧ k = 13 then nI j else if c = 91 ∧ k = 0 then 0 else if c = 54 ∧ k = 1 then nI j else mm_gi h c k := fun c k => by simp only [mm_gi_pi]
    have h5 : same5 h (mm_pi (mm_pi (mm_pi h 54 1 (nI j)) 91 0 0) 91 13 (nI j)) := ⟨rfl, rfl, rfl, rfl, rfl⟩
    revert e h5
    generalize mm_pi (mm_pi (mm_pi h 54 1 (nI j)) 91 0 0) 91 13 (nI j) = g
    intro e h5
    have eo : ∀ c k, c ≠ 91 → c ≠ 54 → mm_gi g c k = mm_gi h c k := fun c k a1 a2 => by rw [e, if_neg (by omega), if_neg (by omega), if_neg (by omega)]
    have e91 : ∀ k, k ≠ 0 → k ≠ 13 → mm_gi g 91 k = mm_gi h 91 k := fun k a b => by rw [e, if_neg (by omega), if_neg (by omega), if_neg (by omega)]
    have e93 : mm_gi g 93 = mm_gi h 93 := funext fun k => eo 93 k (by decide) (by decide)
    refine Inv_h (S := S) (S' := S) FR hI h5 hl (I_misc_ac hms (by rw [eo 0 12 (by decide) (by decide), e91 1 (by decide) (by decide)]; exact hms.1.1) (fun j _ => eo 0 j (by decide) (by decide)) (fun j hj => e91 j (by omega) (by omega)) (eo 56 4 (by decide) (by decide)) (fun j => eo 90 j (by decide) (by decide)) (fun j => eo 92 j (by decide) (by decide))) ⟨j, by omega, by rw [e]; simp, by rw [e]; simp, fun i hi => ?_⟩ v (HC_cg (fun c j a b => eo c j (by omega) (by omega)) hc) (by rw [e93]; exact hm) rfl (I_trail_cg (S := S) (eo 50 1 (by decide) (by decide)) (e91 8 (by decide) (by decide)) (fun j => eo 51 j (by decide) (by decide)) (fun j => eo 96 j (by decide) (by decide)) (fun j => eo 97 j (by decide) (by decide)) ⟨rfl, rfl, rfl, rfl⟩ htr) (fun j hj => by rw [e93]) (fun c j hk => ?_)
    · rw [eo 55 i (by decide) (by decide), eo 100 i (by decide) (by decide)]
      exact t3 i (by omega)
    · unfold kpc at hk
      by_cases z : c = 91
      · subst z; exact e91 j (by omega) (by omega)
      · exact eo c j z (by omega)
end
