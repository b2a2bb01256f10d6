/-! undo -/
theorem cpy_at {f g : Nat → Int32} {s t n j : Nat} (h1 : t ≤ j) (h2 : j < t + n) : va_cpy f g s t n j = f (s + (j - t)) := by rw [va_cpy, if_pos ⟨h1, h2⟩]
theorem cpy_no {f g : Nat → Int32} {s t n j : Nat} (h : j < t ∨ t + n ≤ j) : va_cpy f g s t n j = g j := by rw [va_cpy, if_neg (by omega)]
section
variable {d : Nat} {h : mmH} {x : Int32} {K : Option Value → mmH → Prop}
theorem sp_undo {n : Nat} (H : WS h) (hn : mm_gi h 50 1 = nI n) (hn16 : n ≤ 16) (hk : ∀ m, n = m + 1 → 0 ≤ mm_gi h 51 (15 * m)) (k0 : n = 0 → K (some (.int (-3))) (rfH h (-3) 2)) (k1 : ∀ m, n = m + 1 → ∀ g, TB h 50 4 m g → K (some (.int (mm_gi h 51 (15 * m)))) (acH g)) : mm_MV q_X9_undo (d + 2) (0, 0) [.ref 0] h K := by
  refine e_X9_undo (t_X9_undo_0 _ _ _ ?_)
  simp only [s_iadd, s_isub, s_imul, s_iand, s_ior, s_ixor, s_ishl, s_ishr, s_iushr, s_idiv, s_irem, s_ladd, s_lsub, s_lmul, s_ldiv, s_lrem, s_ineg, s_i2l, s_l2i, s_i2c, s_lcmp, s_ic, s_lc, s_nul, s_str, s_il, s_ll, s_al, s_dup, s_dup2, s_pop, s_ifne, s_icne, s_ifeq, s_iflt, s_ifge, s_ifgt, s_ifle, s_iceq, s_iclt, s_icge, s_icgt, s_icle, s_ifnull, s_ifnonnull, s_is, s_ls, s_as, s_ii, s_gi, s_gl, s_gr, s_pi, s_pz, s_pl, s_pr, s_iald, s_zald, s_lald, s_aald, s_alen, s_iast, s_zast, s_last, s_iret, s_zret, s_lret, s_aret, s_vret, s_sw, s_aast, mm_sw, mm_ld, mm_s1, mm_s2, mm_kl, Value.category, va_rf, List.nil_append, List.cons_append, Option.toList, true_and, and_true, and_self, true_or, or_true, eq_self, not_true_eq_false, false_implies, true_implies, not_false_eq_true, mm_10, mm_01, false_or, or_false, Nat.left_eq_add, Nat.add_eq_left, Nat.add_left_cancel_iff, Nat.reduceEqDiff, false_and, and_false, reduceIte, mm_kd_pi, mm_ln_pi, mm_gl_pi, mm_gr_pi, mm_sz_pi, mm_gi_pi, mm_kd_pl, mm_ln_pl, mm_gi_pl, mm_gr_pl, mm_sz_pl, mm_gl_pl, mm_kd_pr, mm_ln_pr, mm_gi_pr, mm_gl_pr, mm_sz_pr, mm_gr_pr, mm_kd_pa, mm_ln_pa, mm_gl_pa, mm_gr_pa, mm_sz_pa, mm_gi_pa, W_kd_0 H, W_s_0 H, W_gr_0_0 H, W_gr_0_1 H, W_gr_0_2 H, W_gr_0_3 H, W_gr_0_4 H, W_gr_0_5 H, W_gr_0_6 H, W_gr_0_7 H, W_gr_0_8 H, W_gr_0_9 H, W_gr_0_10 H, W_gr_0_11 H]
  cases n with
  | zero =>
    refine c_X9_undo_8 (bb := (0, 0)) (b := (0, 0)) (Nat.le_of_ble_eq_true rfl) ⟨rfl, rfl⟩ (W_kd_50 H) (W_s_50 H) (sp_take0 (W_tr50 H) hn ?_)
    refine t_X9_undo_11 _ _ _ ?_
    simp only [s_iadd, s_isub, s_imul, s_iand, s_ior, s_ixor, s_ishl, s_ishr, s_iushr, s_idiv, s_irem, s_ladd, s_lsub, s_lmul, s_ldiv, s_lrem, s_ineg, s_i2l, s_l2i, s_i2c, s_lcmp, s_ic, s_lc, s_nul, s_str, s_il, s_ll, s_al, s_dup, s_dup2, s_pop, s_ifne, s_icne, s_ifeq, s_iflt, s_ifge, s_ifgt, s_ifle, s_iceq, s_iclt, s_icge, s_icgt, s_icle, s_ifnull, s_ifnonnull, s_is, s_ls, s_as, s_ii, s_gi, s_gl, s_gr, s_pi, s_pz, s_pl, s_pr, s_iald, s_zald, s_lald, s_aald, s_alen, s_iast, s_zast, s_last, s_iret, s_zret, s_lret, s_aret, s_vret, s_sw, s_aast, mm_sw, mm_ld, mm_s1, mm_s2, mm_kl, Value.category, va_rf, List.nil_append, List.cons_append, Option.toList, true_and, and_true, and_self, true_or, or_true, eq_self, not_true_eq_false, false_implies, true_implies, not_false_eq_true, mm_10, mm_01, false_or, or_false, Nat.left_eq_add, Nat.add_eq_left, Nat.add_left_cancel_iff, Nat.reduceEqDiff, false_and, and_false, reduceIte, mm_kd_pi, mm_ln_pi, mm_gl_pi, mm_gr_pi, mm_sz_pi, mm_gi_pi, mm_kd_pl, mm_ln_pl, mm_gi_pl, mm_gr_pl, mm_sz_pl, mm_gl_pl, mm_kd_pr, mm_ln_pr, mm_gi_pr, mm_gl_pr, mm_sz_pr, mm_gr_pr, mm_kd_pa, mm_ln_pa, mm_gl_pa, mm_gr_pa, mm_sz_pa, mm_gi_pa]
    refine c_X9_undo_20 (bb := (0, 0)) (b := (0, 0)) (Nat.le_of_ble_eq_true rfl) ⟨rfl, rfl⟩ (W_kd_0 H) (W_s_0 H) (sp_refuse (p := 2) H (by simp) ?_)
    refine t_X9_undo_23 _ _ _ ?_
    refine t_X9_undo_31 _ _ _ ?_
    simp only [s_iadd, s_isub, s_imul, s_iand, s_ior, s_ixor, s_ishl, s_ishr, s_iushr, s_idiv, s_irem, s_ladd, s_lsub, s_lmul, s_ldiv, s_lrem, s_ineg, s_i2l, s_l2i, s_i2c, s_lcmp, s_ic, s_lc, s_nul, s_str, s_il, s_ll, s_al, s_dup, s_dup2, s_pop, s_ifne, s_icne, s_ifeq, s_iflt, s_ifge, s_ifgt, s_ifle, s_iceq, s_iclt, s_icge, s_icgt, s_icle, s_ifnull, s_ifnonnull, s_is, s_ls, s_as, s_ii, s_gi, s_gl, s_gr, s_pi, s_pz, s_pl, s_pr, s_iald, s_zald, s_lald, s_aald, s_alen, s_iast, s_zast, s_last, s_iret, s_zret, s_lret, s_aret, s_vret, s_sw, s_aast, mm_sw, mm_ld, mm_s1, mm_s2, mm_kl, Value.category, va_rf, List.nil_append, List.cons_append, Option.toList, true_and, and_true, and_self, true_or, or_true, eq_self, not_true_eq_false, false_implies, true_implies, not_false_eq_true, mm_10, mm_01, false_or, or_false, Nat.left_eq_add, Nat.add_eq_left, Nat.add_left_cancel_iff, Nat.reduceEqDiff, false_and, and_false, reduceIte, mm_kd_pi, mm_ln_pi, mm_gl_pi, mm_gr_pi, mm_sz_pi, mm_gi_pi, mm_kd_pl, mm_ln_pl, mm_gi_pl, mm_gr_pl, mm_sz_pl, mm_gl_pl, mm_kd_pr, mm_ln_pr, mm_gi_pr, mm_gl_pr, mm_sz_pr, mm_gr_pr, mm_kd_pa, mm_ln_pa, mm_gl_pa, mm_gr_pa, mm_sz_pa, mm_gi_pa]
    exact k0 rfl
  | succ m =>
    refine c_X9_undo_8 (bb := (0, 0)) (b := (0, 0)) (Nat.le_of_ble_eq_true rfl) ⟨rfl, rfl⟩ (W_kd_50 H) (W_s_50 H) (sp_take1 (W_tr50 H) (W_h4 H) (by omega) hn (by omega) (fun g G => ?_))
    have H1 : WS g := WS_same G.1 H
    refine t_X9_undo_11 _ _ _ ?_
    have ne : ¬ mm_gi h 51 (15 * m) = -1 := fun z => by have := hk m rfl; rw [z] at this; exact absurd this (by decide)
    simp only [s_iadd, s_isub, s_imul, s_iand, s_ior, s_ixor, s_ishl, s_ishr, s_iushr, s_idiv, s_irem, s_ladd, s_lsub, s_lmul, s_ldiv, s_lrem, s_ineg, s_i2l, s_l2i, s_i2c, s_lcmp, s_ic, s_lc, s_nul, s_str, s_il, s_ll, s_al, s_dup, s_dup2, s_pop, s_ifne, s_icne, s_ifeq, s_iflt, s_ifge, s_ifgt, s_ifle, s_iceq, s_iclt, s_icge, s_icgt, s_icle, s_ifnull, s_ifnonnull, s_is, s_ls, s_as, s_ii, s_gi, s_gl, s_gr, s_pi, s_pz, s_pl, s_pr, s_iald, s_zald, s_lald, s_aald, s_alen, s_iast, s_zast, s_last, s_iret, s_zret, s_lret, s_aret, s_vret, s_sw, s_aast, mm_sw, mm_ld, mm_s1, mm_s2, mm_kl, Value.category, va_rf, List.nil_append, List.cons_append, Option.toList, true_and, and_true, and_self, true_or, or_true, eq_self, not_true_eq_false, false_implies, true_implies, not_false_eq_true, mm_10, mm_01, false_or, or_false, Nat.left_eq_add, Nat.add_eq_left, Nat.add_left_cancel_iff, Nat.reduceEqDiff, false_and, and_false, reduceIte, mm_kd_pi, mm_ln_pi, mm_gl_pi, mm_gr_pi, mm_sz_pi, mm_gi_pi, mm_kd_pl, mm_ln_pl, mm_gi_pl, mm_gr_pl, mm_sz_pl, mm_gl_pl, mm_kd_pr, mm_ln_pr, mm_gi_pr, mm_gl_pr, mm_sz_pr, mm_gr_pr, mm_kd_pa, mm_ln_pa, mm_gl_pa, mm_gr_pa, mm_sz_pa, mm_gi_pa, ne]
    refine c_X9_undo_28 (bb := (0, 0)) (b := (0, 0)) (Nat.le_of_ble_eq_true rfl) ⟨rfl, rfl⟩ (W_kd_0 H1) (W_s_0 H1) (sp_accept H1 ?_)
    refine t_X9_undo_31 _ _ _ ?_
    simp only [s_iadd, s_isub, s_imul, s_iand, s_ior, s_ixor, s_ishl, s_ishr, s_iushr, s_idiv, s_irem, s_ladd, s_lsub, s_lmul, s_ldiv, s_lrem, s_ineg, s_i2l, s_l2i, s_i2c, s_lcmp, s_ic, s_lc, s_nul, s_str, s_il, s_ll, s_al, s_dup, s_dup2, s_pop, s_ifne, s_icne, s_ifeq, s_iflt, s_ifge, s_ifgt, s_ifle, s_iceq, s_iclt, s_icge, s_icgt, s_icle, s_ifnull, s_ifnonnull, s_is, s_ls, s_as, s_ii, s_gi, s_gl, s_gr, s_pi, s_pz, s_pl, s_pr, s_iald, s_zald, s_lald, s_aald, s_alen, s_iast, s_zast, s_last, s_iret, s_zret, s_lret, s_aret, s_vret, s_sw, s_aast, mm_sw, mm_ld, mm_s1, mm_s2, mm_kl, Value.category, va_rf, List.nil_append, List.cons_append, Option.toList, true_and, and_true, and_self, true_or, or_true, eq_self, not_true_eq_false, false_implies, true_implies, not_false_eq_true, mm_10, mm_01, false_or, or_false, Nat.left_eq_add, Nat.add_eq_left, Nat.add_left_cancel_iff, Nat.reduceEqDiff, false_and, and_false, reduceIte, mm_kd_pi, mm_ln_pi, mm_gl_pi, mm_gr_pi, mm_sz_pi, mm_gi_pi, mm_kd_pl, mm_ln_pl, mm_gi_pl, mm_gr_pl, mm_sz_pl, mm_gl_pl, mm_kd_pr, mm_ln_pr, mm_gi_pr, mm_gl_pr, mm_sz_pr, mm_gr_pr, mm_kd_pa, mm_ln_pa, mm_gl_pa, mm_gr_pa, mm_sz_pa, mm_gi_pa]
    exact k1 m rfl g G
theorem ms_undo {n : Nat} (H : WS h) (hn : mm_gi h 91 8 = nI n) (hn16 : n ≤ 16) (hk : ∀ m, n = m + 1 → 0 ≤ mm_gi h 97 m) (k0 : n = 0 → K (some (.int (-3))) (tlH (mm_pi h 91 0 0) (-3) 3)) (k1 : ∀ m, n = m + 1 → K (some (.int (mm_gi h 97 m))) (mm_pi (mm_pa (mm_pi (mm_pi h 91 0 0) 91 8 (nI m)) 93 (va_cpy (mm_gi h 96) (mm_gi h 93) (23 * m) 5 23)) 91 1 0)) : mm_MV q_X10_undo (d + 1) (0, 0) [.ref 91] h K := by
  refine e_X10_undo (t_X10_undo_0 _ _ _ ?_)
  simp only [s_iadd, s_isub, s_imul, s_iand, s_ior, s_ixor, s_ishl, s_ishr, s_iushr, s_idiv, s_irem, s_ladd, s_lsub, s_lmul, s_ldiv, s_lrem, s_ineg, s_i2l, s_l2i, s_i2c, s_lcmp, s_ic, s_lc, s_nul, s_str, s_il, s_ll, s_al, s_dup, s_dup2, s_pop, s_ifne, s_icne, s_ifeq, s_iflt, s_ifge, s_ifgt, s_ifle, s_iceq, s_iclt, s_icge, s_icgt, s_icle, s_ifnull, s_ifnonnull, s_is, s_ls, s_as, s_ii, s_gi, s_gl, s_gr, s_pi, s_pz, s_pl, s_pr, s_iald, s_zald, s_lald, s_aald, s_alen, s_iast, s_zast, s_last, s_iret, s_zret, s_lret, s_aret, s_vret, s_sw, s_aast, mm_sw, mm_ld, mm_s1, mm_s2, mm_kl, Value.category, va_rf, List.nil_append, List.cons_append, Option.toList, true_and, and_true, and_self, true_or, or_true, eq_self, not_true_eq_false, false_implies, true_implies, not_false_eq_true, mm_10, mm_01, false_or, or_false, Nat.left_eq_add, Nat.add_eq_left, Nat.add_left_cancel_iff, Nat.reduceEqDiff, false_and, and_false, reduceIte, mm_kd_pi, mm_ln_pi, mm_gl_pi, mm_gr_pi, mm_sz_pi, mm_gi_pi, mm_kd_pl, mm_ln_pl, mm_gi_pl, mm_gr_pl, mm_sz_pl, mm_gl_pl, mm_kd_pr, mm_ln_pr, mm_gi_pr, mm_gl_pr, mm_sz_pr, mm_gr_pr, mm_kd_pa, mm_ln_pa, mm_gl_pa, mm_gr_pa, mm_sz_pa, mm_gi_pa, W_kd_91 H, W_s_91 H, W_gr_91_2 H, W_gr_91_3 H, W_gr_91_4 H, W_gr_91_5 H, W_gr_91_6 H, W_gr_91_7 H, W_gr_91_9 H, W_gr_91_10 H, W_gr_91_12 H, W_gr_91_22 H, W_gr_91_24 H, W_gr_91_25 H, W_gr_91_27 H, W_gr_91_28 H, W_gr_91_31 H, W_gr_91_32 H, W_gr_91_33 H, W_gr_91_35 H, W_gr_91_36 H, W_gr_91_37 H, W_gr_91_41 H, W_gr_91_42 H, W_gr_91_43 H, W_gr_91_44 H, W_gr_91_45 H, W_gr_91_46 H, W_gr_91_47 H, W_gr_91_48 H, W_gr_91_49 H, W_gr_91_55 H, hn, show (8 = 0) = False by decide]
  cases n with
  | zero =>
    refine ⟨fun c => absurd rfl c, fun _ => ?_⟩
    refine c_X10_undo_15 (bb := (0, 0)) (b := (0, 0)) (Nat.le_of_ble_eq_true rfl) ⟨rfl, rfl⟩ (W_kd_91 H) (W_s_91 H) (sp_tell_no (p := 3) (h := mm_pi h 91 0 0) H (by simp) ?_)
    refine t_X10_undo_18 _ _ _ ?_
    simp only [s_iadd, s_isub, s_imul, s_iand, s_ior, s_ixor, s_ishl, s_ishr, s_iushr, s_idiv, s_irem, s_ladd, s_lsub, s_lmul, s_ldiv, s_lrem, s_ineg, s_i2l, s_l2i, s_i2c, s_lcmp, s_ic, s_lc, s_nul, s_str, s_il, s_ll, s_al, s_dup, s_dup2, s_pop, s_ifne, s_icne, s_ifeq, s_iflt, s_ifge, s_ifgt, s_ifle, s_iceq, s_iclt, s_icge, s_icgt, s_icle, s_ifnull, s_ifnonnull, s_is, s_ls, s_as, s_ii, s_gi, s_gl, s_gr, s_pi, s_pz, s_pl, s_pr, s_iald, s_zald, s_lald, s_aald, s_alen, s_iast, s_zast, s_last, s_iret, s_zret, s_lret, s_aret, s_vret, s_sw, s_aast, mm_sw, mm_ld, mm_s1, mm_s2, mm_kl, Value.category, va_rf, List.nil_append, List.cons_append, Option.toList, true_and, and_true, and_self, true_or, or_true, eq_self, not_true_eq_false, false_implies, true_implies, not_false_eq_true, mm_10, mm_01, false_or, or_false, Nat.left_eq_add, Nat.add_eq_left, Nat.add_left_cancel_iff, Nat.reduceEqDiff, false_and, and_false, reduceIte, mm_kd_pi, mm_ln_pi, mm_gl_pi, mm_gr_pi, mm_sz_pi, mm_gi_pi, mm_kd_pl, mm_ln_pl, mm_gi_pl, mm_gr_pl, mm_sz_pl, mm_gl_pl, mm_kd_pr, mm_ln_pr, mm_gi_pr, mm_gl_pr, mm_sz_pr, mm_gr_pr, mm_kd_pa, mm_ln_pa, mm_gl_pa, mm_gr_pa, mm_sz_pa, mm_gi_pa]
    exact k0 rfl
  | succ m =>
    refine ⟨fun _ => ?_, fun c => absurd c (nI_ne0 (by omega) (by omega))⟩
    have s1 : nI (m + 1) - 1 = nI m := nI_pred m
    rw [s1]
    refine c_X10_undo_34 (bb := (0, 0)) (b := (0, 0)) (Nat.le_of_ble_eq_true rfl) ⟨rfl, rfl⟩ (W_kd_91 H) (W_s_91 H) (sp_putBack (h := mm_pi (mm_pi h 91 0 0) 91 8 (nI m)) H (by omega) ?_)
    refine t_X10_undo_37 _ _ _ ?_
    have vw : vp_in (nI m) 16 := vp_in_nI (by omega) (by decide)
    simp only [s_iadd, s_isub, s_imul, s_iand, s_ior, s_ixor, s_ishl, s_ishr, s_iushr, s_idiv, s_irem, s_ladd, s_lsub, s_lmul, s_ldiv, s_lrem, s_ineg, s_i2l, s_l2i, s_i2c, s_lcmp, s_ic, s_lc, s_nul, s_str, s_il, s_ll, s_al, s_dup, s_dup2, s_pop, s_ifne, s_icne, s_ifeq, s_iflt, s_ifge, s_ifgt, s_ifle, s_iceq, s_iclt, s_icge, s_icgt, s_icle, s_ifnull, s_ifnonnull, s_is, s_ls, s_as, s_ii, s_gi, s_gl, s_gr, s_pi, s_pz, s_pl, s_pr, s_iald, s_zald, s_lald, s_aald, s_alen, s_iast, s_zast, s_last, s_iret, s_zret, s_lret, s_aret, s_vret, s_sw, s_aast, mm_sw, mm_ld, mm_s1, mm_s2, mm_kl, Value.category, va_rf, List.nil_append, List.cons_append, Option.toList, true_and, and_true, and_self, true_or, or_true, eq_self, not_true_eq_false, false_implies, true_implies, not_false_eq_true, mm_10, mm_01, false_or, or_false, Nat.left_eq_add, Nat.add_eq_left, Nat.add_left_cancel_iff, Nat.reduceEqDiff, false_and, and_false, reduceIte, mm_kd_pi, mm_ln_pi, mm_gl_pi, mm_gr_pi, mm_sz_pi, mm_gi_pi, mm_kd_pl, mm_ln_pl, mm_gi_pl, mm_gr_pl, mm_sz_pl, mm_gl_pl, mm_kd_pr, mm_ln_pr, mm_gi_pr, mm_gl_pr, mm_sz_pr, mm_gr_pr, mm_kd_pa, mm_ln_pa, mm_gl_pa, mm_gr_pa, mm_sz_pa, mm_gi_pa, W_kd_91 H, W_s_91 H, W_gr_91_2 H, W_gr_91_3 H, W_gr_91_4 H, W_gr_91_5 H, W_gr_91_6 H, W_gr_91_7 H, W_gr_91_9 H, W_gr_91_10 H, W_gr_91_12 H, W_gr_91_22 H, W_gr_91_24 H, W_gr_91_25 H, W_gr_91_27 H, W_gr_91_28 H, W_gr_91_31 H, W_gr_91_32 H, W_gr_91_33 H, W_gr_91_35 H, W_gr_91_36 H, W_gr_91_37 H, W_gr_91_41 H, W_gr_91_42 H, W_gr_91_43 H, W_gr_91_44 H, W_gr_91_45 H, W_gr_91_46 H, W_gr_91_47 H, W_gr_91_48 H, W_gr_91_49 H, W_gr_91_55 H, W_kd_97 H, W_s_97 H, W_ln_97 H, show (91 = 93) = False by decide, show (97 = 93) = False by decide, show (97 = 91) = False by decide, vw, nI_clamp (show m < 2 ^ 31 by omega)]
    refine c_X10_undo_47 (bb := (0, 0)) (b := (0, 0)) (Nat.le_of_ble_eq_true rfl) ⟨rfl, rfl⟩ (W_kd_91 H) (W_s_91 H) (sp_tell_ok (h := mm_pa (mm_pi (mm_pi h 91 0 0) 91 8 (nI m)) 93 (va_cpy (mm_gi (mm_pi (mm_pi h 91 0 0) 91 8 (nI m)) 96) (mm_gi (mm_pi (mm_pi h 91 0 0) 91 8 (nI m)) 93) (23 * m) 5 23)) H (hk m rfl) ?_)
    refine t_X10_undo_50 _ _ _ ?_
    simp only [s_iadd, s_isub, s_imul, s_iand, s_ior, s_ixor, s_ishl, s_ishr, s_iushr, s_idiv, s_irem, s_ladd, s_lsub, s_lmul, s_ldiv, s_lrem, s_ineg, s_i2l, s_l2i, s_i2c, s_lcmp, s_ic, s_lc, s_nul, s_str, s_il, s_ll, s_al, s_dup, s_dup2, s_pop, s_ifne, s_icne, s_ifeq, s_iflt, s_ifge, s_ifgt, s_ifle, s_iceq, s_iclt, s_icge, s_icgt, s_icle, s_ifnull, s_ifnonnull, s_is, s_ls, s_as, s_ii, s_gi, s_gl, s_gr, s_pi, s_pz, s_pl, s_pr, s_iald, s_zald, s_lald, s_aald, s_alen, s_iast, s_zast, s_last, s_iret, s_zret, s_lret, s_aret, s_vret, s_sw, s_aast, mm_sw, mm_ld, mm_s1, mm_s2, mm_kl, Value.category, va_rf, List.nil_append, List.cons_append, Option.toList, true_and, and_true, and_self, true_or, or_true, eq_self, not_true_eq_false, false_implies, true_implies, not_false_eq_true, mm_10, mm_01, false_or, or_false, Nat.left_eq_add, Nat.add_eq_left, Nat.add_left_cancel_iff, Nat.reduceEqDiff, false_and, and_false, reduceIte, mm_kd_pi, mm_ln_pi, mm_gl_pi, mm_gr_pi, mm_sz_pi, mm_gi_pi, mm_kd_pl, mm_ln_pl, mm_gi_pl, mm_gr_pl, mm_sz_pl, mm_gl_pl, mm_kd_pr, mm_ln_pr, mm_gi_pr, mm_gl_pr, mm_sz_pr, mm_gr_pr, mm_kd_pa, mm_ln_pa, mm_gl_pa, mm_gr_pa, mm_sz_pa, mm_gi_pa]
    exact k1 m rfl
end
section
variable {LR : mmH → Nat → (Nat → Int32) → Nat → Prop}
theorem Inv_undo (FR : LRf LR) {h g k : mmH} {S : HSt} {m : Nat} (hI : Inv LR h) (v : HV S) (hc : HC h 4 S) (hm : HM (mm_gi h 93) 0 S) (hl : HLw LR h 4 (mm_gi h 93) 0 (S 0 3)) (hm15 : m ≤ 15) (te : ∀ i, i < m + 1 → TE h S i) (G : TB h 50 4 m g) (ek : ∀ c j, mm_gi k c j = if c = 91 ∧ j = 1 then 0 else if c = 93 then va_cpy (mm_gi h 96) (mm_gi h 93) (23 * m) 5 23 j else if c = 91 ∧ j = 8 then nI m else if c = 91 ∧ j = 0 then 0 else if c = 0 ∧ j = 12 then 0 else mm_gi g c j) (k5 : same5 g k) : Inv LR k := by
  obtain ⟨⟨s1, s2, s3, s4, s5⟩, gf, g50, g4, g45, g130, g13, g8, g10⟩ := G
  have h5 : same5 h k := ⟨k5.1.trans s1, k5.2.1.trans s2, k5.2.2.1.trans s3, k5.2.2.2.1.trans s4, k5.2.2.2.2.trans s5⟩
  have ekg : ∀ c j, c ≠ 91 → c ≠ 93 → c ≠ 0 → mm_gi k c j = mm_gi g c j := fun c j a1 a2 a3 => by rw [ek, if_neg (fun z => a1 z.1), if_neg a2, if_neg (fun z => a1 z.1), if_neg (fun z => a1 z.1), if_neg (fun z => a3 z.1)]
  have eo : ∀ c j, c ≠ 91 → c ≠ 93 → c ≠ 0 → c ≠ 50 → c ≠ 4 → c ≠ 8 → c ≠ 10 → c ≠ 13 → mm_gi k c j = mm_gi h c j := fun c j a1 a2 a3 a4 a5 a6 a7 a8 => by rw [ekg c j a1 a2 a3, gf c a4 a5 a6 a7 a8]
  have e91 : ∀ j, j ≠ 0 → j ≠ 1 → j ≠ 8 → mm_gi k 91 j = mm_gi h 91 j := fun j a1 a2 a3 => by rw [ek, if_neg (fun z => a2 z.2), if_neg (by decide), if_neg (fun z => a3 z.2), if_neg (fun z => a1 z.2), if_neg (by omega), gf 91 (by decide) (by decide) (by decide) (by decide) (by decide)]
  have e0 : ∀ j, j ≠ 12 → mm_gi k 0 j = mm_gi h 0 j := fun j a => by rw [ek, if_neg (by omega), if_neg (by decide), if_neg (by omega), if_neg (by omega), if_neg (fun z => a z.2), gf 0 (by decide) (by decide) (by decide) (by decide) (by decide)]
  have e93 : ∀ j, mm_gi k 93 j = va_cpy (mm_gi h 96) (mm_gi h 93) (23 * m) 5 23 j := fun j => by rw [ek, if_neg (by omega), if_pos rfl]
  obtain ⟨hw, hms, htp, -⟩ := id hI
  obtain ⟨⟨v1, v2, v3, v4, v5, v6⟩, w1, w2, w3, w4⟩ := v
  obtain ⟨⟨c1, c2, c3, c4, c5, c6⟩, d1, d2, d3, d4⟩ := hc
  obtain ⟨⟨m1, m2, m3, m4, m5⟩, n1, n2, n3, n4⟩ := hm
  obtain ⟨j, A, D, kn, gw, q1, q2, q3, q4, ⟨q5, q6, q7, q8⟩, q9, q10, q11, q12, q13, q14⟩ := te m (by omega)
  refine Inv_h (S := S) (S' := fun a b => if a = 0 ∧ b = 4 then A else if a = 9 ∧ b = 0 then D else if a = 1 then kn b else if a = 2 then gw b else S a b) FR hI h5 hl
    (I_misc_ac hms (by rw [ek, ek]; simp) (fun j hj => e0 j (by omega)) (fun j hj => e91 j (by omega) (by omega) (by omega)) (eo 56 4 (by decide) (by decide) (by decide) (by decide) (by decide) (by decide) (by decide) (by decide)) (fun j => eo 90 j (by decide) (by decide) (by decide) (by decide) (by decide) (by decide) (by decide) (by decide)) (fun j => eo 92 j (by decide) (by decide) (by decide) (by decide) (by decide) (by decide) (by decide) (by decide)))
    (I_tape_cg (eo 54 1 (by decide) (by decide) (by decide) (by decide) (by decide) (by decide) (by decide) (by decide)) (e91 13 (by decide) (by decide) (by decide)) (fun j => eo 55 j (by decide) (by decide) (by decide) (by decide) (by decide) (by decide) (by decide) (by decide)) (fun j => eo 100 j (by decide) (by decide) (by decide) (by decide) (by decide) (by decide) (by decide) (by decide)) htp) ?_ ?_ ?_ rfl
    ⟨m, by omega, by rw [ekg 50 1 (by decide) (by decide) (by decide)]; exact g50, by rw [ek]; simp, fun i hi => TE_cg (S := S) (fun j => eo 51 j (by decide) (by decide) (by decide) (by decide) (by decide) (by decide) (by decide) (by decide)) (fun j => eo 96 j (by decide) (by decide) (by decide) (by decide) (by decide) (by decide) (by decide) (by decide)) (fun j => eo 97 j (by decide) (by decide) (by decide) (by decide) (by decide) (by decide) (by decide) (by decide)) ⟨rfl, rfl, rfl, rfl⟩ (te i (by omega))⟩ (fun j hj => by rw [e93, cpy_no (by omega)]) (fun c j hk => ?_)
  · refine ⟨⟨v1, v2, v3, v4, q2, v6⟩, fun c hc => ?_, w2, w3, fun i hi => ?_⟩
    · exact ⟨(q4 c hc).1, (q4 c hc).2, (w1 c hc).2.2⟩
    · by_cases z : i = 0
      · subst z; exact q3
      · simp [z]; exact w4 i hi
  · refine ⟨⟨?_, ?_, ?_, ?_, ?_, ?_⟩, fun c hc => ?_, fun l hl => ?_, fun t ht => ?_, fun i hi => ?_⟩
    · rw [ekg 4 1 (by decide) (by decide) (by decide), g4 1 (by decide)]; exact c1
    · rw [ekg 4 6 (by decide) (by decide) (by decide), g4 6 (by decide)]; exact c2
    · rw [ekg 4 10 (by decide) (by decide) (by decide), g4 10 (by decide)]; exact c3
    · rw [ekg 4 14 (by decide) (by decide) (by decide), g4 14 (by decide)]; exact c4
    · rw [ekg 4 5 (by decide) (by decide) (by decide), g45]; exact q6
    · rw [ekg 4 16 (by decide) (by decide) (by decide), g4 16 (by decide)]; exact c6
    · have hb : c < S 0 1 := hc
      rw [ekg (4 + 4) c (by decide) (by decide) (by decide), ekg (4 + 6) c (by decide) (by decide) (by decide), eo (4 + 5) c (by decide) (by decide) (by decide) (by decide) (by decide) (by decide) (by decide) (by decide), g8 c (by omega), g10 c (by omega)]
      exact ⟨(q8 c hb).1, (q8 c hb).2, (d1 c hb).2.2⟩
    · rw [eo (4 + 1) l (by decide) (by decide) (by decide) (by decide) (by decide) (by decide) (by decide) (by decide), eo (4 + 2) l (by decide) (by decide) (by decide) (by decide) (by decide) (by decide) (by decide) (by decide), eo (4 + 3) l (by decide) (by decide) (by decide) (by decide) (by decide) (by decide) (by decide) (by decide)]
      exact d2 l hl
    · rw [eo (4 + 7) t (by decide) (by decide) (by decide) (by decide) (by decide) (by decide) (by decide) (by decide), eo (4 + 8) t (by decide) (by decide) (by decide) (by decide) (by decide) (by decide) (by decide) (by decide)]
      exact d3 t ht
    · rw [ekg (4 + 9) i (by decide) (by decide) (by decide)]
      by_cases z : i = 0
      · subst z; rw [g130]; exact q7
      · rw [g13 i z]; simp [z]; exact d4 i hi
  · refine ⟨⟨?_, ?_, ?_, ?_, ?_⟩, fun c hc => ?_, fun l hl => ?_, fun t ht => ?_, fun i hi => ?_⟩
    · rw [e93, cpy_no (by omega)]; exact m1
    · rw [e93, cpy_no (by omega)]; exact m2
    · rw [e93, cpy_no (by omega)]; exact m3
    · rw [e93, cpy_no (by omega)]; exact m4
    · rw [e93, cpy_no (by omega)]; exact m5
    · have hb : c < S 0 1 := hc
      rw [e93, e93, e93, cpy_at (by omega) (by omega), cpy_at (by omega) (by omega), cpy_no (by omega), show 23 * m + (0 + 8 + c - 5) = 23 * m + 3 + c by omega, show 23 * m + (0 + 14 + c - 5) = 23 * m + 9 + c by omega]
      exact ⟨(q13 c hb).1, (q13 c hb).2, (n1 c hb).2.2⟩
    · have hb : l < S 0 0 := hl
      rw [e93, e93, e93, e93, cpy_no (by omega), cpy_no (by omega), cpy_no (by omega), cpy_at (by omega) (by omega), show 23 * m + (0 + 20 + l - 5) = 23 * m + 15 + l by omega]
      exact ⟨(n2 l hb).1, (n2 l hb).2.1, (n2 l hb).2.2.1, q14 l hb⟩
    · have hb : t < S 0 2 := ht
      rw [e93, e93, cpy_no (by omega), cpy_no (by omega)]
      exact n3 t hb
    · rw [e93, cpy_at (by omega) (by omega)]
      rcases (show i = 0 ∨ i = 1 ∨ i = 2 by omega) with rfl | rfl | rfl
      · exact q10
      · exact q11
      · exact q12
  · unfold kpc at hk
    by_cases z : c = 91
    · subst z; exact e91 j (by omega) (by omega) (by omega)
    · exact eo c j z (by omega) (by omega) (by omega) (by omega) (by omega) (by omega) (by omega)
theorem op_19 (FR : LRf LR) : OP_19 (Inv LR) := by
  intro h hI
  obtain ⟨hw, hms, htp, ⟨S, v, hc, hm, hl, ⟨n, n16, t1, t2, te⟩⟩, _⟩ := id hI
  have pos : ∀ m, n = m + 1 → ∃ j, j < 4 ∧ mm_gi h 51 (15 * m) = nI j ∧ mm_gi h 97 m = nI j := fun m e => by
    obtain ⟨j, _, _, _, _, q1, _, _, _, ⟨q5, _⟩, q9, _⟩ := te m (by omega)
    exact ⟨j, q1, q5, q9⟩
  refine sp_undo (d := 998) hw t1 n16 (fun m e => ?_) (fun e => ?_) (fun m e g G => ?_)
  · obtain ⟨j, q1, q2, q3⟩ := pos m e
    rw [q2]; exact nI_pos' (by omega)
  · subst e
    refine no_pr (h := h) (g := rfH h (-3) 2) hw (ms_undo (d := 999) (n := 0) (h := rfH h (-3) 2) hw (by simpa [rfH, mm_gi_pi] using t2) n16 (fun m e => by omega) (fun _ => ⟨rfl, Inv_rf FR (by simp) hI⟩) (fun m e => by omega))
  · subst e
    obtain ⟨j, q1, q2, q3⟩ := pos m rfl
    have gw : WS (acH g) := WS_same (h := h) ⟨G.1.1, G.1.2.1, G.1.2.2.1, G.1.2.2.2.1, G.1.2.2.2.2⟩ hw
    have ge : ∀ c, c ≠ 50 → c ≠ 4 → c ≠ 8 → c ≠ 10 → c ≠ 13 → c ≠ 0 → mm_gi (acH g) c = mm_gi h c := fun c a1 a2 a3 a4 a5 a6 => by
      rw [← G.2.1 c a1 a2 a3 a4 a5]
      funext j
      rw [acH, mm_gi_pi, if_neg (fun z => a6 z.1)]
    have g97 := ge 97 (by decide) (by decide) (by decide) (by decide) (by decide) (by decide)
    refine no_pr (h := h) (g := acH g) gw (ms_undo (d := 999) (n := m + 1) (h := acH g) gw (by rw [ge 91 (by decide) (by decide) (by decide) (by decide) (by decide) (by decide)]; exact t2) n16 (fun m' e => ?_) (fun e => by omega) (fun m' e => ?_))
    · obtain rfl : m = m' := by omega
      rw [g97, q3]; exact nI_pos' (by omega)
    · obtain rfl : m = m' := by omega
      refine ⟨by rw [g97, q3, q2], ?_⟩
      refine Inv_undo (g := g) (m := m) FR hI v hc hm hl (by omega) te G (fun c j => ?_) ⟨rfl, rfl, rfl, rfl, rfl⟩
      rw [ge 96 (by decide) (by decide) (by decide) (by decide) (by decide) (by decide), ge 93 (by decide) (by decide) (by decide) (by decide) (by decide) (by decide), mm_gi_pi, mm_gi_pa, mm_gi_pi, mm_gi_pi, acH, mm_gi_pi]
end
