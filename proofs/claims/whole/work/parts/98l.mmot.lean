/-! the model's reader goes as the grammar: what is carried along -/
def EX (d : Nat) (te : Bool) (K : Option Value → mmH → Prop) (x : Nat) (h : mmH) : Prop := mm_V q_X10_readExpression (d + 7) (0, 0) K 20 [some (.ref 91), some (.int (bI te)), some (.int (nI x))] [] h
def EQ (d : Nat) (te : Bool) (K : Option Value → mmH → Prop) : Option Value → mmH → Prop := fun v g => ∃ x : Nat, v = some (.int (nI x)) ∧ EX d te K x g
def ETp (n : Nat) (t : Nat → Nat) (tu p : Nat) : Prop := tu = 1 ∨ (tu = 0 ∧ wq n t 2 p = none ∧ ¬ isS n t 40 p)
def JSx (o : Bool) (J0 : jM) (y0 : Nat) (E : List (Nat × Nat)) (J : jM) (y w : Nat) (D : xD) : Prop := (∀ i, i < y0 → (sE E J y).1 i = J0 i) ∧ WJ o (sE E J y).2 (sE E J y).1 ∧ xP (nwO o) (fun i => dec o ((sE E J y).1 i)) y0 (sE E J y).2 w D
section
variable {d : Nat} {h g : mmH} {K : Option Value → mmH → Prop} {o te : Bool} {n : Nat} {t : Nat → Nat} {p c y : Nat} {pl E base : List (Nat × Nat)} {J : jM}
theorem ex_0 (H : WS h) (hb : mm_gi h 91 19 = 0) (k : mm_MV q_X10_readPlain (d + 6) (0, 0) [.ref 91] h (EQ d te K)) : EX d te K 0 h := by
  refine t_X10_readExpression_20 _ _ _ ?_
  simp only [s_iadd, s_isub, s_imul, s_iand, s_ior, s_ixor, s_ishl, s_ishr, s_iushr, s_idiv, s_irem, s_ladd, s_lsub, s_lmul, s_ldiv, s_lrem, s_ineg, s_i2l, s_l2i, s_i2c, s_lcmp, s_ic, s_lc, s_nul, s_str, s_il, s_ll, s_al, s_dup, s_dup2, s_pop, s_ifne, s_icne, s_ifeq, s_iflt, s_ifge, s_ifgt, s_ifle, s_iceq, s_iclt, s_icge, s_icgt, s_icle, s_ifnull, s_ifnonnull, s_is, s_ls, s_as, s_ii, s_gi, s_gl, s_gr, s_pi, s_pz, s_pl, s_pr, s_iald, s_zald, s_lald, s_aald, s_alen, s_iast, s_zast, s_last, s_iret, s_zret, s_lret, s_aret, s_vret, s_sw, s_aast, mm_sw, mm_ld, mm_s1, mm_s2, mm_kl, Value.category, va_rf, List.nil_append, List.cons_append, Option.toList, true_and, and_true, and_self, true_or, or_true, eq_self, not_true_eq_false, false_implies, true_implies, not_false_eq_true, mm_10, mm_01, false_or, or_false, Nat.left_eq_add, Nat.add_eq_left, Nat.add_left_cancel_iff, Nat.reduceEqDiff, false_and, and_false, reduceIte, mm_kd_pi, mm_ln_pi, mm_gl_pi, mm_gr_pi, mm_sz_pi, mm_gi_pi, mm_kd_pl, mm_ln_pl, mm_gi_pl, mm_gr_pl, mm_sz_pl, mm_gl_pl, mm_kd_pr, mm_ln_pr, mm_gi_pr, mm_gl_pr, mm_sz_pr, mm_gr_pr, mm_kd_pa, mm_ln_pa, mm_gl_pa, mm_gr_pa, mm_sz_pa, mm_gi_pa, W_kd_91 H, W_s_91 H, W_gr_91_2 H, W_gr_91_3 H, W_gr_91_4 H, W_gr_91_5 H, W_gr_91_6 H, W_gr_91_7 H, W_gr_91_9 H, W_gr_91_10 H, W_gr_91_12 H, W_gr_91_22 H, W_gr_91_24 H, W_gr_91_25 H, W_gr_91_27 H, W_gr_91_28 H, W_gr_91_31 H, W_gr_91_32 H, W_gr_91_33 H, W_gr_91_35 H, W_gr_91_36 H, W_gr_91_37 H, W_gr_91_41 H, W_gr_91_42 H, W_gr_91_43 H, W_gr_91_44 H, W_gr_91_45 H, W_gr_91_46 H, W_gr_91_47 H, W_gr_91_48 H, W_gr_91_49 H, W_gr_91_55 H, hb, show nI 0 = 0 from rfl, show ((0 : Int32) = 4) = False by decide]
  refine c_X10_readExpression_37 (bb := (0, 0)) (b := (0, 0)) (Nat.le_of_ble_eq_true rfl) ⟨rfl, rfl⟩ (W_kd_91 H) (W_s_91 H) (mm_MV.mono (fun v g q => ?_) k)
  obtain ⟨x, rfl, q⟩ := q
  refine t_X10_readExpression_40 _ _ _ ?_
  refine t_X10_readExpression_72 _ _ _ ?_
  simp only [s_iadd, s_isub, s_imul, s_iand, s_ior, s_ixor, s_ishl, s_ishr, s_iushr, s_idiv, s_irem, s_ladd, s_lsub, s_lmul, s_ldiv, s_lrem, s_ineg, s_i2l, s_l2i, s_i2c, s_lcmp, s_ic, s_lc, s_nul, s_str, s_il, s_ll, s_al, s_dup, s_dup2, s_pop, s_ifne, s_icne, s_ifeq, s_iflt, s_ifge, s_ifgt, s_ifle, s_iceq, s_iclt, s_icge, s_icgt, s_icle, s_ifnull, s_ifnonnull, s_is, s_ls, s_as, s_ii, s_gi, s_gl, s_gr, s_pi, s_pz, s_pl, s_pr, s_iald, s_zald, s_lald, s_aald, s_alen, s_iast, s_zast, s_last, s_iret, s_zret, s_lret, s_aret, s_vret, s_sw, s_aast, mm_sw, mm_ld, mm_s1, mm_s2, mm_kl, Value.category, va_rf, List.nil_append, List.cons_append, Option.toList, true_and, and_true, and_self, true_or, or_true, eq_self, not_true_eq_false, false_implies, true_implies, not_false_eq_true, mm_10, mm_01, false_or, or_false, Nat.left_eq_add, Nat.add_eq_left, Nat.add_left_cancel_iff, Nat.reduceEqDiff, false_and, and_false, reduceIte, mm_kd_pi, mm_ln_pi, mm_gl_pi, mm_gr_pi, mm_sz_pi, mm_gi_pi, mm_kd_pl, mm_ln_pl, mm_gi_pl, mm_gr_pl, mm_sz_pl, mm_gl_pl, mm_kd_pr, mm_ln_pr, mm_gi_pr, mm_gl_pr, mm_sz_pr, mm_gr_pr, mm_kd_pa, mm_ln_pa, mm_gl_pa, mm_gr_pa, mm_sz_pa, mm_gi_pa]
  exact q
theorem ex_1 (H : WS h) (hb : mm_gi h 91 19 = 0) (k : mm_MV q_X10_readPart (d + 6) (0, 0) [.ref 91] h (EQ d te K)) : EX d te K 1 h := by
  refine t_X10_readExpression_20 _ _ _ ?_
  simp only [s_iadd, s_isub, s_imul, s_iand, s_ior, s_ixor, s_ishl, s_ishr, s_iushr, s_idiv, s_irem, s_ladd, s_lsub, s_lmul, s_ldiv, s_lrem, s_ineg, s_i2l, s_l2i, s_i2c, s_lcmp, s_ic, s_lc, s_nul, s_str, s_il, s_ll, s_al, s_dup, s_dup2, s_pop, s_ifne, s_icne, s_ifeq, s_iflt, s_ifge, s_ifgt, s_ifle, s_iceq, s_iclt, s_icge, s_icgt, s_icle, s_ifnull, s_ifnonnull, s_is, s_ls, s_as, s_ii, s_gi, s_gl, s_gr, s_pi, s_pz, s_pl, s_pr, s_iald, s_zald, s_lald, s_aald, s_alen, s_iast, s_zast, s_last, s_iret, s_zret, s_lret, s_aret, s_vret, s_sw, s_aast, mm_sw, mm_ld, mm_s1, mm_s2, mm_kl, Value.category, va_rf, List.nil_append, List.cons_append, Option.toList, true_and, and_true, and_self, true_or, or_true, eq_self, not_true_eq_false, false_implies, true_implies, not_false_eq_true, mm_10, mm_01, false_or, or_false, Nat.left_eq_add, Nat.add_eq_left, Nat.add_left_cancel_iff, Nat.reduceEqDiff, false_and, and_false, reduceIte, mm_kd_pi, mm_ln_pi, mm_gl_pi, mm_gr_pi, mm_sz_pi, mm_gi_pi, mm_kd_pl, mm_ln_pl, mm_gi_pl, mm_gr_pl, mm_sz_pl, mm_gl_pl, mm_kd_pr, mm_ln_pr, mm_gi_pr, mm_gl_pr, mm_sz_pr, mm_gr_pr, mm_kd_pa, mm_ln_pa, mm_gl_pa, mm_gr_pa, mm_sz_pa, mm_gi_pa, W_kd_91 H, W_s_91 H, W_gr_91_2 H, W_gr_91_3 H, W_gr_91_4 H, W_gr_91_5 H, W_gr_91_6 H, W_gr_91_7 H, W_gr_91_9 H, W_gr_91_10 H, W_gr_91_12 H, W_gr_91_22 H, W_gr_91_24 H, W_gr_91_25 H, W_gr_91_27 H, W_gr_91_28 H, W_gr_91_31 H, W_gr_91_32 H, W_gr_91_33 H, W_gr_91_35 H, W_gr_91_36 H, W_gr_91_37 H, W_gr_91_41 H, W_gr_91_42 H, W_gr_91_43 H, W_gr_91_44 H, W_gr_91_45 H, W_gr_91_46 H, W_gr_91_47 H, W_gr_91_48 H, W_gr_91_49 H, W_gr_91_55 H, hb, show nI 1 = 1 from rfl, show ((1 : Int32) = 4) = False by decide, show ((1 : Int32) = 0) = False by decide]
  refine c_X10_readExpression_49 (bb := (0, 0)) (b := (0, 0)) (Nat.le_of_ble_eq_true rfl) ⟨rfl, rfl⟩ (W_kd_91 H) (W_s_91 H) (mm_MV.mono (fun v g q => ?_) k)
  obtain ⟨x, rfl, q⟩ := q
  refine t_X10_readExpression_52 _ _ _ ?_
  refine t_X10_readExpression_72 _ _ _ ?_
  simp only [s_iadd, s_isub, s_imul, s_iand, s_ior, s_ixor, s_ishl, s_ishr, s_iushr, s_idiv, s_irem, s_ladd, s_lsub, s_lmul, s_ldiv, s_lrem, s_ineg, s_i2l, s_l2i, s_i2c, s_lcmp, s_ic, s_lc, s_nul, s_str, s_il, s_ll, s_al, s_dup, s_dup2, s_pop, s_ifne, s_icne, s_ifeq, s_iflt, s_ifge, s_ifgt, s_ifle, s_iceq, s_iclt, s_icge, s_icgt, s_icle, s_ifnull, s_ifnonnull, s_is, s_ls, s_as, s_ii, s_gi, s_gl, s_gr, s_pi, s_pz, s_pl, s_pr, s_iald, s_zald, s_lald, s_aald, s_alen, s_iast, s_zast, s_last, s_iret, s_zret, s_lret, s_aret, s_vret, s_sw, s_aast, mm_sw, mm_ld, mm_s1, mm_s2, mm_kl, Value.category, va_rf, List.nil_append, List.cons_append, Option.toList, true_and, and_true, and_self, true_or, or_true, eq_self, not_true_eq_false, false_implies, true_implies, not_false_eq_true, mm_10, mm_01, false_or, or_false, Nat.left_eq_add, Nat.add_eq_left, Nat.add_left_cancel_iff, Nat.reduceEqDiff, false_and, and_false, reduceIte, mm_kd_pi, mm_ln_pi, mm_gl_pi, mm_gr_pi, mm_sz_pi, mm_gi_pi, mm_kd_pl, mm_ln_pl, mm_gi_pl, mm_gr_pl, mm_sz_pl, mm_gl_pl, mm_kd_pr, mm_ln_pr, mm_gi_pr, mm_gl_pr, mm_sz_pr, mm_gr_pr, mm_kd_pa, mm_ln_pa, mm_gl_pa, mm_gr_pa, mm_sz_pa, mm_gi_pa]
  exact q
theorem ex_3 (H : WS h) (hb : mm_gi h 91 19 = 0) (k : mm_MV q_X10_behindSum (d + 6) (0, 0) [.ref 91, .int (bI te)] h (EQ d te K)) : EX d te K 3 h := by
  refine t_X10_readExpression_20 _ _ _ ?_
  simp only [s_iadd, s_isub, s_imul, s_iand, s_ior, s_ixor, s_ishl, s_ishr, s_iushr, s_idiv, s_irem, s_ladd, s_lsub, s_lmul, s_ldiv, s_lrem, s_ineg, s_i2l, s_l2i, s_i2c, s_lcmp, s_ic, s_lc, s_nul, s_str, s_il, s_ll, s_al, s_dup, s_dup2, s_pop, s_ifne, s_icne, s_ifeq, s_iflt, s_ifge, s_ifgt, s_ifle, s_iceq, s_iclt, s_icge, s_icgt, s_icle, s_ifnull, s_ifnonnull, s_is, s_ls, s_as, s_ii, s_gi, s_gl, s_gr, s_pi, s_pz, s_pl, s_pr, s_iald, s_zald, s_lald, s_aald, s_alen, s_iast, s_zast, s_last, s_iret, s_zret, s_lret, s_aret, s_vret, s_sw, s_aast, mm_sw, mm_ld, mm_s1, mm_s2, mm_kl, Value.category, va_rf, List.nil_append, List.cons_append, Option.toList, true_and, and_true, and_self, true_or, or_true, eq_self, not_true_eq_false, false_implies, true_implies, not_false_eq_true, mm_10, mm_01, false_or, or_false, Nat.left_eq_add, Nat.add_eq_left, Nat.add_left_cancel_iff, Nat.reduceEqDiff, false_and, and_false, reduceIte, mm_kd_pi, mm_ln_pi, mm_gl_pi, mm_gr_pi, mm_sz_pi, mm_gi_pi, mm_kd_pl, mm_ln_pl, mm_gi_pl, mm_gr_pl, mm_sz_pl, mm_gl_pl, mm_kd_pr, mm_ln_pr, mm_gi_pr, mm_gl_pr, mm_sz_pr, mm_gr_pr, mm_kd_pa, mm_ln_pa, mm_gl_pa, mm_gr_pa, mm_sz_pa, mm_gi_pa, W_kd_91 H, W_s_91 H, W_gr_91_2 H, W_gr_91_3 H, W_gr_91_4 H, W_gr_91_5 H, W_gr_91_6 H, W_gr_91_7 H, W_gr_91_9 H, W_gr_91_10 H, W_gr_91_12 H, W_gr_91_22 H, W_gr_91_24 H, W_gr_91_25 H, W_gr_91_27 H, W_gr_91_28 H, W_gr_91_31 H, W_gr_91_32 H, W_gr_91_33 H, W_gr_91_35 H, W_gr_91_36 H, W_gr_91_37 H, W_gr_91_41 H, W_gr_91_42 H, W_gr_91_43 H, W_gr_91_44 H, W_gr_91_45 H, W_gr_91_46 H, W_gr_91_47 H, W_gr_91_48 H, W_gr_91_49 H, W_gr_91_55 H, hb, show nI 3 = 3 from rfl, show ((3 : Int32) = 4) = False by decide, show ((3 : Int32) = 0) = False by decide, show ((3 : Int32) = 1) = False by decide]
  refine c_X10_readExpression_62 (bb := (0, 0)) (b := (0, 0)) (Nat.le_of_ble_eq_true rfl) ⟨rfl, rfl⟩ (W_kd_91 H) (W_s_91 H) (mm_MV.mono (fun v g q => ?_) k)
  obtain ⟨x, rfl, q⟩ := q
  refine t_X10_readExpression_65 _ _ _ ?_
  refine t_X10_readExpression_72 _ _ _ ?_
  simp only [s_iadd, s_isub, s_imul, s_iand, s_ior, s_ixor, s_ishl, s_ishr, s_iushr, s_idiv, s_irem, s_ladd, s_lsub, s_lmul, s_ldiv, s_lrem, s_ineg, s_i2l, s_l2i, s_i2c, s_lcmp, s_ic, s_lc, s_nul, s_str, s_il, s_ll, s_al, s_dup, s_dup2, s_pop, s_ifne, s_icne, s_ifeq, s_iflt, s_ifge, s_ifgt, s_ifle, s_iceq, s_iclt, s_icge, s_icgt, s_icle, s_ifnull, s_ifnonnull, s_is, s_ls, s_as, s_ii, s_gi, s_gl, s_gr, s_pi, s_pz, s_pl, s_pr, s_iald, s_zald, s_lald, s_aald, s_alen, s_iast, s_zast, s_last, s_iret, s_zret, s_lret, s_aret, s_vret, s_sw, s_aast, mm_sw, mm_ld, mm_s1, mm_s2, mm_kl, Value.category, va_rf, List.nil_append, List.cons_append, Option.toList, true_and, and_true, and_self, true_or, or_true, eq_self, not_true_eq_false, false_implies, true_implies, not_false_eq_true, mm_10, mm_01, false_or, or_false, Nat.left_eq_add, Nat.add_eq_left, Nat.add_left_cancel_iff, Nat.reduceEqDiff, false_and, and_false, reduceIte, mm_kd_pi, mm_ln_pi, mm_gl_pi, mm_gr_pi, mm_sz_pi, mm_gi_pi, mm_kd_pl, mm_ln_pl, mm_gi_pl, mm_gr_pl, mm_sz_pl, mm_gl_pl, mm_kd_pr, mm_ln_pr, mm_gi_pr, mm_gl_pr, mm_sz_pr, mm_gr_pr, mm_kd_pa, mm_ln_pa, mm_gl_pa, mm_gr_pa, mm_sz_pa, mm_gi_pa]
  exact q
theorem ex_2 (H : WS h) (hb : mm_gi h 91 19 = 0) (k : mm_MV q_X10_behindTest (d + 6) (0, 0) [.ref 91] h (EQ d te K)) : EX d te K 2 h := by
  refine t_X10_readExpression_20 _ _ _ ?_
  simp only [s_iadd, s_isub, s_imul, s_iand, s_ior, s_ixor, s_ishl, s_ishr, s_iushr, s_idiv, s_irem, s_ladd, s_lsub, s_lmul, s_ldiv, s_lrem, s_ineg, s_i2l, s_l2i, s_i2c, s_lcmp, s_ic, s_lc, s_nul, s_str, s_il, s_ll, s_al, s_dup, s_dup2, s_pop, s_ifne, s_icne, s_ifeq, s_iflt, s_ifge, s_ifgt, s_ifle, s_iceq, s_iclt, s_icge, s_icgt, s_icle, s_ifnull, s_ifnonnull, s_is, s_ls, s_as, s_ii, s_gi, s_gl, s_gr, s_pi, s_pz, s_pl, s_pr, s_iald, s_zald, s_lald, s_aald, s_alen, s_iast, s_zast, s_last, s_iret, s_zret, s_lret, s_aret, s_vret, s_sw, s_aast, mm_sw, mm_ld, mm_s1, mm_s2, mm_kl, Value.category, va_rf, List.nil_append, List.cons_append, Option.toList, true_and, and_true, and_self, true_or, or_true, eq_self, not_true_eq_false, false_implies, true_implies, not_false_eq_true, mm_10, mm_01, false_or, or_false, Nat.left_eq_add, Nat.add_eq_left, Nat.add_left_cancel_iff, Nat.reduceEqDiff, false_and, and_false, reduceIte, mm_kd_pi, mm_ln_pi, mm_gl_pi, mm_gr_pi, mm_sz_pi, mm_gi_pi, mm_kd_pl, mm_ln_pl, mm_gi_pl, mm_gr_pl, mm_sz_pl, mm_gl_pl, mm_kd_pr, mm_ln_pr, mm_gi_pr, mm_gl_pr, mm_sz_pr, mm_gr_pr, mm_kd_pa, mm_ln_pa, mm_gl_pa, mm_gr_pa, mm_sz_pa, mm_gi_pa, W_kd_91 H, W_s_91 H, W_gr_91_2 H, W_gr_91_3 H, W_gr_91_4 H, W_gr_91_5 H, W_gr_91_6 H, W_gr_91_7 H, W_gr_91_9 H, W_gr_91_10 H, W_gr_91_12 H, W_gr_91_22 H, W_gr_91_24 H, W_gr_91_25 H, W_gr_91_27 H, W_gr_91_28 H, W_gr_91_31 H, W_gr_91_32 H, W_gr_91_33 H, W_gr_91_35 H, W_gr_91_36 H, W_gr_91_37 H, W_gr_91_41 H, W_gr_91_42 H, W_gr_91_43 H, W_gr_91_44 H, W_gr_91_45 H, W_gr_91_46 H, W_gr_91_47 H, W_gr_91_48 H, W_gr_91_49 H, W_gr_91_55 H, hb, show nI 2 = 2 from rfl, show ((2 : Int32) = 4) = False by decide, show ((2 : Int32) = 0) = False by decide, show ((2 : Int32) = 1) = False by decide, show ((2 : Int32) = 3) = False by decide]
  refine c_X10_readExpression_69 (bb := (0, 0)) (b := (0, 0)) (Nat.le_of_ble_eq_true rfl) ⟨rfl, rfl⟩ (W_kd_91 H) (W_s_91 H) (mm_MV.mono (fun v g q => ?_) k)
  obtain ⟨x, rfl, q⟩ := q
  refine t_X10_readExpression_72 _ _ _ ?_
  simp only [s_iadd, s_isub, s_imul, s_iand, s_ior, s_ixor, s_ishl, s_ishr, s_iushr, s_idiv, s_irem, s_ladd, s_lsub, s_lmul, s_ldiv, s_lrem, s_ineg, s_i2l, s_l2i, s_i2c, s_lcmp, s_ic, s_lc, s_nul, s_str, s_il, s_ll, s_al, s_dup, s_dup2, s_pop, s_ifne, s_icne, s_ifeq, s_iflt, s_ifge, s_ifgt, s_ifle, s_iceq, s_iclt, s_icge, s_icgt, s_icle, s_ifnull, s_ifnonnull, s_is, s_ls, s_as, s_ii, s_gi, s_gl, s_gr, s_pi, s_pz, s_pl, s_pr, s_iald, s_zald, s_lald, s_aald, s_alen, s_iast, s_zast, s_last, s_iret, s_zret, s_lret, s_aret, s_vret, s_sw, s_aast, mm_sw, mm_ld, mm_s1, mm_s2, mm_kl, Value.category, va_rf, List.nil_append, List.cons_append, Option.toList, true_and, and_true, and_self, true_or, or_true, eq_self, not_true_eq_false, false_implies, true_implies, not_false_eq_true, mm_10, mm_01, false_or, or_false, Nat.left_eq_add, Nat.add_eq_left, Nat.add_left_cancel_iff, Nat.reduceEqDiff, false_and, and_false, reduceIte, mm_kd_pi, mm_ln_pi, mm_gl_pi, mm_gr_pi, mm_sz_pi, mm_gi_pi, mm_kd_pl, mm_ln_pl, mm_gi_pl, mm_gr_pl, mm_sz_pl, mm_gl_pl, mm_kd_pr, mm_ln_pr, mm_gi_pr, mm_gl_pr, mm_sz_pr, mm_gr_pr, mm_kd_pa, mm_ln_pa, mm_gl_pa, mm_gr_pa, mm_sz_pa, mm_gi_pa]
  exact q
theorem ex_p {tu : Nat} (M : MS o n t h p c pl y J) (hb : mm_gi h 91 19 = 0) (e : ETp n t tu p) (k : ∀ e, mm_MV q_X10_readPart (e + 5) (0, 0) [.ref 91] h (EQ d te K)) : EX d te K tu h := by
  rcases e with rfl | ⟨rfl, e1, e2⟩
  · exact ex_1 M.1.1 hb (k (d + 1))
  · refine ex_0 M.1.1 hb (pn_part M e1 e2 (mm_MV.mono (fun v g q => ?_) (k d)))
    obtain ⟨x, rfl, q⟩ := q
    exact ⟨nI x, rfl, x, rfl, q⟩
/-! pieces of code -/
theorem js_leaf {x : Nat × Int32} {D : xD} (hW : WJ o y J) (hx : wfe o x) (hP : xP (nwO o) (fun i => dec o (ju J y x i)) y (y + 1) 1 D) : JSx o J y [] (ju J y x) (y + 1) (c + 1 - c) D := by
  refine ⟨fun i hi => ju_ne (by omega), WJ_s hW hx, ?_⟩
  rw [show c + 1 - c = 1 by omega]
  exact hP
theorem js_op {J0 J2 : jM} {y0 y2 c0 c1 q : Nat} {E2 : List (Nat × Nat)} {A B : xD} (a : JSx o J0 y0 E J y (c - c0) A) (b : JSx o (sE E J y).1 (sE E J y).2 E2 J2 y2 (c1 - c) B) (h0 : c0 ≤ c) (h1 : c ≤ c1) (hq : q < 8) : JSx o J0 y0 (E2 ++ [(20 + q, 0)]) J2 y2 (c1 - c0) (dJoin q A B) := by
  obtain ⟨a1, a2, a3⟩ := a
  obtain ⟨b1, b2, b3⟩ := b
  have la := a3.1.1
  have lb := b3.1.1
  have es : sE (E2 ++ [(20 + q, 0)]) J2 y2 = (ju (sE E2 J2 y2).1 (sE E2 J2 y2).2 (20 + q, 0), (sE E2 J2 y2).2 + 1) := by
    rw [sE_app, sE, if_neg (show ¬ (20 + q = 29 ∨ 20 + q = 30) by omega)]
    rfl
  unfold JSx
  rw [es]
  refine ⟨fun i hi => ?_, WJ_s b2 (wf_op hq), ?_⟩
  · show ju _ _ _ i = _
    rw [ju_ne (by omega), b1 i (by omega)]
    exact a1 i hi
  · rw [show c1 - c0 = (c - c0) + (c1 - c) by omega]
    refine xP_join (v := 0) (xP_cg (fun i i1 i2 => ?_) a3) (xP_cg (fun i i1 i2 => ?_) b3) ?_ hq
    · show dec o (ju _ _ _ i) = _
      rw [ju_ne (by omega), b1 i (by omega)]
    · show dec o (ju _ _ _ i) = _
      rw [ju_ne (by omega)]
    · show dec o (ju _ _ _ _) = _
      rw [ju_eq]
      exact dec_op hq
theorem js_ao {J0 J2 : jM} {y0 y2 c0 c1 q l : Nat} {E2 : List (Nat × Nat)} {A B : xD} (hl : l = 0 ∨ l = 1) (a : JSx o J0 y0 E J y (c - c0) A) (ta : xT (nwO o) A) (b : JSx o (ju (sE E J y).1 (sE E J y).2 (30 - l, 0)) ((sE E J y).2 + 1) E2 J2 y2 (c1 - c) B) (h0 : c0 ≤ c) (h1 : c ≤ c1) (hy : (sE E2 J2 y2).2 < 2 ^ 31) : JSx o J0 y0 (E2 ++ [(30 - l, (sE E J y).2)]) J2 y2 (c1 - c0) (mkD l q A B) := by
  obtain ⟨a1, a2, a3⟩ := a
  obtain ⟨b1, b2, b3⟩ := b
  have la := a3.1.1
  have lb := b3.1.1
  have ez : (sE E2 J2 y2).1 (sE E J y).2 = (30 - l, 0) := by rw [b1 _ (by omega), ju_eq]
  have es : sE (E2 ++ [(30 - l, (sE E J y).2)]) J2 y2 = (ju (sE E2 J2 y2).1 (sE E J y).2 (30 - l, nI (sE E2 J2 y2).2), (sE E2 J2 y2).2) := by
    rw [sE_app, sE, if_pos (show 30 - l = 29 ∨ 30 - l = 30 by omega), ez]
    rfl
  unfold JSx
  rw [es]
  refine ⟨fun i hi => ?_, WJ_ju b2 (wf_ao hl hy), ?_⟩
  · show ju _ _ _ i = _
    rw [ju_ne (by omega), b1 i (by omega), ju_ne (by omega)]
    exact a1 i hi
  · rw [show c1 - c0 = (c - c0) + (c1 - c) by omega]
    have eA : xP (nwO o) (fun i => dec o (ju (sE E2 J2 y2).1 (sE E J y).2 (30 - l, nI (sE E2 J2 y2).2) i)) y0 (sE E J y).2 (c - c0) A := xP_cg (fun i i1 i2 => by
      show dec o (ju _ _ _ i) = _
      rw [ju_ne (by omega), b1 i (by omega), ju_ne (by omega)]) a3
    have eB : xP (nwO o) (fun i => dec o (ju (sE E2 J2 y2).1 (sE E J y).2 (30 - l, nI (sE E2 J2 y2).2) i)) ((sE E J y).2 + 1) (sE E2 J2 y2).2 (c1 - c) B := xP_cg (fun i i1 i2 => by
      show dec o (ju _ _ _ i) = _
      rw [ju_ne (by omega)]) b3
    have eI : (fun i => dec o (ju (sE E2 J2 y2).1 (sE E J y).2 (30 - l, nI (sE E2 J2 y2).2) i)) (sE E J y).2 = (kD l 0, (sE E2 J2 y2).2) := by
      show dec o (ju _ _ _ _) = _
      rw [ju_eq]
      exact dec_ao hl hy
    rcases hl with rfl | rfl
    · exact xP_or eA ta eI eB
    · exact xP_and eA ta eI eB
theorem js_not {J2 : jM} {y2 w : Nat} {E2 : List (Nat × Nat)} {D : xD} (b : JSx o J y E2 J2 y2 w D) (tD : xT (nwO o) D) : JSx o J y (E2 ++ [(28, 0)]) J2 y2 w (dNot D) := by
  obtain ⟨b1, b2, b3⟩ := b
  have lb := b3.1.1
  have es : sE (E2 ++ [(28, 0)]) J2 y2 = (ju (sE E2 J2 y2).1 (sE E2 J2 y2).2 (28, 0), (sE E2 J2 y2).2 + 1) := by
    rw [sE_app, sE, if_neg (show ¬ ((28 : Nat) = 29 ∨ (28 : Nat) = 30) by decide)]
    rfl
  unfold JSx
  rw [es]
  refine ⟨fun i hi => ?_, WJ_s b2 wf_not, ?_⟩
  · show ju _ _ _ i = _
    rw [ju_ne (by omega)]
    exact b1 i hi
  · refine xP_not (v := 0) (xP_cg (fun i i1 i2 => ?_) b3) tD ?_
    · show dec o (ju _ _ _ i) = _
      rw [ju_ne (by omega)]
    · show dec o (ju _ _ _ _) = _
      rw [ju_eq]
      rfl
theorem inn_le : ∀ pl : List (Nat × Nat), (∀ x, x ∈ pl → x.1 ≤ 32) → inn pl ≤ 32
  | [], _ => by show 0 ≤ 32; decide
  | x :: r, H => by
    rw [inn]
    split
    · exact H x (by simp)
    · exact inn_le r (fun z hz => H z (by simp [hz]))
theorem cmpd_no : ∀ base : List (Nat × Nat), tpb base < 4 → cmpd base = false
  | [], _ => rfl
  | x :: r, H => by
    have H : bnd x.1 < 4 := H
    have : 28 ≤ x.1 := by
      unfold bnd at H
      split at H
      · omega
      · split at H
        · omega
        · split at H
          · omega
          · split at H
            · omega
            · split at H
              · omega
              · split at H <;> omega
    rw [cmpd, if_neg (by omega), decide_eq_false (by omega)]
theorem sO3 {q : Nat} (e : sO n t 3 p = some q) : q < 2 := by
  unfold sO at e
  rw [if_neg (by decide), if_neg (by decide)] at e
  split at e
  · rw [if_pos rfl] at e
    split at e
    · cases e; decide
    · split at e
      · cases e; decide
      · cases e
  · cases e
theorem sO4 {q : Nat} (e : sO n t 4 p = some q) : 2 ≤ q ∧ q ≤ 4 := by
  unfold sO at e
  rw [if_neg (by decide), if_neg (by decide)] at e
  split at e
  · rw [if_neg (by decide)] at e
    split at e
    · cases e; decide
    · split at e
      · cases e; decide
      · split at e
        · cases e; decide
        · cases e
  · cases e
/-! the motive -/
def lim (m : Nat) : Nat := if m = 0 then 1 else if m = 1 then 2 else if m = 2 ∨ m = 6 ∨ m = 8 then 4 else if m = 3 then 5 else if m = 4 then 6 else 7
def blv (m : Nat) : Nat := if m = 0 then 1 else if m = 1 then 2 else if m = 2 then 3 else if m = 8 then 4 else if m = 3 then 5 else if m = 4 then 6 else 7
def xt (m : Nat) : Nat := if m ≤ 2 ∨ m = 6 ∨ m = 8 then 2 else 3
def QX (n : Nat) (t : Nat → Nat) (m p : Nat) : Prop := (m = 0 → sO n t 0 p = none ∧ sO n t 1 p = none) ∧ (m = 1 → sO n t 1 p = none) ∧ (m = 3 → sO n t 3 p = none ∧ sO n t 4 p = none) ∧ (m = 4 → sO n t 4 p = none)
def EN (n : Nat) (t : Nat → Nat) (m tu p : Nat) : Prop := (m ≤ 2 → tu = 0) ∧ (m = 6 → tu = 0 ∧ wq n t 2 p = none ∧ isS n t 40 p) ∧ (m = 8 → tu = 0 ∧ wq n t 2 p = none ∧ ¬ isS n t 40 p) ∧ (3 ≤ m → m ≠ 6 → m ≠ 8 → ETp n t tu p) ∧ (m = 7 → isS n t 91 p)
def Mr2 (fl : Nat → Prop) (ok : Nat → Nat → xD → Prop) : pR → Prop
  | .inl f => fl f
  | .inr (p, c, D) => ok p c D
/-- a state at the loop's head -/
def ST (o te : Bool) (n : Nat) (t : Nat → Nat) (m dd : Nat) (h : mmH) (p c : Nat) (E base : List (Nat × Nat)) (y : Nat) (J : jM) : Prop := MS o n t h p c (E ++ base) y J ∧ mm_gi h 91 19 = 0 ∧ y + (E ++ base).length ≤ p ∧ nb base = dd ∧ tpb base < lim m ∧ (tst m → inn base ≠ 32 ∧ te = true) ∧ ∀ x, x ∈ E → blv m ≤ bnd x.1
def MX (o te : Bool) (n : Nat) (t : Nat → Nat) (d : Nat) (K : Option Value → mmH → Prop) (m dd p c : Nat) (r : pR) : Prop := ∀ h base y J tu, ST o te n t m dd h p c [] base y J → WJ o y J → EN n t m tu p →
  Mr2 (fun f => (∀ g x, MF o n t h g f → EX d te K x g) → EX d te K tu h)
    (fun p' c' D => (∀ g E y' J', fx xMd yMd h g → ST o te n t m dd g p' c' E base y' J' → QX n t m p' → c ≤ c' → JSx o J y E J' y' (c' - c) D → (tst m → xT (nwO o) D) → EX d te K (xt m) g) → EX d te K tu h) r
def MY (o te : Bool) (n : Nat) (t : Nat → Nat) (d : Nat) (K : Option Value → mmH → Prop) (l : Nat) (A : xD) (dd p c : Nat) (r : pR) : Prop := ∀ h base E y J y0 J0 c0, ST o te n t l dd h p c E base y J → QX n t (l + 1) p → c0 ≤ c → JSx o J0 y0 E J y (c - c0) A → (tst l → xT (nwO o) A) →
  Mr2 (fun f => (∀ g x, MF o n t h g f → EX d te K x g) → EX d te K (xt l) h)
    (fun p' c' D => (∀ g E' y' J', fx xMd yMd h g → ST o te n t l dd g p' c' E' base y' J' → QX n t l p' → c0 ≤ c' → JSx o J0 y0 E' J' y' (c' - c0) D → (tst l → xT (nwO o) D) → EX d te K (xt l) g) → EX d te K (xt l) h) r
end
