/-! orders: the model runs them all -/
def xMo (c j : Nat) : Prop := xMr c j ∨ c = 96 ∨ c = 98 ∨ c = 99 ∨ (c = 91 ∧ j = 52)
section
variable {d : Nat} {h g h0 : mmH} {K : Option Value → mmH → Prop} {A : Option lwD} {S : HSt} {n : Nat} {te : Nat → tEn} {y N : Nat} {J : jM} {cl : Nat → cDt}
theorem lp_m77 (H : WS h) {x1 : Int32} {v3 : Option Value} (k : ∀ g, fx (fun c _ => c = 98) y0 h g → (∀ j, j < 368 → mm_gi g 98 j = mm_gi h 96 j) → mm_V q_X10_orders (d + 11) (0, 0) K 104 [some (.ref 91), some (.int x1), some (.int (nI 0)), v3] [] g) : ∀ m i g, i + m = 368 → fx (fun c _ => c = 98) y0 h g → (∀ j, j < i → mm_gi g 98 j = mm_gi h 96 j) → mm_V q_X10_orders (d + 11) (0, 0) K 77 [some (.ref 91), some (.int x1), some (.int (nI i)), v3] [] g := by
  intro m
  induction m with
  | zero =>
    intro i g hi F D
    obtain rfl : i = 368 := by omega
    refine t_X10_orders_77 _ _ _ ?_
    simp only [s_iadd, s_isub, s_imul, s_iand, s_ior, s_ixor, s_ishl, s_ishr, s_iushr, s_idiv, s_irem, s_ladd, s_lsub, s_lmul, s_ldiv, s_lrem, s_ineg, s_i2l, s_l2i, s_i2c, s_lcmp, s_ic, s_lc, s_nul, s_str, s_il, s_ll, s_al, s_dup, s_dup2, s_pop, s_ifne, s_icne, s_ifeq, s_iflt, s_ifge, s_ifgt, s_ifle, s_iceq, s_iclt, s_icge, s_icgt, s_icle, s_ifnull, s_ifnonnull, s_is, s_ls, s_as, s_ii, s_gi, s_gl, s_gr, s_pi, s_pz, s_pl, s_pr, s_iald, s_zald, s_lald, s_aald, s_alen, s_iast, s_zast, s_last, s_iret, s_zret, s_lret, s_aret, s_vret, s_sw, s_aast, mm_sw, mm_ld, mm_s1, mm_s2, mm_kl, Value.category, va_rf, List.nil_append, List.cons_append, Option.toList, true_and, and_true, and_self, true_or, or_true, eq_self, not_true_eq_false, false_implies, true_implies, not_false_eq_true, mm_10, mm_01, false_or, or_false, Nat.left_eq_add, Nat.add_eq_left, Nat.add_left_cancel_iff, Nat.reduceEqDiff, false_and, and_false, reduceIte, mm_kd_pi, mm_ln_pi, mm_gl_pi, mm_gr_pi, mm_sz_pi, mm_gi_pi, mm_kd_pl, mm_ln_pl, mm_gi_pl, mm_gr_pl, mm_sz_pl, mm_gl_pl, mm_kd_pr, mm_ln_pr, mm_gi_pr, mm_gl_pr, mm_sz_pr, mm_gr_pr, mm_kd_pa, mm_ln_pa, mm_gl_pa, mm_gr_pa, mm_sz_pa, mm_gi_pa, show ((368 : Int32) ≤ nI 368) = True by decide]
    exact k g F D
  | succ m ih =>
    intro i g hi F D
    have Hg := fx_WS F H
    have e96 : mm_gi g 96 i = mm_gi h 96 i := F.2.1 96 i (by omega)
    refine t_X10_orders_77 _ _ _ ?_
    simp only [s_iadd, s_isub, s_imul, s_iand, s_ior, s_ixor, s_ishl, s_ishr, s_iushr, s_idiv, s_irem, s_ladd, s_lsub, s_lmul, s_ldiv, s_lrem, s_ineg, s_i2l, s_l2i, s_i2c, s_lcmp, s_ic, s_lc, s_nul, s_str, s_il, s_ll, s_al, s_dup, s_dup2, s_pop, s_ifne, s_icne, s_ifeq, s_iflt, s_ifge, s_ifgt, s_ifle, s_iceq, s_iclt, s_icge, s_icgt, s_icle, s_ifnull, s_ifnonnull, s_is, s_ls, s_as, s_ii, s_gi, s_gl, s_gr, s_pi, s_pz, s_pl, s_pr, s_iald, s_zald, s_lald, s_aald, s_alen, s_iast, s_zast, s_last, s_iret, s_zret, s_lret, s_aret, s_vret, s_sw, s_aast, mm_sw, mm_ld, mm_s1, mm_s2, mm_kl, Value.category, va_rf, List.nil_append, List.cons_append, Option.toList, true_and, and_true, and_self, true_or, or_true, eq_self, not_true_eq_false, false_implies, true_implies, not_false_eq_true, mm_10, mm_01, false_or, or_false, Nat.left_eq_add, Nat.add_eq_left, Nat.add_left_cancel_iff, Nat.reduceEqDiff, false_and, and_false, reduceIte, mm_kd_pi, mm_ln_pi, mm_gl_pi, mm_gr_pi, mm_sz_pi, mm_gi_pi, mm_kd_pl, mm_ln_pl, mm_gi_pl, mm_gr_pl, mm_sz_pl, mm_gl_pl, mm_kd_pr, mm_ln_pr, mm_gi_pr, mm_gl_pr, mm_sz_pr, mm_gr_pr, mm_kd_pa, mm_ln_pa, mm_gl_pa, mm_gr_pa, mm_sz_pa, mm_gi_pa, W_kd_91 Hg, W_s_91 Hg, W_gr_91_2 Hg, W_gr_91_3 Hg, W_gr_91_4 Hg, W_gr_91_5 Hg, W_gr_91_6 Hg, W_gr_91_7 Hg, W_gr_91_9 Hg, W_gr_91_10 Hg, W_gr_91_12 Hg, W_gr_91_22 Hg, W_gr_91_24 Hg, W_gr_91_25 Hg, W_gr_91_27 Hg, W_gr_91_28 Hg, W_gr_91_31 Hg, W_gr_91_32 Hg, W_gr_91_33 Hg, W_gr_91_35 Hg, W_gr_91_36 Hg, W_gr_91_37 Hg, W_gr_91_41 Hg, W_gr_91_42 Hg, W_gr_91_43 Hg, W_gr_91_44 Hg, W_gr_91_45 Hg, W_gr_91_46 Hg, W_gr_91_47 Hg, W_gr_91_48 Hg, W_gr_91_49 Hg, W_gr_91_55 Hg, W_kd_96 Hg, W_s_96 Hg, W_ln_96 Hg, W_kd_98 Hg, W_s_98 Hg, W_ln_98 Hg, show ((368 : Int32) ≤ nI i) = False from eq_false (nI_ge (b := 368) (by omega) (by decide)), nI_clamp (show i < 2 ^ 31 by omega), vp_in_nI (show i < 414 by omega) (show 414 < 2 ^ 31 by decide), vp_in_nI (show i < 368 by omega) (show 368 < 2 ^ 31 by decide), e96, nI_1]
    refine ih (i + 1) _ (by omega) (fx_pi rfl F) (fun j hj => ?_)
    by_cases q : j = i
    · subst q; rw [mm_gi_pi, if_pos ⟨rfl, rfl⟩]
    · rw [mm_gi_pi, if_neg (by omega)]; exact D j (by omega)
theorem lp_m104 (H : WS h) {x1 : Int32} {v3 : Option Value} (k : ∀ g, fx (fun c _ => c = 99) y0 h g → (∀ j, j < 16 → mm_gi g 99 j = mm_gi h 97 j) → mm_V q_X10_orders (d + 11) (0, 0) K 104 [some (.ref 91), some (.int x1), some (.int (nI 16)), v3] [] g) : ∀ m i g, i + m = 16 → fx (fun c _ => c = 99) y0 h g → (∀ j, j < i → mm_gi g 99 j = mm_gi h 97 j) → mm_V q_X10_orders (d + 11) (0, 0) K 104 [some (.ref 91), some (.int x1), some (.int (nI i)), v3] [] g := by
  intro m
  induction m with
  | zero =>
    intro i g hi F D
    obtain rfl : i = 16 := by omega
    exact k g F D
  | succ m ih =>
    intro i g hi F D
    have Hg := fx_WS F H
    have e97 : mm_gi g 97 i = mm_gi h 97 i := F.2.1 97 i (by omega)
    refine t_X10_orders_104 _ _ _ ?_
    simp only [s_iadd, s_isub, s_imul, s_iand, s_ior, s_ixor, s_ishl, s_ishr, s_iushr, s_idiv, s_irem, s_ladd, s_lsub, s_lmul, s_ldiv, s_lrem, s_ineg, s_i2l, s_l2i, s_i2c, s_lcmp, s_ic, s_lc, s_nul, s_str, s_il, s_ll, s_al, s_dup, s_dup2, s_pop, s_ifne, s_icne, s_ifeq, s_iflt, s_ifge, s_ifgt, s_ifle, s_iceq, s_iclt, s_icge, s_icgt, s_icle, s_ifnull, s_ifnonnull, s_is, s_ls, s_as, s_ii, s_gi, s_gl, s_gr, s_pi, s_pz, s_pl, s_pr, s_iald, s_zald, s_lald, s_aald, s_alen, s_iast, s_zast, s_last, s_iret, s_zret, s_lret, s_aret, s_vret, s_sw, s_aast, mm_sw, mm_ld, mm_s1, mm_s2, mm_kl, Value.category, va_rf, List.nil_append, List.cons_append, Option.toList, true_and, and_true, and_self, true_or, or_true, eq_self, not_true_eq_false, false_implies, true_implies, not_false_eq_true, mm_10, mm_01, false_or, or_false, Nat.left_eq_add, Nat.add_eq_left, Nat.add_left_cancel_iff, Nat.reduceEqDiff, false_and, and_false, reduceIte, mm_kd_pi, mm_ln_pi, mm_gl_pi, mm_gr_pi, mm_sz_pi, mm_gi_pi, mm_kd_pl, mm_ln_pl, mm_gi_pl, mm_gr_pl, mm_sz_pl, mm_gl_pl, mm_kd_pr, mm_ln_pr, mm_gi_pr, mm_gl_pr, mm_sz_pr, mm_gr_pr, mm_kd_pa, mm_ln_pa, mm_gl_pa, mm_gr_pa, mm_sz_pa, mm_gi_pa, W_kd_91 Hg, W_s_91 Hg, W_gr_91_2 Hg, W_gr_91_3 Hg, W_gr_91_4 Hg, W_gr_91_5 Hg, W_gr_91_6 Hg, W_gr_91_7 Hg, W_gr_91_9 Hg, W_gr_91_10 Hg, W_gr_91_12 Hg, W_gr_91_22 Hg, W_gr_91_24 Hg, W_gr_91_25 Hg, W_gr_91_27 Hg, W_gr_91_28 Hg, W_gr_91_31 Hg, W_gr_91_32 Hg, W_gr_91_33 Hg, W_gr_91_35 Hg, W_gr_91_36 Hg, W_gr_91_37 Hg, W_gr_91_41 Hg, W_gr_91_42 Hg, W_gr_91_43 Hg, W_gr_91_44 Hg, W_gr_91_45 Hg, W_gr_91_46 Hg, W_gr_91_47 Hg, W_gr_91_48 Hg, W_gr_91_49 Hg, W_gr_91_55 Hg, W_kd_97 Hg, W_s_97 Hg, W_ln_97 Hg, W_kd_99 Hg, W_s_99 Hg, W_ln_99 Hg, show ((16 : Int32) ≤ nI i) = False from eq_false (nI_ge (b := 16) (by omega) (by decide)), nI_clamp (show i < 2 ^ 31 by omega), vp_in_nI (show i < 16 by omega) (show 16 < 2 ^ 31 by decide), e97, nI_1]
    refine ih (i + 1) _ (by omega) (fx_pi rfl F) (fun j hj => ?_)
    by_cases q : j = i
    · subst q; rw [mm_gi_pi, if_pos ⟨rfl, rfl⟩]
    · rw [mm_gi_pi, if_neg (by omega)]; exact D j (by omega)
theorem lp_g8 (H : WS h) {x1 : Int32} (k : ∀ g, fx (fun c j => c = 96 ∧ j < 368) y0 h g → (∀ j, j < 368 → mm_gi g 96 j = mm_gi h 98 j) → mm_V q_X10_giveBack (d + 1) (0, 0) K 35 [some (.ref 91), some (.int x1), some (.int (nI 0))] [] g) : ∀ m i g, i + m = 368 → fx (fun c j => c = 96 ∧ j < 368) y0 h g → (∀ j, j < i → mm_gi g 96 j = mm_gi h 98 j) → mm_V q_X10_giveBack (d + 1) (0, 0) K 8 [some (.ref 91), some (.int x1), some (.int (nI i))] [] g := by
  intro m
  induction m with
  | zero =>
    intro i g hi F D
    obtain rfl : i = 368 := by omega
    refine t_X10_giveBack_8 _ _ _ ?_
    simp only [s_iadd, s_isub, s_imul, s_iand, s_ior, s_ixor, s_ishl, s_ishr, s_iushr, s_idiv, s_irem, s_ladd, s_lsub, s_lmul, s_ldiv, s_lrem, s_ineg, s_i2l, s_l2i, s_i2c, s_lcmp, s_ic, s_lc, s_nul, s_str, s_il, s_ll, s_al, s_dup, s_dup2, s_pop, s_ifne, s_icne, s_ifeq, s_iflt, s_ifge, s_ifgt, s_ifle, s_iceq, s_iclt, s_icge, s_icgt, s_icle, s_ifnull, s_ifnonnull, s_is, s_ls, s_as, s_ii, s_gi, s_gl, s_gr, s_pi, s_pz, s_pl, s_pr, s_iald, s_zald, s_lald, s_aald, s_alen, s_iast, s_zast, s_last, s_iret, s_zret, s_lret, s_aret, s_vret, s_sw, s_aast, mm_sw, mm_ld, mm_s1, mm_s2, mm_kl, Value.category, va_rf, List.nil_append, List.cons_append, Option.toList, true_and, and_true, and_self, true_or, or_true, eq_self, not_true_eq_false, false_implies, true_implies, not_false_eq_true, mm_10, mm_01, false_or, or_false, Nat.left_eq_add, Nat.add_eq_left, Nat.add_left_cancel_iff, Nat.reduceEqDiff, false_and, and_false, reduceIte, mm_kd_pi, mm_ln_pi, mm_gl_pi, mm_gr_pi, mm_sz_pi, mm_gi_pi, mm_kd_pl, mm_ln_pl, mm_gi_pl, mm_gr_pl, mm_sz_pl, mm_gl_pl, mm_kd_pr, mm_ln_pr, mm_gi_pr, mm_gl_pr, mm_sz_pr, mm_gr_pr, mm_kd_pa, mm_ln_pa, mm_gl_pa, mm_gr_pa, mm_sz_pa, mm_gi_pa, show ((368 : Int32) ≤ nI 368) = True by decide]
    exact k g F D
  | succ m ih =>
    intro i g hi F D
    have Hg := fx_WS F H
    have e98 : mm_gi g 98 i = mm_gi h 98 i := F.2.1 98 i (by omega)
    refine t_X10_giveBack_8 _ _ _ ?_
    simp only [s_iadd, s_isub, s_imul, s_iand, s_ior, s_ixor, s_ishl, s_ishr, s_iushr, s_idiv, s_irem, s_ladd, s_lsub, s_lmul, s_ldiv, s_lrem, s_ineg, s_i2l, s_l2i, s_i2c, s_lcmp, s_ic, s_lc, s_nul, s_str, s_il, s_ll, s_al, s_dup, s_dup2, s_pop, s_ifne, s_icne, s_ifeq, s_iflt, s_ifge, s_ifgt, s_ifle, s_iceq, s_iclt, s_icge, s_icgt, s_icle, s_ifnull, s_ifnonnull, s_is, s_ls, s_as, s_ii, s_gi, s_gl, s_gr, s_pi, s_pz, s_pl, s_pr, s_iald, s_zald, s_lald, s_aald, s_alen, s_iast, s_zast, s_last, s_iret, s_zret, s_lret, s_aret, s_vret, s_sw, s_aast, mm_sw, mm_ld, mm_s1, mm_s2, mm_kl, Value.category, va_rf, List.nil_append, List.cons_append, Option.toList, true_and, and_true, and_self, true_or, or_true, eq_self, not_true_eq_false, false_implies, true_implies, not_false_eq_true, mm_10, mm_01, false_or, or_false, Nat.left_eq_add, Nat.add_eq_left, Nat.add_left_cancel_iff, Nat.reduceEqDiff, false_and, and_false, reduceIte, mm_kd_pi, mm_ln_pi, mm_gl_pi, mm_gr_pi, mm_sz_pi, mm_gi_pi, mm_kd_pl, mm_ln_pl, mm_gi_pl, mm_gr_pl, mm_sz_pl, mm_gl_pl, mm_kd_pr, mm_ln_pr, mm_gi_pr, mm_gl_pr, mm_sz_pr, mm_gr_pr, mm_kd_pa, mm_ln_pa, mm_gl_pa, mm_gr_pa, mm_sz_pa, mm_gi_pa, W_kd_91 Hg, W_s_91 Hg, W_gr_91_2 Hg, W_gr_91_3 Hg, W_gr_91_4 Hg, W_gr_91_5 Hg, W_gr_91_6 Hg, W_gr_91_7 Hg, W_gr_91_9 Hg, W_gr_91_10 Hg, W_gr_91_12 Hg, W_gr_91_22 Hg, W_gr_91_24 Hg, W_gr_91_25 Hg, W_gr_91_27 Hg, W_gr_91_28 Hg, W_gr_91_31 Hg, W_gr_91_32 Hg, W_gr_91_33 Hg, W_gr_91_35 Hg, W_gr_91_36 Hg, W_gr_91_37 Hg, W_gr_91_41 Hg, W_gr_91_42 Hg, W_gr_91_43 Hg, W_gr_91_44 Hg, W_gr_91_45 Hg, W_gr_91_46 Hg, W_gr_91_47 Hg, W_gr_91_48 Hg, W_gr_91_49 Hg, W_gr_91_55 Hg, W_kd_96 Hg, W_s_96 Hg, W_ln_96 Hg, W_kd_98 Hg, W_s_98 Hg, W_ln_98 Hg, show ((368 : Int32) ≤ nI i) = False from eq_false (nI_ge (b := 368) (by omega) (by decide)), nI_clamp (show i < 2 ^ 31 by omega), vp_in_nI (show i < 414 by omega) (show 414 < 2 ^ 31 by decide), vp_in_nI (show i < 368 by omega) (show 368 < 2 ^ 31 by decide), e98, nI_1]
    refine ih (i + 1) _ (by omega) (fx_pi ⟨rfl, by omega⟩ F) (fun j hj => ?_)
    by_cases q : j = i
    · subst q; rw [mm_gi_pi, if_pos ⟨rfl, rfl⟩]
    · rw [mm_gi_pi, if_neg (by omega)]; exact D j (by omega)
theorem lp_g35 (H : WS h) {x1 : Int32} (k : ∀ g, fx (fun c j => c = 97 ∧ j < 16) y0 h g → (∀ j, j < 16 → mm_gi g 97 j = mm_gi h 99 j) → K none (mm_pi g 91 8 x1)) : ∀ m i g, i + m = 16 → fx (fun c j => c = 97 ∧ j < 16) y0 h g → (∀ j, j < i → mm_gi g 97 j = mm_gi h 99 j) → mm_V q_X10_giveBack (d + 1) (0, 0) K 35 [some (.ref 91), some (.int x1), some (.int (nI i))] [] g := by
  intro m
  induction m with
  | zero =>
    intro i g hi F D
    obtain rfl : i = 16 := by omega
    have Hg := fx_WS F H
    refine t_X10_giveBack_35 _ _ _ ?_
    simp only [s_iadd, s_isub, s_imul, s_iand, s_ior, s_ixor, s_ishl, s_ishr, s_iushr, s_idiv, s_irem, s_ladd, s_lsub, s_lmul, s_ldiv, s_lrem, s_ineg, s_i2l, s_l2i, s_i2c, s_lcmp, s_ic, s_lc, s_nul, s_str, s_il, s_ll, s_al, s_dup, s_dup2, s_pop, s_ifne, s_icne, s_ifeq, s_iflt, s_ifge, s_ifgt, s_ifle, s_iceq, s_iclt, s_icge, s_icgt, s_icle, s_ifnull, s_ifnonnull, s_is, s_ls, s_as, s_ii, s_gi, s_gl, s_gr, s_pi, s_pz, s_pl, s_pr, s_iald, s_zald, s_lald, s_aald, s_alen, s_iast, s_zast, s_last, s_iret, s_zret, s_lret, s_aret, s_vret, s_sw, s_aast, mm_sw, mm_ld, mm_s1, mm_s2, mm_kl, Value.category, va_rf, List.nil_append, List.cons_append, Option.toList, true_and, and_true, and_self, true_or, or_true, eq_self, not_true_eq_false, false_implies, true_implies, not_false_eq_true, mm_10, mm_01, false_or, or_false, Nat.left_eq_add, Nat.add_eq_left, Nat.add_left_cancel_iff, Nat.reduceEqDiff, false_and, and_false, reduceIte, mm_kd_pi, mm_ln_pi, mm_gl_pi, mm_gr_pi, mm_sz_pi, mm_gi_pi, mm_kd_pl, mm_ln_pl, mm_gi_pl, mm_gr_pl, mm_sz_pl, mm_gl_pl, mm_kd_pr, mm_ln_pr, mm_gi_pr, mm_gl_pr, mm_sz_pr, mm_gr_pr, mm_kd_pa, mm_ln_pa, mm_gl_pa, mm_gr_pa, mm_sz_pa, mm_gi_pa, show ((16 : Int32) ≤ nI 16) = True by decide, W_kd_91 Hg, W_s_91 Hg, W_gr_91_2 Hg, W_gr_91_3 Hg, W_gr_91_4 Hg, W_gr_91_5 Hg, W_gr_91_6 Hg, W_gr_91_7 Hg, W_gr_91_9 Hg, W_gr_91_10 Hg, W_gr_91_12 Hg, W_gr_91_22 Hg, W_gr_91_24 Hg, W_gr_91_25 Hg, W_gr_91_27 Hg, W_gr_91_28 Hg, W_gr_91_31 Hg, W_gr_91_32 Hg, W_gr_91_33 Hg, W_gr_91_35 Hg, W_gr_91_36 Hg, W_gr_91_37 Hg, W_gr_91_41 Hg, W_gr_91_42 Hg, W_gr_91_43 Hg, W_gr_91_44 Hg, W_gr_91_45 Hg, W_gr_91_46 Hg, W_gr_91_47 Hg, W_gr_91_48 Hg, W_gr_91_49 Hg, W_gr_91_55 Hg]
    exact k g F D
  | succ m ih =>
    intro i g hi F D
    have Hg := fx_WS F H
    have e99 : mm_gi g 99 i = mm_gi h 99 i := F.2.1 99 i (by omega)
    refine t_X10_giveBack_35 _ _ _ ?_
    simp only [s_iadd, s_isub, s_imul, s_iand, s_ior, s_ixor, s_ishl, s_ishr, s_iushr, s_idiv, s_irem, s_ladd, s_lsub, s_lmul, s_ldiv, s_lrem, s_ineg, s_i2l, s_l2i, s_i2c, s_lcmp, s_ic, s_lc, s_nul, s_str, s_il, s_ll, s_al, s_dup, s_dup2, s_pop, s_ifne, s_icne, s_ifeq, s_iflt, s_ifge, s_ifgt, s_ifle, s_iceq, s_iclt, s_icge, s_icgt, s_icle, s_ifnull, s_ifnonnull, s_is, s_ls, s_as, s_ii, s_gi, s_gl, s_gr, s_pi, s_pz, s_pl, s_pr, s_iald, s_zald, s_lald, s_aald, s_alen, s_iast, s_zast, s_last, s_iret, s_zret, s_lret, s_aret, s_vret, s_sw, s_aast, mm_sw, mm_ld, mm_s1, mm_s2, mm_kl, Value.category, va_rf, List.nil_append, List.cons_append, Option.toList, true_and, and_true, and_self, true_or, or_true, eq_self, not_true_eq_false, false_implies, true_implies, not_false_eq_true, mm_10, mm_01, false_or, or_false, Nat.left_eq_add, Nat.add_eq_left, Nat.add_left_cancel_iff, Nat.reduceEqDiff, false_and, and_false, reduceIte, mm_kd_pi, mm_ln_pi, mm_gl_pi, mm_gr_pi, mm_sz_pi, mm_gi_pi, mm_kd_pl, mm_ln_pl, mm_gi_pl, mm_gr_pl, mm_sz_pl, mm_gl_pl, mm_kd_pr, mm_ln_pr, mm_gi_pr, mm_gl_pr, mm_sz_pr, mm_gr_pr, mm_kd_pa, mm_ln_pa, mm_gl_pa, mm_gr_pa, mm_sz_pa, mm_gi_pa, W_kd_91 Hg, W_s_91 Hg, W_gr_91_2 Hg, W_gr_91_3 Hg, W_gr_91_4 Hg, W_gr_91_5 Hg, W_gr_91_6 Hg, W_gr_91_7 Hg, W_gr_91_9 Hg, W_gr_91_10 Hg, W_gr_91_12 Hg, W_gr_91_22 Hg, W_gr_91_24 Hg, W_gr_91_25 Hg, W_gr_91_27 Hg, W_gr_91_28 Hg, W_gr_91_31 Hg, W_gr_91_32 Hg, W_gr_91_33 Hg, W_gr_91_35 Hg, W_gr_91_36 Hg, W_gr_91_37 Hg, W_gr_91_41 Hg, W_gr_91_42 Hg, W_gr_91_43 Hg, W_gr_91_44 Hg, W_gr_91_45 Hg, W_gr_91_46 Hg, W_gr_91_47 Hg, W_gr_91_48 Hg, W_gr_91_49 Hg, W_gr_91_55 Hg, W_kd_97 Hg, W_s_97 Hg, W_ln_97 Hg, W_kd_99 Hg, W_s_99 Hg, W_ln_99 Hg, show ((16 : Int32) ≤ nI i) = False from eq_false (nI_ge (b := 16) (by omega) (by decide)), nI_clamp (show i < 2 ^ 31 by omega), vp_in_nI (show i < 16 by omega) (show 16 < 2 ^ 31 by decide), e99, nI_1]
    refine ih (i + 1) _ (by omega) (fx_pi ⟨rfl, by omega⟩ F) (fun j hj => ?_)
    by_cases q : j = i
    · subst q; rw [mm_gi_pi, if_pos ⟨rfl, rfl⟩]
    · rw [mm_gi_pi, if_neg (by omega)]; exact D j (by omega)
theorem sp_giveBack (H : WS h) {x1 : Int32} (k : ∀ g, fx (fun c j => (c = 93 ∧ 5 ≤ j ∧ j < 28) ∨ (c = 96 ∧ j < 368) ∨ (c = 97 ∧ j < 16) ∨ (c = 91 ∧ j = 8)) y0 h g → (∀ j, j < 23 → mm_gi g 93 (5 + j) = mm_gi h 96 (391 + j)) → (∀ j, j < 368 → mm_gi g 96 j = mm_gi h 98 j) → (∀ j, j < 16 → mm_gi g 97 j = mm_gi h 99 j) → mm_gi g 91 8 = x1 → K none g) : mm_MV q_X10_giveBack (d + 1) (0, 0) [.ref 91, .int x1] h K := by
  refine e_X10_giveBack (t_X10_giveBack_0 _ _ _ ?_)
  simp only [s_iadd, s_isub, s_imul, s_iand, s_ior, s_ixor, s_ishl, s_ishr, s_iushr, s_idiv, s_irem, s_ladd, s_lsub, s_lmul, s_ldiv, s_lrem, s_ineg, s_i2l, s_l2i, s_i2c, s_lcmp, s_ic, s_lc, s_nul, s_str, s_il, s_ll, s_al, s_dup, s_dup2, s_pop, s_ifne, s_icne, s_ifeq, s_iflt, s_ifge, s_ifgt, s_ifle, s_iceq, s_iclt, s_icge, s_icgt, s_icle, s_ifnull, s_ifnonnull, s_is, s_ls, s_as, s_ii, s_gi, s_gl, s_gr, s_pi, s_pz, s_pl, s_pr, s_iald, s_zald, s_lald, s_aald, s_alen, s_iast, s_zast, s_last, s_iret, s_zret, s_lret, s_aret, s_vret, s_sw, s_aast, mm_sw, mm_ld, mm_s1, mm_s2, mm_kl, Value.category, va_rf, List.nil_append, List.cons_append, Option.toList, true_and, and_true, and_self, true_or, or_true, eq_self, not_true_eq_false, false_implies, true_implies, not_false_eq_true, mm_10, mm_01, false_or, or_false, Nat.left_eq_add, Nat.add_eq_left, Nat.add_left_cancel_iff, Nat.reduceEqDiff, false_and, and_false, reduceIte, mm_kd_pi, mm_ln_pi, mm_gl_pi, mm_gr_pi, mm_sz_pi, mm_gi_pi, mm_kd_pl, mm_ln_pl, mm_gi_pl, mm_gr_pl, mm_sz_pl, mm_gl_pl, mm_kd_pr, mm_ln_pr, mm_gi_pr, mm_gl_pr, mm_sz_pr, mm_gr_pr, mm_kd_pa, mm_ln_pa, mm_gl_pa, mm_gr_pa, mm_sz_pa, mm_gi_pa]
  refine c_X10_giveBack_3 (bb := (0, 0)) (b := (0, 0)) (Nat.le_of_ble_eq_true rfl) ⟨rfl, rfl⟩ (W_kd_91 H) (W_s_91 H) (sp_putBack (m := 17) H (by decide) ?_)
  obtain ⟨g1, eg1⟩ : ∃ g1 : mmH, g1 = mm_pa h 93 (va_cpy (mm_gi h 96) (mm_gi h 93) (23 * 17) 5 23) := ⟨_, rfl⟩
  rw [← eg1]
  have F1 : fx (fun c j => c = 93 ∧ 5 ≤ j ∧ j < 28) y0 h g1 := by
    rw [eg1]
    exact fx_pa2 (fun j q => cpy_no (by omega)) fx_rf
  have H1 := fx_WS F1 H
  have e93 : ∀ j, j < 23 → mm_gi g1 93 (5 + j) = mm_gi h 96 (391 + j) := fun j hj => by
    rw [eg1, mm_gi_pa, if_pos rfl, cpy_at (by omega) (by omega), show 23 * 17 + (5 + j - 5) = 391 + j by omega]
  refine t_X10_giveBack_6 _ _ _ ?_
  simp only [s_iadd, s_isub, s_imul, s_iand, s_ior, s_ixor, s_ishl, s_ishr, s_iushr, s_idiv, s_irem, s_ladd, s_lsub, s_lmul, s_ldiv, s_lrem, s_ineg, s_i2l, s_l2i, s_i2c, s_lcmp, s_ic, s_lc, s_nul, s_str, s_il, s_ll, s_al, s_dup, s_dup2, s_pop, s_ifne, s_icne, s_ifeq, s_iflt, s_ifge, s_ifgt, s_ifle, s_iceq, s_iclt, s_icge, s_icgt, s_icle, s_ifnull, s_ifnonnull, s_is, s_ls, s_as, s_ii, s_gi, s_gl, s_gr, s_pi, s_pz, s_pl, s_pr, s_iald, s_zald, s_lald, s_aald, s_alen, s_iast, s_zast, s_last, s_iret, s_zret, s_lret, s_aret, s_vret, s_sw, s_aast, mm_sw, mm_ld, mm_s1, mm_s2, mm_kl, Value.category, va_rf, List.nil_append, List.cons_append, Option.toList, true_and, and_true, and_self, true_or, or_true, eq_self, not_true_eq_false, false_implies, true_implies, not_false_eq_true, mm_10, mm_01, false_or, or_false, Nat.left_eq_add, Nat.add_eq_left, Nat.add_left_cancel_iff, Nat.reduceEqDiff, false_and, and_false, reduceIte, mm_kd_pi, mm_ln_pi, mm_gl_pi, mm_gr_pi, mm_sz_pi, mm_gi_pi, mm_kd_pl, mm_ln_pl, mm_gi_pl, mm_gr_pl, mm_sz_pl, mm_gl_pl, mm_kd_pr, mm_ln_pr, mm_gi_pr, mm_gl_pr, mm_sz_pr, mm_gr_pr, mm_kd_pa, mm_ln_pa, mm_gl_pa, mm_gr_pa, mm_sz_pa, mm_gi_pa]
  refine lp_g8 H1 (fun g2 F2 D2 => ?_) 368 0 g1 rfl fx_rf (fun j hj => by omega)
  have H2 := fx_WS F2 H1
  refine lp_g35 H2 (fun g3 F3 D3 => ?_) 16 0 g2 rfl fx_rf (fun j hj => by omega)
  refine k _ (fx_pi (Or.inr (Or.inr (Or.inr ⟨rfl, rfl⟩))) (fx_tr (fx_mo (fun c j q => Or.inl q) (fun _ q => q) F1) (fx_tr (fx_mo (fun c j q => Or.inr (Or.inl q)) (fun _ q => q) F2) (fx_mo (fun c j q => Or.inr (Or.inr (Or.inl q))) (fun _ q => q) F3)))) (fun j hj => ?_) (fun j hj => ?_) (fun j hj => ?_) (by rw [mm_gi_pi, if_pos ⟨rfl, rfl⟩])
  · rw [mm_gi_pi, if_neg (by omega), F3.2.1 93 _ (by omega), F2.2.1 93 _ (by omega)]; exact e93 j hj
  · rw [mm_gi_pi, if_neg (by omega), F3.2.1 96 _ (by omega), D2 j hj, F1.2.1 98 _ (by omega)]
  · rw [mm_gi_pi, if_neg (by omega), D3 j hj, F2.2.1 99 _ (by omega), F1.2.1 99 _ (by omega)]
theorem mo_t {i : Nat} {r : Option oS} {x1 : Int32} (n12 : N ≤ 12) (hi : i < N) (wf : WFo (cl i)) (hT : ∀ D, (cl i).2.2.2.2 = some D → xT 16 D) (k1 : ∀ s', r = some s' → ∀ g, MOr A g s' → LPr g y J N cl → fx xMr yMr h0 g → s'.2.2.2.1 ≤ 1000 → ∀ v3, mm_V q_X10_orders (d + 11) (0, 0) K 140 [some (.ref 91), some (.int x1), some (.int (nI (i + 1))), v3] [] g) (k0 : r = none → ∀ g, LPr g y J N cl → WS g → fx xMr yMr h0 g → ∀ v3, mm_V q_X10_orders (d + 11) (0, 0) K 174 [some (.ref 91), some (.int x1), some (.int (nI i)), some (.int v3)] [.int (-3)] g) : ∀ m s h tm', tm' + m = (cl i).2.2.2.1 → MOr A h s → LPr h y J N cl → fx xMr yMr h0 h → s.2.2.2.1 + m ≤ 500 → ORt A (cl i) m s r → mm_V q_X10_orders (d + 11) (0, 0) K 150 [some (.ref 91), some (.int x1), some (.int (nI i)), some (.int (nI tm'))] [] h := by
  intro m
  induction m with
  | zero =>
    intro s h tm' ht M P F hb R
    obtain rfl : tm' = (cl i).2.2.2.1 := by omega
    have H := M.1.1
    obtain ⟨m0, m1, m2, m3, m4, m5⟩ := P.2.2.2.2 i hi
    refine t_X10_orders_150 _ _ _ ?_
    simp only [s_iadd, s_isub, s_imul, s_iand, s_ior, s_ixor, s_ishl, s_ishr, s_iushr, s_idiv, s_irem, s_ladd, s_lsub, s_lmul, s_ldiv, s_lrem, s_ineg, s_i2l, s_l2i, s_i2c, s_lcmp, s_ic, s_lc, s_nul, s_str, s_il, s_ll, s_al, s_dup, s_dup2, s_pop, s_ifne, s_icne, s_ifeq, s_iflt, s_ifge, s_ifgt, s_ifle, s_iceq, s_iclt, s_icge, s_icgt, s_icle, s_ifnull, s_ifnonnull, s_is, s_ls, s_as, s_ii, s_gi, s_gl, s_gr, s_pi, s_pz, s_pl, s_pr, s_iald, s_zald, s_lald, s_aald, s_alen, s_iast, s_zast, s_last, s_iret, s_zret, s_lret, s_aret, s_vret, s_sw, s_aast, mm_sw, mm_ld, mm_s1, mm_s2, mm_kl, Value.category, va_rf, List.nil_append, List.cons_append, Option.toList, true_and, and_true, and_self, true_or, or_true, eq_self, not_true_eq_false, false_implies, true_implies, not_false_eq_true, mm_10, mm_01, false_or, or_false, Nat.left_eq_add, Nat.add_eq_left, Nat.add_left_cancel_iff, Nat.reduceEqDiff, false_and, and_false, reduceIte, mm_kd_pi, mm_ln_pi, mm_gl_pi, mm_gr_pi, mm_sz_pi, mm_gi_pi, mm_kd_pl, mm_ln_pl, mm_gi_pl, mm_gr_pl, mm_sz_pl, mm_gl_pl, mm_kd_pr, mm_ln_pr, mm_gi_pr, mm_gl_pr, mm_sz_pr, mm_gr_pr, mm_kd_pa, mm_ln_pa, mm_gl_pa, mm_gr_pa, mm_sz_pa, mm_gi_pa, W_kd_91 H, W_s_91 H, W_gr_91_2 H, W_gr_91_3 H, W_gr_91_4 H, W_gr_91_5 H, W_gr_91_6 H, W_gr_91_7 H, W_gr_91_9 H, W_gr_91_10 H, W_gr_91_12 H, W_gr_91_22 H, W_gr_91_24 H, W_gr_91_25 H, W_gr_91_27 H, W_gr_91_28 H, W_gr_91_31 H, W_gr_91_32 H, W_gr_91_33 H, W_gr_91_35 H, W_gr_91_36 H, W_gr_91_37 H, W_gr_91_41 H, W_gr_91_42 H, W_gr_91_43 H, W_gr_91_44 H, W_gr_91_45 H, W_gr_91_46 H, W_gr_91_47 H, W_gr_91_48 H, W_gr_91_49 H, W_gr_91_55 H, W_kd_120 H, W_s_120 H, W_ln_120 H, show (8 : Int32) * nI i = nI (8 * i) from pk_mul 8 i, show nI (8 * i) + 7 = nI (8 * i + 7) from nI_add _ 7, nI_clamp (show 8 * i + 7 < 2 ^ 31 by omega), vp_in_nI (show 8 * i + 7 < 96 by omega) (show 96 < 2 ^ 31 by decide), m3.1, eq_true (nI_le (Nat.le_refl (cl i).2.2.2.1) (show (cl i).2.2.2.1 < 2 ^ 31 by omega)), nI_1]
    exact k1 s R h M P F M.2.2.2.1 _
  | succ m ih =>
    intro s h tm' ht M P F hb R
    have H := M.1.1
    obtain ⟨m0, m1, m2, m3, m4, m5⟩ := P.2.2.2.2 i hi
    refine t_X10_orders_150 _ _ _ ?_
    simp only [s_iadd, s_isub, s_imul, s_iand, s_ior, s_ixor, s_ishl, s_ishr, s_iushr, s_idiv, s_irem, s_ladd, s_lsub, s_lmul, s_ldiv, s_lrem, s_ineg, s_i2l, s_l2i, s_i2c, s_lcmp, s_ic, s_lc, s_nul, s_str, s_il, s_ll, s_al, s_dup, s_dup2, s_pop, s_ifne, s_icne, s_ifeq, s_iflt, s_ifge, s_ifgt, s_ifle, s_iceq, s_iclt, s_icge, s_icgt, s_icle, s_ifnull, s_ifnonnull, s_is, s_ls, s_as, s_ii, s_gi, s_gl, s_gr, s_pi, s_pz, s_pl, s_pr, s_iald, s_zald, s_lald, s_aald, s_alen, s_iast, s_zast, s_last, s_iret, s_zret, s_lret, s_aret, s_vret, s_sw, s_aast, mm_sw, mm_ld, mm_s1, mm_s2, mm_kl, Value.category, va_rf, List.nil_append, List.cons_append, Option.toList, true_and, and_true, and_self, true_or, or_true, eq_self, not_true_eq_false, false_implies, true_implies, not_false_eq_true, mm_10, mm_01, false_or, or_false, Nat.left_eq_add, Nat.add_eq_left, Nat.add_left_cancel_iff, Nat.reduceEqDiff, false_and, and_false, reduceIte, mm_kd_pi, mm_ln_pi, mm_gl_pi, mm_gr_pi, mm_sz_pi, mm_gi_pi, mm_kd_pl, mm_ln_pl, mm_gi_pl, mm_gr_pl, mm_sz_pl, mm_gl_pl, mm_kd_pr, mm_ln_pr, mm_gi_pr, mm_gl_pr, mm_sz_pr, mm_gr_pr, mm_kd_pa, mm_ln_pa, mm_gl_pa, mm_gr_pa, mm_sz_pa, mm_gi_pa, W_kd_91 H, W_s_91 H, W_gr_91_2 H, W_gr_91_3 H, W_gr_91_4 H, W_gr_91_5 H, W_gr_91_6 H, W_gr_91_7 H, W_gr_91_9 H, W_gr_91_10 H, W_gr_91_12 H, W_gr_91_22 H, W_gr_91_24 H, W_gr_91_25 H, W_gr_91_27 H, W_gr_91_28 H, W_gr_91_31 H, W_gr_91_32 H, W_gr_91_33 H, W_gr_91_35 H, W_gr_91_36 H, W_gr_91_37 H, W_gr_91_41 H, W_gr_91_42 H, W_gr_91_43 H, W_gr_91_44 H, W_gr_91_45 H, W_gr_91_46 H, W_gr_91_47 H, W_gr_91_48 H, W_gr_91_49 H, W_gr_91_55 H, W_kd_120 H, W_s_120 H, W_ln_120 H, show (8 : Int32) * nI i = nI (8 * i) from pk_mul 8 i, show nI (8 * i) + 7 = nI (8 * i + 7) from nI_add _ 7, nI_clamp (show 8 * i + 7 < 2 ^ 31 by omega), vp_in_nI (show 8 * i + 7 < 96 by omega) (show 96 < 2 ^ 31 by decide), m3.1, eq_false (nI_ge (show tm' < (cl i).2.2.2.1 by omega) (show (cl i).2.2.2.1 < 2 ^ 31 by omega))]
    have lp : ∀ g, fx xMr yMr h g → LPr g y J N cl := fun g F' => LPr_cg (fun c j q => F'.2.1 c j (by unfold xMr xMa xrw xL xrm; omega)) P
    rcases R with ⟨R, er⟩ | ⟨s', R, R2⟩
    · refine c_X10_orders_171 (bb := (0, 0)) (b := (0, 0)) (Nat.le_of_ble_eq_true rfl) ⟨rfl, rfl⟩ (W_kd_91 H) (W_s_91 H) (ms_run (d := d) R M P hi wf hT (by omega) (fun s' e => by cases e) (fun _ g F' => ?_))
      exact k0 er g (lp g F') (fx_WS F' H) (fx_tr F F') _
    · refine c_X10_orders_171 (bb := (0, 0)) (b := (0, 0)) (Nat.le_of_ble_eq_true rfl) ⟨rfl, rfl⟩ (W_kd_91 H) (W_s_91 H) (ms_run (d := d) R M P hi wf hT (by omega) (fun s2 e g M' F' => ?_) (fun e => by cases e))
      cases e
      refine t_X10_orders_174 _ _ _ ?_
      simp only [s_iadd, s_isub, s_imul, s_iand, s_ior, s_ixor, s_ishl, s_ishr, s_iushr, s_idiv, s_irem, s_ladd, s_lsub, s_lmul, s_ldiv, s_lrem, s_ineg, s_i2l, s_l2i, s_i2c, s_lcmp, s_ic, s_lc, s_nul, s_str, s_il, s_ll, s_al, s_dup, s_dup2, s_pop, s_ifne, s_icne, s_ifeq, s_iflt, s_ifge, s_ifgt, s_ifle, s_iceq, s_iclt, s_icge, s_icgt, s_icle, s_ifnull, s_ifnonnull, s_is, s_ls, s_as, s_ii, s_gi, s_gl, s_gr, s_pi, s_pz, s_pl, s_pr, s_iald, s_zald, s_lald, s_aald, s_alen, s_iast, s_zast, s_last, s_iret, s_zret, s_lret, s_aret, s_vret, s_sw, s_aast, mm_sw, mm_ld, mm_s1, mm_s2, mm_kl, Value.category, va_rf, List.nil_append, List.cons_append, Option.toList, true_and, and_true, and_self, true_or, or_true, eq_self, not_true_eq_false, false_implies, true_implies, not_false_eq_true, mm_10, mm_01, false_or, or_false, Nat.left_eq_add, Nat.add_eq_left, Nat.add_left_cancel_iff, Nat.reduceEqDiff, false_and, and_false, reduceIte, mm_kd_pi, mm_ln_pi, mm_gl_pi, mm_gr_pi, mm_sz_pi, mm_gi_pi, mm_kd_pl, mm_ln_pl, mm_gi_pl, mm_gr_pl, mm_sz_pl, mm_gl_pl, mm_kd_pr, mm_ln_pr, mm_gi_pr, mm_gl_pr, mm_sz_pr, mm_gr_pr, mm_kd_pa, mm_ln_pa, mm_gl_pa, mm_gr_pa, mm_sz_pa, mm_gi_pa, show ((0 : Int32) ≤ 0) = True by decide, nI_1]
      refine ih s' g (tm' + 1) (by omega) M' (lp g F') (fx_tr F F') ?_ R2
      -- done grows by one at most
      have : s'.2.2.2.1 ≤ s.2.2.2.1 + 1 := by
        rcases R with ⟨_, e⟩ | ⟨_, ⟨_, _, e⟩ | ⟨_, _, _, ⟨_, e⟩ | ⟨_, _, _, e⟩⟩⟩
        · cases e; omega
        · cases e
        · cases e
        · cases e; exact Nat.le_refl _
      omega
theorem ort_dn {x : cDt} : ∀ m s s', ORt A x m s (some s') → s'.2.2.2.1 ≤ s.2.2.2.1 + m
  | 0, s, s', R => by cases R; omega
  | m + 1, s, s', R => by
    rcases R with ⟨_, e⟩ | ⟨s2, R, R2⟩
    · cases e
    · have a := ort_dn m s2 s' R2
      have : s2.2.2.2.1 ≤ s.2.2.2.1 + 1 := by
        rcases R with ⟨_, e⟩ | ⟨_, ⟨_, _, e⟩ | ⟨_, _, _, ⟨_, e⟩ | ⟨_, _, _, e⟩⟩⟩
        · cases e; omega
        · cases e
        · cases e
        · cases e; exact Nat.le_refl _
      omega
theorem mo_c {r : Nat ⊕ oS} {x1 : Int32} (n12 : N ≤ 12) (wf : ∀ i, i < N → WFo (cl i)) (hT : ∀ i, i < N → ∀ D, (cl i).2.2.2.2 = some D → xT 16 D) (k1 : ∀ s', r = .inr s' → ∀ g, MOr A g s' → fx xMr yMr h0 g → K (some (.int (nI s'.2.2.2.1))) (mm_pi g 91 1 0)) (k0 : ∀ i, r = .inl i → i < N → ∀ g, WS g → fx xMr yMr h0 g → ∀ v3, mm_V q_X10_orders (d + 11) (0, 0) K 174 [some (.ref 91), some (.int x1), some (.int (nI i)), some (.int v3)] [.int (-3)] g) : ∀ k i s h v3, i + k = N → MOr A h s → LPr h y J N cl → fx xMr yMr h0 h → s.2.2.2.1 + 20 * k ≤ 240 → ORc A cl k i s r → mm_V q_X10_orders (d + 11) (0, 0) K 140 [some (.ref 91), some (.int x1), some (.int (nI i)), v3] [] h := by
  intro k
  induction k with
  | zero =>
    intro i s h v3 hi M P F hb R
    obtain rfl : i = N := by omega
    have H := M.1.1
    have d1 := M.2.2.2.1
    refine t_X10_orders_140 _ _ _ ?_
    simp only [s_iadd, s_isub, s_imul, s_iand, s_ior, s_ixor, s_ishl, s_ishr, s_iushr, s_idiv, s_irem, s_ladd, s_lsub, s_lmul, s_ldiv, s_lrem, s_ineg, s_i2l, s_l2i, s_i2c, s_lcmp, s_ic, s_lc, s_nul, s_str, s_il, s_ll, s_al, s_dup, s_dup2, s_pop, s_ifne, s_icne, s_ifeq, s_iflt, s_ifge, s_ifgt, s_ifle, s_iceq, s_iclt, s_icge, s_icgt, s_icle, s_ifnull, s_ifnonnull, s_is, s_ls, s_as, s_ii, s_gi, s_gl, s_gr, s_pi, s_pz, s_pl, s_pr, s_iald, s_zald, s_lald, s_aald, s_alen, s_iast, s_zast, s_last, s_iret, s_zret, s_lret, s_aret, s_vret, s_sw, s_aast, mm_sw, mm_ld, mm_s1, mm_s2, mm_kl, Value.category, va_rf, List.nil_append, List.cons_append, Option.toList, true_and, and_true, and_self, true_or, or_true, eq_self, not_true_eq_false, false_implies, true_implies, not_false_eq_true, mm_10, mm_01, false_or, or_false, Nat.left_eq_add, Nat.add_eq_left, Nat.add_left_cancel_iff, Nat.reduceEqDiff, false_and, and_false, reduceIte, mm_kd_pi, mm_ln_pi, mm_gl_pi, mm_gr_pi, mm_sz_pi, mm_gi_pi, mm_kd_pl, mm_ln_pl, mm_gi_pl, mm_gr_pl, mm_sz_pl, mm_gl_pl, mm_kd_pr, mm_ln_pr, mm_gi_pr, mm_gl_pr, mm_sz_pr, mm_gr_pr, mm_kd_pa, mm_ln_pa, mm_gl_pa, mm_gr_pa, mm_sz_pa, mm_gi_pa, W_kd_91 H, W_s_91 H, W_gr_91_2 H, W_gr_91_3 H, W_gr_91_4 H, W_gr_91_5 H, W_gr_91_6 H, W_gr_91_7 H, W_gr_91_9 H, W_gr_91_10 H, W_gr_91_12 H, W_gr_91_22 H, W_gr_91_24 H, W_gr_91_25 H, W_gr_91_27 H, W_gr_91_28 H, W_gr_91_31 H, W_gr_91_32 H, W_gr_91_33 H, W_gr_91_35 H, W_gr_91_36 H, W_gr_91_37 H, W_gr_91_41 H, W_gr_91_42 H, W_gr_91_43 H, W_gr_91_44 H, W_gr_91_45 H, W_gr_91_46 H, W_gr_91_47 H, W_gr_91_48 H, W_gr_91_49 H, W_gr_91_55 H, P.1.2.2.1, eq_true (nI_le (Nat.le_refl i) (show i < 2 ^ 31 by omega)), M.2.1]
    refine c_X10_orders_211 (bb := (0, 0)) (b := (0, 0)) (Nat.le_of_ble_eq_true rfl) ⟨rfl, rfl⟩ (W_kd_91 H) (W_s_91 H) (sp_tell_ok H (nI_pos' (by omega)) ?_)
    refine t_X10_orders_214 _ _ _ ?_
    simp only [s_iadd, s_isub, s_imul, s_iand, s_ior, s_ixor, s_ishl, s_ishr, s_iushr, s_idiv, s_irem, s_ladd, s_lsub, s_lmul, s_ldiv, s_lrem, s_ineg, s_i2l, s_l2i, s_i2c, s_lcmp, s_ic, s_lc, s_nul, s_str, s_il, s_ll, s_al, s_dup, s_dup2, s_pop, s_ifne, s_icne, s_ifeq, s_iflt, s_ifge, s_ifgt, s_ifle, s_iceq, s_iclt, s_icge, s_icgt, s_icle, s_ifnull, s_ifnonnull, s_is, s_ls, s_as, s_ii, s_gi, s_gl, s_gr, s_pi, s_pz, s_pl, s_pr, s_iald, s_zald, s_lald, s_aald, s_alen, s_iast, s_zast, s_last, s_iret, s_zret, s_lret, s_aret, s_vret, s_sw, s_aast, mm_sw, mm_ld, mm_s1, mm_s2, mm_kl, Value.category, va_rf, List.nil_append, List.cons_append, Option.toList, true_and, and_true, and_self, true_or, or_true, eq_self, not_true_eq_false, false_implies, true_implies, not_false_eq_true, mm_10, mm_01, false_or, or_false, Nat.left_eq_add, Nat.add_eq_left, Nat.add_left_cancel_iff, Nat.reduceEqDiff, false_and, and_false, reduceIte, mm_kd_pi, mm_ln_pi, mm_gl_pi, mm_gr_pi, mm_sz_pi, mm_gi_pi, mm_kd_pl, mm_ln_pl, mm_gi_pl, mm_gr_pl, mm_sz_pl, mm_gl_pl, mm_kd_pr, mm_ln_pr, mm_gi_pr, mm_gl_pr, mm_sz_pr, mm_gr_pr, mm_kd_pa, mm_ln_pa, mm_gl_pa, mm_gr_pa, mm_sz_pa, mm_gi_pa]
    exact k1 s R h M F
  | succ k ih =>
    intro i s h v3 hi M P F hb R
    have H := M.1.1
    have t20 := (P.2.2.2.2 i (by omega)).2.2.2.1.2.2
    refine t_X10_orders_140 _ _ _ ?_
    simp only [s_iadd, s_isub, s_imul, s_iand, s_ior, s_ixor, s_ishl, s_ishr, s_iushr, s_idiv, s_irem, s_ladd, s_lsub, s_lmul, s_ldiv, s_lrem, s_ineg, s_i2l, s_l2i, s_i2c, s_lcmp, s_ic, s_lc, s_nul, s_str, s_il, s_ll, s_al, s_dup, s_dup2, s_pop, s_ifne, s_icne, s_ifeq, s_iflt, s_ifge, s_ifgt, s_ifle, s_iceq, s_iclt, s_icge, s_icgt, s_icle, s_ifnull, s_ifnonnull, s_is, s_ls, s_as, s_ii, s_gi, s_gl, s_gr, s_pi, s_pz, s_pl, s_pr, s_iald, s_zald, s_lald, s_aald, s_alen, s_iast, s_zast, s_last, s_iret, s_zret, s_lret, s_aret, s_vret, s_sw, s_aast, mm_sw, mm_ld, mm_s1, mm_s2, mm_kl, Value.category, va_rf, List.nil_append, List.cons_append, Option.toList, true_and, and_true, and_self, true_or, or_true, eq_self, not_true_eq_false, false_implies, true_implies, not_false_eq_true, mm_10, mm_01, false_or, or_false, Nat.left_eq_add, Nat.add_eq_left, Nat.add_left_cancel_iff, Nat.reduceEqDiff, false_and, and_false, reduceIte, mm_kd_pi, mm_ln_pi, mm_gl_pi, mm_gr_pi, mm_sz_pi, mm_gi_pi, mm_kd_pl, mm_ln_pl, mm_gi_pl, mm_gr_pl, mm_sz_pl, mm_gl_pl, mm_kd_pr, mm_ln_pr, mm_gi_pr, mm_gl_pr, mm_sz_pr, mm_gr_pr, mm_kd_pa, mm_ln_pa, mm_gl_pa, mm_gr_pa, mm_sz_pa, mm_gi_pa, W_kd_91 H, W_s_91 H, W_gr_91_2 H, W_gr_91_3 H, W_gr_91_4 H, W_gr_91_5 H, W_gr_91_6 H, W_gr_91_7 H, W_gr_91_9 H, W_gr_91_10 H, W_gr_91_12 H, W_gr_91_22 H, W_gr_91_24 H, W_gr_91_25 H, W_gr_91_27 H, W_gr_91_28 H, W_gr_91_31 H, W_gr_91_32 H, W_gr_91_33 H, W_gr_91_35 H, W_gr_91_36 H, W_gr_91_37 H, W_gr_91_41 H, W_gr_91_42 H, W_gr_91_43 H, W_gr_91_44 H, W_gr_91_45 H, W_gr_91_46 H, W_gr_91_47 H, W_gr_91_48 H, W_gr_91_49 H, W_gr_91_55 H, P.1.2.2.1, eq_false (nI_ge (show i < N by omega) (show N < 2 ^ 31 by omega))]
    rcases R with ⟨R, er⟩ | ⟨s', R, R2⟩
    · exact mo_t (r := none) n12 (by omega) (wf i (by omega)) (hT i (by omega)) (fun s' e => by cases e) (fun _ g P' H' F' v3' => k0 i er (by omega) g H' F' v3') (cl i).2.2.2.1 s h 0 (by omega) M P F (by omega) R
    · have dn := ort_dn _ _ _ R
      refine mo_t (r := some s') n12 (by omega) (wf i (by omega)) (hT i (by omega)) (fun s2 e g M' P' F' _ v3' => ?_) (fun e => by cases e) (cl i).2.2.2.1 s h 0 (by omega) M P F (by omega) R
      cases e
      exact ih (i + 1) s' g v3' (by omega) M' P' F' (by omega) R2
end
