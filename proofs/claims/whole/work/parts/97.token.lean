/-! the token: its row -/
def vlN (kd v x : Nat) : Nat := if kd = 2 then min 1001 (v * 10 + x - 48) else v
/-- place and value behind the row of one kind -/
def rwF (t : Nat → Nat) (kd : Nat) : Nat → Nat → Nat → Nat × Nat
  | 0, p, v => (p, v)
  | m + 1, p, v => if kO (t p) = kd then rwF t kd m (p + 1) (vlN kd v (t p)) else (p, v)
theorem kO_2 {x : Nat} (h : kO x = 2) : 48 ≤ x ∧ x ≤ 57 := by
  unfold kO at h
  split at h
  · omega
  · split at h <;> omega
section
variable {d : Nat} {h : mmH} {K : Option Value → mmH → Prop} {n : Nat} {t : Nat → Nat}
def x57 (c j : Nat) : Prop := c = 57 ∧ j = 4
theorem lp_tkrow {kd : Nat} (H : WS h) (T : TPE h n t) (hk : kd = 1 ∨ kd = 2) (k1 : mm_gi h 57 1 = nI kd) : ∀ m p v g, p + m = n → v ≤ 1001 → fx x57 y0 h g → mm_gi g 57 4 = nI v → (∀ g', fx x57 y0 h g' → mm_gi g' 57 4 = nI (rwF t kd m p v).2 → mm_V q_X7_advance (d + 1) (0, 0) K 233 [some (.ref 57), some (.int (nI (rwF t kd m p v).1)), some (.int 1)] [] g') → mm_V q_X7_advance (d + 1) (0, 0) K 155 [some (.ref 57), some (.int (nI p)), some (.int 1)] [] g := by
  obtain ⟨n4, e1, et⟩ := T
  intro m
  induction m with
  | zero =>
    intro p v g hp hv F e4 k
    obtain rfl : p = n := by omega
    have Hg := fx_WS F H
    have e1g : mm_gi g 54 1 = nI p := (F.2.1 54 1 (by unfold x57; omega)).trans e1
    refine t_X7_advance_155 _ _ _ ?_
    simp only [s_iadd, s_isub, s_imul, s_iand, s_ior, s_ixor, s_ishl, s_ishr, s_iushr, s_idiv, s_irem, s_ladd, s_lsub, s_lmul, s_ldiv, s_lrem, s_ineg, s_i2l, s_l2i, s_i2c, s_lcmp, s_ic, s_lc, s_nul, s_str, s_il, s_ll, s_al, s_dup, s_dup2, s_pop, s_ifne, s_icne, s_ifeq, s_iflt, s_ifge, s_ifgt, s_ifle, s_iceq, s_iclt, s_icge, s_icgt, s_icle, s_ifnull, s_ifnonnull, s_is, s_ls, s_as, s_ii, s_gi, s_gl, s_gr, s_pi, s_pz, s_pl, s_pr, s_iald, s_zald, s_lald, s_aald, s_alen, s_iast, s_zast, s_last, s_iret, s_zret, s_lret, s_aret, s_vret, s_sw, s_aast, mm_sw, mm_ld, mm_s1, mm_s2, mm_kl, Value.category, va_rf, List.nil_append, List.cons_append, Option.toList, true_and, and_true, and_self, true_or, or_true, eq_self, not_true_eq_false, false_implies, true_implies, not_false_eq_true, mm_10, mm_01, false_or, or_false, Nat.left_eq_add, Nat.add_eq_left, Nat.add_left_cancel_iff, Nat.reduceEqDiff, false_and, and_false, reduceIte, mm_kd_pi, mm_ln_pi, mm_gl_pi, mm_gr_pi, mm_sz_pi, mm_gi_pi, mm_kd_pl, mm_ln_pl, mm_gi_pl, mm_gr_pl, mm_sz_pl, mm_gl_pl, mm_kd_pr, mm_ln_pr, mm_gi_pr, mm_gl_pr, mm_sz_pr, mm_gr_pr, mm_kd_pa, mm_ln_pa, mm_gl_pa, mm_gr_pa, mm_sz_pa, mm_gi_pa, W_kd_57 Hg, W_s_57 Hg, W_gr_57_0 Hg, W_kd_54 Hg, W_s_54 Hg, W_gr_54_0 Hg, e1g, eq_true (nI_le (Nat.le_refl p) (show p < 2 ^ 31 by omega)), show ((1 : Int32) = 0) = False by decide]
    exact k g F e4
  | succ m ih =>
    intro p v g hp hv F e4 k
    have Hg := fx_WS F H
    have e1g : mm_gi g 54 1 = nI n := (F.2.1 54 1 (by unfold x57; omega)).trans e1
    have k1g : mm_gi g 57 1 = nI kd := (F.2.1 57 1 (by unfold x57; omega)).trans k1
    obtain ⟨t1, t2⟩ := et p (by omega)
    have t2g : mm_gi g 55 p = nI (t p) := (F.2.1 55 p (by unfold x57; omega)).trans t2
    refine t_X7_advance_155 _ _ _ ?_
    simp only [s_iadd, s_isub, s_imul, s_iand, s_ior, s_ixor, s_ishl, s_ishr, s_iushr, s_idiv, s_irem, s_ladd, s_lsub, s_lmul, s_ldiv, s_lrem, s_ineg, s_i2l, s_l2i, s_i2c, s_lcmp, s_ic, s_lc, s_nul, s_str, s_il, s_ll, s_al, s_dup, s_dup2, s_pop, s_ifne, s_icne, s_ifeq, s_iflt, s_ifge, s_ifgt, s_ifle, s_iceq, s_iclt, s_icge, s_icgt, s_icle, s_ifnull, s_ifnonnull, s_is, s_ls, s_as, s_ii, s_gi, s_gl, s_gr, s_pi, s_pz, s_pl, s_pr, s_iald, s_zald, s_lald, s_aald, s_alen, s_iast, s_zast, s_last, s_iret, s_zret, s_lret, s_aret, s_vret, s_sw, s_aast, mm_sw, mm_ld, mm_s1, mm_s2, mm_kl, Value.category, va_rf, List.nil_append, List.cons_append, Option.toList, true_and, and_true, and_self, true_or, or_true, eq_self, not_true_eq_false, false_implies, true_implies, not_false_eq_true, mm_10, mm_01, false_or, or_false, Nat.left_eq_add, Nat.add_eq_left, Nat.add_left_cancel_iff, Nat.reduceEqDiff, false_and, and_false, reduceIte, mm_kd_pi, mm_ln_pi, mm_gl_pi, mm_gr_pi, mm_sz_pi, mm_gi_pi, mm_kd_pl, mm_ln_pl, mm_gi_pl, mm_gr_pl, mm_sz_pl, mm_gl_pl, mm_kd_pr, mm_ln_pr, mm_gi_pr, mm_gl_pr, mm_sz_pr, mm_gr_pr, mm_kd_pa, mm_ln_pa, mm_gl_pa, mm_gr_pa, mm_sz_pa, mm_gi_pa, W_kd_57 Hg, W_s_57 Hg, W_gr_57_0 Hg, W_kd_54 Hg, W_s_54 Hg, W_gr_54_0 Hg, W_kd_55 Hg, W_s_55 Hg, W_ln_55 Hg, e1g, eq_false (nI_ge (show p < n by omega) (show n < 2 ^ 31 by omega)), show ((1 : Int32) = 0) = False by decide, nI_clamp (show p < 2 ^ 31 by omega), vp_in_nI (show p < 400 by omega) (show 400 < 2 ^ 31 by decide), t2g]
    refine c_X7_advance_179 (bb := (0, 0)) (b := (0, 0)) (Nat.le_of_ble_eq_true rfl) ⟨rfl, rfl⟩ (sp_kindOf t1 ?_)
    have ko : kO (t p) ≤ 3 := by unfold kO; split <;> (try split) <;> omega
    refine t_X7_advance_182 _ _ _ ?_
    by_cases w : kO (t p) = kd
    · rw [rwF, if_pos w] at k
      have nx : ∀ g', fx x57 y0 h g' → mm_gi g' 57 4 = nI (vlN kd v (t p)) → mm_V q_X7_advance (d + 1) (0, 0) K 227 [some (.ref 57), some (.int (nI p)), some (.int 1)] [] g' := by
        intro g' F' e'
        refine t_X7_advance_227 _ _ _ ?_
        simp only [s_iadd, s_isub, s_imul, s_iand, s_ior, s_ixor, s_ishl, s_ishr, s_iushr, s_idiv, s_irem, s_ladd, s_lsub, s_lmul, s_ldiv, s_lrem, s_ineg, s_i2l, s_l2i, s_i2c, s_lcmp, s_ic, s_lc, s_nul, s_str, s_il, s_ll, s_al, s_dup, s_dup2, s_pop, s_ifne, s_icne, s_ifeq, s_iflt, s_ifge, s_ifgt, s_ifle, s_iceq, s_iclt, s_icge, s_icgt, s_icle, s_ifnull, s_ifnonnull, s_is, s_ls, s_as, s_ii, s_gi, s_gl, s_gr, s_pi, s_pz, s_pl, s_pr, s_iald, s_zald, s_lald, s_aald, s_alen, s_iast, s_zast, s_last, s_iret, s_zret, s_lret, s_aret, s_vret, s_sw, s_aast, mm_sw, mm_ld, mm_s1, mm_s2, mm_kl, Value.category, va_rf, List.nil_append, List.cons_append, Option.toList, true_and, and_true, and_self, true_or, or_true, eq_self, not_true_eq_false, false_implies, true_implies, not_false_eq_true, mm_10, mm_01, false_or, or_false, Nat.left_eq_add, Nat.add_eq_left, Nat.add_left_cancel_iff, Nat.reduceEqDiff, false_and, and_false, reduceIte, mm_kd_pi, mm_ln_pi, mm_gl_pi, mm_gr_pi, mm_sz_pi, mm_gi_pi, mm_kd_pl, mm_ln_pl, mm_gi_pl, mm_gr_pl, mm_sz_pl, mm_gl_pl, mm_kd_pr, mm_ln_pr, mm_gi_pr, mm_gl_pr, mm_sz_pr, mm_gr_pr, mm_kd_pa, mm_ln_pa, mm_gl_pa, mm_gr_pa, mm_sz_pa, mm_gi_pa, nI_1]
        exact ih (p + 1) (vlN kd v (t p)) g' (by omega) (by unfold vlN; split <;> omega) F' e' k
      rcases hk with rfl | rfl
      · simp only [s_iadd, s_isub, s_imul, s_iand, s_ior, s_ixor, s_ishl, s_ishr, s_iushr, s_idiv, s_irem, s_ladd, s_lsub, s_lmul, s_ldiv, s_lrem, s_ineg, s_i2l, s_l2i, s_i2c, s_lcmp, s_ic, s_lc, s_nul, s_str, s_il, s_ll, s_al, s_dup, s_dup2, s_pop, s_ifne, s_icne, s_ifeq, s_iflt, s_ifge, s_ifgt, s_ifle, s_iceq, s_iclt, s_icge, s_icgt, s_icle, s_ifnull, s_ifnonnull, s_is, s_ls, s_as, s_ii, s_gi, s_gl, s_gr, s_pi, s_pz, s_pl, s_pr, s_iald, s_zald, s_lald, s_aald, s_alen, s_iast, s_zast, s_last, s_iret, s_zret, s_lret, s_aret, s_vret, s_sw, s_aast, mm_sw, mm_ld, mm_s1, mm_s2, mm_kl, Value.category, va_rf, List.nil_append, List.cons_append, Option.toList, true_and, and_true, and_self, true_or, or_true, eq_self, not_true_eq_false, false_implies, true_implies, not_false_eq_true, mm_10, mm_01, false_or, or_false, Nat.left_eq_add, Nat.add_eq_left, Nat.add_left_cancel_iff, Nat.reduceEqDiff, false_and, and_false, reduceIte, mm_kd_pi, mm_ln_pi, mm_gl_pi, mm_gr_pi, mm_sz_pi, mm_gi_pi, mm_kd_pl, mm_ln_pl, mm_gi_pl, mm_gr_pl, mm_sz_pl, mm_gl_pl, mm_kd_pr, mm_ln_pr, mm_gi_pr, mm_gl_pr, mm_sz_pr, mm_gr_pr, mm_kd_pa, mm_ln_pa, mm_gl_pa, mm_gr_pa, mm_sz_pa, mm_gi_pa, W_kd_57 Hg, W_s_57 Hg, W_gr_57_0 Hg, k1g, w, show (nI 1 = (2 : Int32)) = False by decide]
        exact nx g F (by rw [e4, vlN, if_neg (by decide)])
      · have dg := kO_2 w
        simp only [s_iadd, s_isub, s_imul, s_iand, s_ior, s_ixor, s_ishl, s_ishr, s_iushr, s_idiv, s_irem, s_ladd, s_lsub, s_lmul, s_ldiv, s_lrem, s_ineg, s_i2l, s_l2i, s_i2c, s_lcmp, s_ic, s_lc, s_nul, s_str, s_il, s_ll, s_al, s_dup, s_dup2, s_pop, s_ifne, s_icne, s_ifeq, s_iflt, s_ifge, s_ifgt, s_ifle, s_iceq, s_iclt, s_icge, s_icgt, s_icle, s_ifnull, s_ifnonnull, s_is, s_ls, s_as, s_ii, s_gi, s_gl, s_gr, s_pi, s_pz, s_pl, s_pr, s_iald, s_zald, s_lald, s_aald, s_alen, s_iast, s_zast, s_last, s_iret, s_zret, s_lret, s_aret, s_vret, s_sw, s_aast, mm_sw, mm_ld, mm_s1, mm_s2, mm_kl, Value.category, va_rf, List.nil_append, List.cons_append, Option.toList, true_and, and_true, and_self, true_or, or_true, eq_self, not_true_eq_false, false_implies, true_implies, not_false_eq_true, mm_10, mm_01, false_or, or_false, Nat.left_eq_add, Nat.add_eq_left, Nat.add_left_cancel_iff, Nat.reduceEqDiff, false_and, and_false, reduceIte, mm_kd_pi, mm_ln_pi, mm_gl_pi, mm_gr_pi, mm_sz_pi, mm_gi_pi, mm_kd_pl, mm_ln_pl, mm_gi_pl, mm_gr_pl, mm_sz_pl, mm_gl_pl, mm_kd_pr, mm_ln_pr, mm_gi_pr, mm_gl_pr, mm_sz_pr, mm_gr_pr, mm_kd_pa, mm_ln_pa, mm_gl_pa, mm_gr_pa, mm_sz_pa, mm_gi_pa, W_kd_57 Hg, W_s_57 Hg, W_gr_57_0 Hg, W_kd_54 Hg, W_s_54 Hg, W_gr_54_0 Hg, W_kd_55 Hg, W_s_55 Hg, W_ln_55 Hg, k1g, w, show (nI 2 = (2 : Int32)) = True by decide, e4, nI_clamp (show p < 2 ^ 31 by omega), vp_in_nI (show p < 400 by omega) (show 400 < 2 ^ 31 by decide), t2g]
        refine c_X7_advance_221 (st := [.ref 57]) (Nat.le_of_ble_eq_true rfl) ?_
        have ev : nI v * 10 + nI (t p) - 48 = nI (v * 10 + t p - 48) := by
          rw [show (10 : Int32) = nI 10 from rfl, pk_mul, nI_add, show (48 : Int32) = nI 48 from rfl, pk_sub (by omega)]
        have em : (if nI v * 10 + nI (t p) - 48 < 1001 then nI v * 10 + nI (t p) - 48 else 1001) = nI (vlN 2 v (t p)) := by
          rw [ev, vlN, if_pos rfl]
          by_cases u : v * 10 + t p - 48 < 1001
          · rw [if_pos (show nI (v * 10 + t p - 48) < 1001 from nI_lt (b := 1001) u (by decide)), Nat.min_eq_right (by omega)]
          · rw [if_neg (show ¬ nI (v * 10 + t p - 48) < 1001 from nI_nlt (b := 1001) (by omega) (by omega)), Nat.min_eq_left (by omega)]; rfl
        rw [em]
        refine t_X7_advance_224 _ _ _ ?_
        simp only [s_iadd, s_isub, s_imul, s_iand, s_ior, s_ixor, s_ishl, s_ishr, s_iushr, s_idiv, s_irem, s_ladd, s_lsub, s_lmul, s_ldiv, s_lrem, s_ineg, s_i2l, s_l2i, s_i2c, s_lcmp, s_ic, s_lc, s_nul, s_str, s_il, s_ll, s_al, s_dup, s_dup2, s_pop, s_ifne, s_icne, s_ifeq, s_iflt, s_ifge, s_ifgt, s_ifle, s_iceq, s_iclt, s_icge, s_icgt, s_icle, s_ifnull, s_ifnonnull, s_is, s_ls, s_as, s_ii, s_gi, s_gl, s_gr, s_pi, s_pz, s_pl, s_pr, s_iald, s_zald, s_lald, s_aald, s_alen, s_iast, s_zast, s_last, s_iret, s_zret, s_lret, s_aret, s_vret, s_sw, s_aast, mm_sw, mm_ld, mm_s1, mm_s2, mm_kl, Value.category, va_rf, List.nil_append, List.cons_append, Option.toList, true_and, and_true, and_self, true_or, or_true, eq_self, not_true_eq_false, false_implies, true_implies, not_false_eq_true, mm_10, mm_01, false_or, or_false, Nat.left_eq_add, Nat.add_eq_left, Nat.add_left_cancel_iff, Nat.reduceEqDiff, false_and, and_false, reduceIte, mm_kd_pi, mm_ln_pi, mm_gl_pi, mm_gr_pi, mm_sz_pi, mm_gi_pi, mm_kd_pl, mm_ln_pl, mm_gi_pl, mm_gr_pl, mm_sz_pl, mm_gl_pl, mm_kd_pr, mm_ln_pr, mm_gi_pr, mm_gl_pr, mm_sz_pr, mm_gr_pr, mm_kd_pa, mm_ln_pa, mm_gl_pa, mm_gr_pa, mm_sz_pa, mm_gi_pa, W_kd_57 Hg, W_s_57 Hg, W_gr_57_0 Hg]
        exact nx _ (fx_pi ⟨rfl, rfl⟩ F) (by rw [mm_gi_pi, if_pos ⟨rfl, rfl⟩])
    · rw [rwF, if_neg w] at k
      simp only [s_iadd, s_isub, s_imul, s_iand, s_ior, s_ixor, s_ishl, s_ishr, s_iushr, s_idiv, s_irem, s_ladd, s_lsub, s_lmul, s_ldiv, s_lrem, s_ineg, s_i2l, s_l2i, s_i2c, s_lcmp, s_ic, s_lc, s_nul, s_str, s_il, s_ll, s_al, s_dup, s_dup2, s_pop, s_ifne, s_icne, s_ifeq, s_iflt, s_ifge, s_ifgt, s_ifle, s_iceq, s_iclt, s_icge, s_icgt, s_icle, s_ifnull, s_ifnonnull, s_is, s_ls, s_as, s_ii, s_gi, s_gl, s_gr, s_pi, s_pz, s_pl, s_pr, s_iald, s_zald, s_lald, s_aald, s_alen, s_iast, s_zast, s_last, s_iret, s_zret, s_lret, s_aret, s_vret, s_sw, s_aast, mm_sw, mm_ld, mm_s1, mm_s2, mm_kl, Value.category, va_rf, List.nil_append, List.cons_append, Option.toList, true_and, and_true, and_self, true_or, or_true, eq_self, not_true_eq_false, false_implies, true_implies, not_false_eq_true, mm_10, mm_01, false_or, or_false, Nat.left_eq_add, Nat.add_eq_left, Nat.add_left_cancel_iff, Nat.reduceEqDiff, false_and, and_false, reduceIte, mm_kd_pi, mm_ln_pi, mm_gl_pi, mm_gr_pi, mm_sz_pi, mm_gi_pi, mm_kd_pl, mm_ln_pl, mm_gi_pl, mm_gr_pl, mm_sz_pl, mm_gl_pl, mm_kd_pr, mm_ln_pr, mm_gi_pr, mm_gl_pr, mm_sz_pr, mm_gr_pr, mm_kd_pa, mm_ln_pa, mm_gl_pa, mm_gr_pa, mm_sz_pa, mm_gi_pa, W_kd_57 Hg, W_s_57 Hg, W_gr_57_0 Hg, k1g, show (nI (kO (t p)) = nI kd) = False from eq_false (fun q => w ((nI_eq (by omega) (by omega)).mp q))]
      exact k g F e4
end
