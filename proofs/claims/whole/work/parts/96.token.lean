/-! the token: the blanks ahead of it -/
def TPE (h : mmH) (n : Nat) (t : Nat → Nat) : Prop := n ≤ 400 ∧ mm_gi h 54 1 = nI n ∧ ∀ i, i < n → t i < 256 ∧ mm_gi h 55 i = nI (t i)
/-- the first place from p on that is no blank -/
def bkF (t : Nat → Nat) : Nat → Nat → Nat
  | 0, p => p
  | m + 1, p => if t p = 32 then bkF t m (p + 1) else p
theorem bkF_le {t : Nat → Nat} : ∀ m p, p ≤ bkF t m p ∧ bkF t m p ≤ p + m
  | 0, p => ⟨Nat.le_refl _, Nat.le_refl _⟩
  | m + 1, p => by
    rw [bkF]
    have := bkF_le (t := t) m (p + 1)
    split <;> omega
section
variable {d : Nat} {h : mmH} {K : Option Value → mmH → Prop} {n : Nat} {t : Nat → Nat}
theorem lp_blank (H : WS h) (T : TPE h n t) {z : Option Value} : ∀ m p, p + m = n → mm_V q_X7_advance d (0, 0) K 36 [some (.ref 57), some (.int (nI (bkF t m p))), z] [] h → mm_V q_X7_advance d (0, 0) K 5 [some (.ref 57), some (.int (nI p)), z] [] h := by
  obtain ⟨n4, e1, et⟩ := T
  intro m
  induction m with
  | zero =>
    intro p hp k
    obtain rfl : p = n := by omega
    refine t_X7_advance_5 _ _ _ ?_
    simp only [s_iadd, s_isub, s_imul, s_iand, s_ior, s_ixor, s_ishl, s_ishr, s_iushr, s_idiv, s_irem, s_ladd, s_lsub, s_lmul, s_ldiv, s_lrem, s_ineg, s_i2l, s_l2i, s_i2c, s_lcmp, s_ic, s_lc, s_nul, s_str, s_il, s_ll, s_al, s_dup, s_dup2, s_pop, s_ifne, s_icne, s_ifeq, s_iflt, s_ifge, s_ifgt, s_ifle, s_iceq, s_iclt, s_icge, s_icgt, s_icle, s_ifnull, s_ifnonnull, s_is, s_ls, s_as, s_ii, s_gi, s_gl, s_gr, s_pi, s_pz, s_pl, s_pr, s_iald, s_zald, s_lald, s_aald, s_alen, s_iast, s_zast, s_last, s_iret, s_zret, s_lret, s_aret, s_vret, s_sw, s_aast, mm_sw, mm_ld, mm_s1, mm_s2, mm_kl, Value.category, va_rf, List.nil_append, List.cons_append, Option.toList, true_and, and_true, and_self, true_or, or_true, eq_self, not_true_eq_false, false_implies, true_implies, not_false_eq_true, mm_10, mm_01, false_or, or_false, Nat.left_eq_add, Nat.add_eq_left, Nat.add_left_cancel_iff, Nat.reduceEqDiff, false_and, and_false, reduceIte, mm_kd_pi, mm_ln_pi, mm_gl_pi, mm_gr_pi, mm_sz_pi, mm_gi_pi, mm_kd_pl, mm_ln_pl, mm_gi_pl, mm_gr_pl, mm_sz_pl, mm_gl_pl, mm_kd_pr, mm_ln_pr, mm_gi_pr, mm_gl_pr, mm_sz_pr, mm_gr_pr, mm_kd_pa, mm_ln_pa, mm_gl_pa, mm_gr_pa, mm_sz_pa, mm_gi_pa, W_kd_57 H, W_s_57 H, W_gr_57_0 H, W_kd_54 H, W_s_54 H, W_gr_54_0 H, e1, eq_true (nI_le (Nat.le_refl p) (show p < 2 ^ 31 by omega))]
    exact k
  | succ m ih =>
    intro p hp k
    obtain ⟨t1, t2⟩ := et p (by omega)
    refine t_X7_advance_5 _ _ _ ?_
    by_cases w : t p = 32
    · rw [bkF, if_pos w] at k
      simp only [s_iadd, s_isub, s_imul, s_iand, s_ior, s_ixor, s_ishl, s_ishr, s_iushr, s_idiv, s_irem, s_ladd, s_lsub, s_lmul, s_ldiv, s_lrem, s_ineg, s_i2l, s_l2i, s_i2c, s_lcmp, s_ic, s_lc, s_nul, s_str, s_il, s_ll, s_al, s_dup, s_dup2, s_pop, s_ifne, s_icne, s_ifeq, s_iflt, s_ifge, s_ifgt, s_ifle, s_iceq, s_iclt, s_icge, s_icgt, s_icle, s_ifnull, s_ifnonnull, s_is, s_ls, s_as, s_ii, s_gi, s_gl, s_gr, s_pi, s_pz, s_pl, s_pr, s_iald, s_zald, s_lald, s_aald, s_alen, s_iast, s_zast, s_last, s_iret, s_zret, s_lret, s_aret, s_vret, s_sw, s_aast, mm_sw, mm_ld, mm_s1, mm_s2, mm_kl, Value.category, va_rf, List.nil_append, List.cons_append, Option.toList, true_and, and_true, and_self, true_or, or_true, eq_self, not_true_eq_false, false_implies, true_implies, not_false_eq_true, mm_10, mm_01, false_or, or_false, Nat.left_eq_add, Nat.add_eq_left, Nat.add_left_cancel_iff, Nat.reduceEqDiff, false_and, and_false, reduceIte, mm_kd_pi, mm_ln_pi, mm_gl_pi, mm_gr_pi, mm_sz_pi, mm_gi_pi, mm_kd_pl, mm_ln_pl, mm_gi_pl, mm_gr_pl, mm_sz_pl, mm_gl_pl, mm_kd_pr, mm_ln_pr, mm_gi_pr, mm_gl_pr, mm_sz_pr, mm_gr_pr, mm_kd_pa, mm_ln_pa, mm_gl_pa, mm_gr_pa, mm_sz_pa, mm_gi_pa, W_kd_57 H, W_s_57 H, W_gr_57_0 H, W_kd_54 H, W_s_54 H, W_gr_54_0 H, W_kd_55 H, W_s_55 H, W_ln_55 H, e1, eq_false (nI_ge (show p < n by omega) (show n < 2 ^ 31 by omega)), nI_clamp (show p < 2 ^ 31 by omega), vp_in_nI (show p < 400 by omega) (show 400 < 2 ^ 31 by decide), t2, show (nI (t p) = 32) = True from eq_true (by rw [w]; rfl), nI_1]
      exact ih (p + 1) (by omega) k
    · rw [bkF, if_neg w] at k
      simp only [s_iadd, s_isub, s_imul, s_iand, s_ior, s_ixor, s_ishl, s_ishr, s_iushr, s_idiv, s_irem, s_ladd, s_lsub, s_lmul, s_ldiv, s_lrem, s_ineg, s_i2l, s_l2i, s_i2c, s_lcmp, s_ic, s_lc, s_nul, s_str, s_il, s_ll, s_al, s_dup, s_dup2, s_pop, s_ifne, s_icne, s_ifeq, s_iflt, s_ifge, s_ifgt, s_ifle, s_iceq, s_iclt, s_icge, s_icgt, s_icle, s_ifnull, s_ifnonnull, s_is, s_ls, s_as, s_ii, s_gi, s_gl, s_gr, s_pi, s_pz, s_pl, s_pr, s_iald, s_zald, s_lald, s_aald, s_alen, s_iast, s_zast, s_last, s_iret, s_zret, s_lret, s_aret, s_vret, s_sw, s_aast, mm_sw, mm_ld, mm_s1, mm_s2, mm_kl, Value.category, va_rf, List.nil_append, List.cons_append, Option.toList, true_and, and_true, and_self, true_or, or_true, eq_self, not_true_eq_false, false_implies, true_implies, not_false_eq_true, mm_10, mm_01, false_or, or_false, Nat.left_eq_add, Nat.add_eq_left, Nat.add_left_cancel_iff, Nat.reduceEqDiff, false_and, and_false, reduceIte, mm_kd_pi, mm_ln_pi, mm_gl_pi, mm_gr_pi, mm_sz_pi, mm_gi_pi, mm_kd_pl, mm_ln_pl, mm_gi_pl, mm_gr_pl, mm_sz_pl, mm_gl_pl, mm_kd_pr, mm_ln_pr, mm_gi_pr, mm_gl_pr, mm_sz_pr, mm_gr_pr, mm_kd_pa, mm_ln_pa, mm_gl_pa, mm_gr_pa, mm_sz_pa, mm_gi_pa, W_kd_57 H, W_s_57 H, W_gr_57_0 H, W_kd_54 H, W_s_54 H, W_gr_54_0 H, W_kd_55 H, W_s_55 H, W_ln_55 H, e1, eq_false (nI_ge (show p < n by omega) (show n < 2 ^ 31 by omega)), nI_clamp (show p < 2 ^ 31 by omega), vp_in_nI (show p < 400 by omega) (show 400 < 2 ^ 31 by decide), t2, show (nI (t p) = 32) = False from eq_false (fun q => w ((nI_eq (b := 32) (by omega) (by decide)).mp q))]
      exact k
end
