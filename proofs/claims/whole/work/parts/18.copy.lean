/-! a house copied from another -/
def lc (h : mmH) (a b : Nat) : Nat → mmH
  | 0 => h
  | i + 1 => mm_pr (lc h a b i) (a + 10) i (mm_gr h (b + 10) i)
theorem lc_kd (h : mmH) (a b : Nat) : ∀ i, mm_kd (lc h a b i) = mm_kd h ∧ mm_ln (lc h a b i) = mm_ln h ∧ mm_gi (lc h a b i) = mm_gi h ∧ mm_gl (lc h a b i) = mm_gl h ∧ mm_sz (lc h a b i) = mm_sz h
  | 0 => ⟨rfl, rfl, rfl, rfl, rfl⟩
  | i + 1 => lc_kd h a b i
theorem lc_gr (h : mmH) (a b : Nat) : ∀ i c j, mm_gr (lc h a b i) c j = if c = a + 10 ∧ j < i then mm_gr h (b + 10) j else mm_gr h c j
  | 0, c, j => by rw [if_neg (by omega)]; rfl
  | i + 1, c, j => by
    show mm_gr (mm_pr (lc h a b i) (a + 10) i (mm_gr h (b + 10) i)) c j = _
    rw [mm_gr_pr, lc_gr h a b i]
    by_cases hc : c = a + 10
    · subst hc
      by_cases hj : j = i
      · subst hj; simp
      · by_cases hj2 : j < i
        · rw [if_neg (by omega), if_pos ⟨rfl, hj2⟩, if_pos ⟨rfl, by omega⟩]
        · rw [if_neg (by omega), if_neg (by omega), if_neg (by omega)]
    · rw [if_neg (by omega), if_neg (by omega), if_neg (by omega)]
/-- h' is h with the house at b copied over that at a -/
def CP (h : mmH) (a b : Nat) (h' : mmH) : Prop :=
  (mm_kd h' = mm_kd h ∧ mm_ln h' = mm_ln h ∧ mm_gl h' = mm_gl h ∧ mm_sz h' = mm_sz h) ∧
  (∀ c j, (c < a ∨ a + 9 < c) → mm_gi h' c j = mm_gi h c j) ∧
  (mm_gi h' a 1 = mm_gi h b 1 ∧ mm_gi h' a 5 = mm_gi h b 5 ∧ mm_gi h' a 6 = mm_gi h b 6 ∧ mm_gi h' a 10 = mm_gi h b 10 ∧ mm_gi h' a 14 = mm_gi h b 14 ∧ mm_gi h' a 16 = mm_gi h b 16) ∧
  ((∀ j, j < 8 → mm_gi h' (a + 1) j = mm_gi h (b + 1) j) ∧ (∀ j, j < 8 → mm_gi h' (a + 2) j = mm_gi h (b + 2) j) ∧ (∀ j, j < 8 → mm_gi h' (a + 3) j = mm_gi h (b + 3) j) ∧ (∀ j, j < 6 → mm_gi h' (a + 4) j = mm_gi h (b + 4) j) ∧ (∀ j, j < 6 → mm_gi h' (a + 5) j = mm_gi h (b + 5) j) ∧ (∀ j, j < 6 → mm_gi h' (a + 6) j = mm_gi h (b + 6) j) ∧ (∀ j, j < 8 → mm_gi h' (a + 7) j = mm_gi h (b + 7) j) ∧ (∀ j, j < 8 → mm_gi h' (a + 8) j = mm_gi h (b + 8) j) ∧ (∀ j, j < 3 → mm_gi h' (a + 9) j = mm_gi h (b + 9) j)) ∧
  (∀ c j, c ≠ a + 10 → mm_gr h' c j = mm_gr h c j) ∧ (∀ j, j < 6 → mm_gr h' (a + 10) j = mm_gr h (b + 10) j)
section
variable {d : Nat} {h : mmH} {a b : Nat} {x : Int32} {K : Option Value → mmH → Prop}
theorem lp_copyFrom (H : hsh h a) (B : hsh h b) (hlaw : ∀ j, j < 6 → ∀ t, mm_gr h (b + 10) j = some t → mm_kd h t = 6 ∧ t < mm_sz h) (hab : a ≠ b) (k : K none (mm_pi (lc h a b 6) a 16 (mm_gi h b 16))) : ∀ n i, i + n = 6 → mm_V q_X1_copyFrom d (0, 0) K 180 [some (.ref a), some (.ref b), some (.int (nI i))] [] (lc h a b i) := by
  obtain ⟨h1, h2, h3, h4⟩ := id H
  obtain ⟨b1, b2, b3, b4⟩ := id B
  have nb : ∀ i c, mm_gr (lc h a b i) a c = mm_gr h a c := fun i c => by rw [lc_gr, if_neg (by omega)]
  have nb2 : ∀ i c, mm_gr (lc h a b i) b c = mm_gr h b c := fun i c => by
    rw [lc_gr]
    by_cases z : b = a + 10
    · exact absurd (h3.2.2.2.2.2.2.2.2.2) (by rw [← z, b1.1]; decide)
    · rw [if_neg (fun y => z y.1)]
  have nb3 : ∀ i, mm_gr (lc h a b i) (b + 10) i = mm_gr h (b + 10) i := fun i => by rw [lc_gr, if_neg (by omega)]
  intro n
  induction n with
  | zero =>
    intro i hi
    obtain rfl : i = 6 := by omega
    refine t_X1_copyFrom_180 _ _ _ ?_
    simp only [s_iadd, s_isub, s_imul, s_iand, s_ior, s_ixor, s_ishl, s_ishr, s_iushr, s_idiv, s_irem, s_ladd, s_lsub, s_lmul, s_ldiv, s_lrem, s_ineg, s_i2l, s_l2i, s_i2c, s_lcmp, s_ic, s_lc, s_nul, s_str, s_il, s_ll, s_al, s_dup, s_dup2, s_pop, s_ifne, s_icne, s_ifeq, s_iflt, s_ifge, s_ifgt, s_ifle, s_iceq, s_iclt, s_icge, s_icgt, s_icle, s_ifnull, s_ifnonnull, s_is, s_ls, s_as, s_ii, s_gi, s_gl, s_gr, s_pi, s_pz, s_pl, s_pr, s_iald, s_zald, s_lald, s_aald, s_alen, s_iast, s_zast, s_last, s_iret, s_zret, s_lret, s_aret, s_vret, s_sw, s_aast, mm_sw, mm_ld, mm_s1, mm_s2, mm_kl, Value.category, va_rf, List.nil_append, List.cons_append, Option.toList, true_and, and_true, and_self, true_or, or_true, eq_self, not_true_eq_false, false_implies, true_implies, not_false_eq_true, mm_10, mm_01, false_or, or_false, Nat.left_eq_add, Nat.add_eq_left, Nat.add_left_cancel_iff, Nat.reduceEqDiff, false_and, and_false, reduceIte, mm_kd_pi, mm_ln_pi, mm_gl_pi, mm_gr_pi, mm_sz_pi, mm_gi_pi, mm_kd_pl, mm_ln_pl, mm_gi_pl, mm_gr_pl, mm_sz_pl, mm_gl_pl, mm_kd_pr, mm_ln_pr, mm_gi_pr, mm_gl_pr, mm_sz_pr, mm_gr_pr, mm_kd_pa, mm_ln_pa, mm_gl_pa, mm_gr_pa, mm_sz_pa, mm_gi_pa, h1, b1, hsz0 H, hsz0 B, (lc_kd h a b 6).1, (lc_kd h a b 6).2.2.1, (lc_kd h a b 6).2.2.2.2, l_6]
    exact ⟨fun _ => k, fun c => absurd (Int32.le_refl _) c⟩
  | succ n ih =>
    intro i hi
    refine t_X1_copyFrom_180 _ _ _ ?_
    cases hg : mm_gr h (b + 10) i with
    | none =>
      simp only [s_iadd, s_isub, s_imul, s_iand, s_ior, s_ixor, s_ishl, s_ishr, s_iushr, s_idiv, s_irem, s_ladd, s_lsub, s_lmul, s_ldiv, s_lrem, s_ineg, s_i2l, s_l2i, s_i2c, s_lcmp, s_ic, s_lc, s_nul, s_str, s_il, s_ll, s_al, s_dup, s_dup2, s_pop, s_ifne, s_icne, s_ifeq, s_iflt, s_ifge, s_ifgt, s_ifle, s_iceq, s_iclt, s_icge, s_icgt, s_icle, s_ifnull, s_ifnonnull, s_is, s_ls, s_as, s_ii, s_gi, s_gl, s_gr, s_pi, s_pz, s_pl, s_pr, s_iald, s_zald, s_lald, s_aald, s_alen, s_iast, s_zast, s_last, s_iret, s_zret, s_lret, s_aret, s_vret, s_sw, s_aast, mm_sw, mm_ld, mm_s1, mm_s2, mm_kl, Value.category, va_rf, List.nil_append, List.cons_append, Option.toList, true_and, and_true, and_self, true_or, or_true, eq_self, not_true_eq_false, false_implies, true_implies, not_false_eq_true, mm_10, mm_01, false_or, or_false, Nat.left_eq_add, Nat.add_eq_left, Nat.add_left_cancel_iff, Nat.reduceEqDiff, false_and, and_false, reduceIte, mm_kd_pi, mm_ln_pi, mm_gl_pi, mm_gr_pi, mm_sz_pi, mm_gi_pi, mm_kd_pl, mm_ln_pl, mm_gi_pl, mm_gr_pl, mm_sz_pl, mm_gl_pl, mm_kd_pr, mm_ln_pr, mm_gi_pr, mm_gl_pr, mm_sz_pr, mm_gr_pr, mm_kd_pa, mm_ln_pa, mm_gl_pa, mm_gr_pa, mm_sz_pa, mm_gi_pa, h1, h2, h3, h4, b1, b2, b3, b4, hsz0 H, hsz0 B, hsz H (show 10 ≤ 10 by decide), hsz B (show 10 ≤ 10 by decide), (lc_kd h a b i).1, (lc_kd h a b i).2.1, (lc_kd h a b i).2.2.1, (lc_kd h a b i).2.2.2.2, nb, nb2, nb3, hg, nI_clamp (show i < 2 ^ 31 by omega), vp_in_nI (show i < 6 by omega) (show 6 < 2 ^ 31 by decide), nI_1, l_6]
      refine ⟨fun c => absurd c (nI_ge (by omega) (by decide)), fun _ => ?_⟩
      have := ih (i + 1) (by omega)
      rwa [lc, hg] at this
    | some t =>
      obtain ⟨t1, t2⟩ := hlaw i (by omega) t hg
      simp only [s_iadd, s_isub, s_imul, s_iand, s_ior, s_ixor, s_ishl, s_ishr, s_iushr, s_idiv, s_irem, s_ladd, s_lsub, s_lmul, s_ldiv, s_lrem, s_ineg, s_i2l, s_l2i, s_i2c, s_lcmp, s_ic, s_lc, s_nul, s_str, s_il, s_ll, s_al, s_dup, s_dup2, s_pop, s_ifne, s_icne, s_ifeq, s_iflt, s_ifge, s_ifgt, s_ifle, s_iceq, s_iclt, s_icge, s_icgt, s_icle, s_ifnull, s_ifnonnull, s_is, s_ls, s_as, s_ii, s_gi, s_gl, s_gr, s_pi, s_pz, s_pl, s_pr, s_iald, s_zald, s_lald, s_aald, s_alen, s_iast, s_zast, s_last, s_iret, s_zret, s_lret, s_aret, s_vret, s_sw, s_aast, mm_sw, mm_ld, mm_s1, mm_s2, mm_kl, Value.category, va_rf, List.nil_append, List.cons_append, Option.toList, true_and, and_true, and_self, true_or, or_true, eq_self, not_true_eq_false, false_implies, true_implies, not_false_eq_true, mm_10, mm_01, false_or, or_false, Nat.left_eq_add, Nat.add_eq_left, Nat.add_left_cancel_iff, Nat.reduceEqDiff, false_and, and_false, reduceIte, mm_kd_pi, mm_ln_pi, mm_gl_pi, mm_gr_pi, mm_sz_pi, mm_gi_pi, mm_kd_pl, mm_ln_pl, mm_gi_pl, mm_gr_pl, mm_sz_pl, mm_gl_pl, mm_kd_pr, mm_ln_pr, mm_gi_pr, mm_gl_pr, mm_sz_pr, mm_gr_pr, mm_kd_pa, mm_ln_pa, mm_gl_pa, mm_gr_pa, mm_sz_pa, mm_gi_pa, h1, h2, h3, h4, b1, b2, b3, b4, hsz0 H, hsz0 B, hsz H (show 10 ≤ 10 by decide), hsz B (show 10 ≤ 10 by decide), (lc_kd h a b i).1, (lc_kd h a b i).2.1, (lc_kd h a b i).2.2.1, (lc_kd h a b i).2.2.2.2, nb, nb2, nb3, hg, t1, t2, nI_clamp (show i < 2 ^ 31 by omega), vp_in_nI (show i < 6 by omega) (show 6 < 2 ^ 31 by decide), nI_1, l_6]
      refine ⟨fun c => absurd c (nI_ge (by omega) (by decide)), fun _ => ?_⟩
      have := ih (i + 1) (by omega)
      rwa [lc, hg] at this
end
