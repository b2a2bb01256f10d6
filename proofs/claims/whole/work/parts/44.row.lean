/-! row -/
def addS (S : HSt) (a b c : Nat) : HSt := upS (upS (upS (upS S 0 0 (S 0 0 + 1)) 4 (S 0 0) a) 5 (S 0 0) b) 6 (S 0 0) c
theorem HV_add {S : HSt} {a b c : Nat} (v : HV S) (hL : S 0 0 < 8) (h1 : a < 256) (h2 : b < 256) (h3 : c < 10) : HV (addS S a b c) := by
  obtain ⟨⟨v1, v2, v3, v4, v5, v6⟩, w1, w2, w3, w4⟩ := v
  refine ⟨?_, ?_, fun l hl => ?_, ?_, ?_⟩
  · simp [addS, upS]
    refine ⟨by omega, v2, v3, v4, ?_, v6⟩
    rw [Nat.pow_succ]; omega
  · simpa [addS, upS] using w1
  · simp [addS, upS] at hl ⊢
    by_cases z : l = S 0 0
    · simp [z]; omega
    · simp [z]; exact w2 l (by omega)
  · simpa [addS, upS] using w3
  · simpa [addS, upS] using w4
theorem HC_add {h g : mmH} {S : HSt} {a j1 j2 j3 : Nat} (H : HC h a S) (e : ∀ c j, mm_gi g c j = if c = a ∧ j = 1 then nI (S 0 0 + 1) else if c = a + 3 ∧ j = S 0 0 then nI j3 else if c = a + 2 ∧ j = S 0 0 then nI j2 else if c = a + 1 ∧ j = S 0 0 then nI j1 else mm_gi h c j) : HC g a (addS S j1 j2 j3) := by
  obtain ⟨⟨c1, c2, c3, c4, c5, c6⟩, d1, d2, d3, d4⟩ := H
  have e0 : ∀ j, j ≠ 1 → mm_gi g a j = mm_gi h a j := fun j z => by rw [e, if_neg (fun y => z y.2), if_neg (by omega), if_neg (by omega), if_neg (by omega)]
  have eo : ∀ i j, 4 ≤ i → mm_gi g (a + i) j = mm_gi h (a + i) j := fun i j hi => by rw [e, if_neg (by omega), if_neg (by omega), if_neg (by omega), if_neg (by omega)]
  refine ⟨?_, ?_, fun l hl => ?_, ?_, ?_⟩
  · simp [addS, upS]
    rw [e0 6 (by decide), e0 10 (by decide), e0 14 (by decide), e0 5 (by decide), e0 16 (by decide)]
    exact ⟨by rw [e, if_pos ⟨rfl, rfl⟩], c2, c3, c4, c5, c6⟩
  · intro c hc
    simp [addS, upS] at hc ⊢
    rw [eo 4 c (by decide), eo 6 c (by decide), eo 5 c (by decide)]
    exact d1 c hc
  · simp [addS, upS] at hl ⊢
    by_cases z : l = S 0 0
    · subst z
      refine ⟨?_, ?_, ?_⟩ <;> rw [e] <;> simp
    · have hl' := d2 l (by omega)
      refine ⟨?_, ?_, ?_⟩ <;> rw [e] <;> simp [z]
      · exact hl'.1
      · exact hl'.2.1
      · exact hl'.2.2
  · intro t ht
    simp [addS, upS] at ht ⊢
    rw [eo 7 t (by decide), eo 8 t (by decide)]
    exact d3 t ht
  · intro k hk
    simp [addS, upS]
    rw [eo 9 k (by decide)]
    exact d4 k hk
theorem HM_add {f g : Nat → Int32} {S : HSt} {j1 j2 j3 : Nat} (v : HV S) (hL : S 0 0 < 8) (H : HM f 0 S) (e : ∀ j, g j = if j = 0 then nI (S 0 0 + 1) else if j = 20 + S 0 0 then 0 else if j = 44 + S 0 0 then nI j3 else if j = 36 + S 0 0 then nI j2 else if j = 28 + S 0 0 then nI j1 else f j) : HM g 0 (addS S j1 j2 j3) := by
  obtain ⟨⟨v1, v2, v3, v4, v5, v6⟩, -⟩ := v
  obtain ⟨⟨m1, m2, m3, m4, m5⟩, n1, n2, n3, n4⟩ := H
  simp only [Nat.zero_add] at m1 m2 m3 m4 m5 n1 n2 n3 n4
  have far : ∀ j, j ≠ 0 → j ≠ 20 + S 0 0 → j ≠ 44 + S 0 0 → j ≠ 36 + S 0 0 → j ≠ 28 + S 0 0 → g j = f j := fun j b1 b2 b3 b4 b5 => by rw [e, if_neg b1, if_neg b2, if_neg b3, if_neg b4, if_neg b5]
  refine ⟨?_, ?_, fun l hl => ?_, ?_, ?_⟩
  · simp [addS, upS]
    rw [far 1 (by decide) (by omega) (by omega) (by omega) (by omega), far 2 (by decide) (by omega) (by omega) (by omega) (by omega), far 3 (by decide) (by omega) (by omega) (by omega) (by omega), far 4 (by decide) (by omega) (by omega) (by omega) (by omega)]
    exact ⟨by rw [e, if_pos rfl], m2, m3, m4, m5⟩
  · intro c hc
    simp [addS, upS] at hc ⊢
    rw [far (8 + c) (by omega) (by omega) (by omega) (by omega) (by omega), far (14 + c) (by omega) (by omega) (by omega) (by omega) (by omega), far (52 + c) (by omega) (by omega) (by omega) (by omega) (by omega)]
    exact n1 c hc
  · simp [addS, upS] at hl ⊢
    by_cases z : l = S 0 0
    · subst z
      have b0 : S 0 4 / 2 ^ S 0 0 % 2 = 0 := by rw [Nat.div_eq_of_lt v5]
      refine ⟨?_, ?_, ?_, ?_⟩
      · rw [e, if_neg (by omega), if_neg (by omega), if_neg (by omega), if_neg (by omega), if_pos rfl]; simp
      · rw [e, if_neg (by omega), if_neg (by omega), if_neg (by omega), if_pos rfl]; simp
      · rw [e, if_neg (by omega), if_neg (by omega), if_pos rfl]; simp
      · rw [e, if_neg (by omega), if_pos rfl, b0]; rfl
    · have hl2 : l < S 0 0 := by omega
      simp [z]
      rw [far (28 + l) (by omega) (by omega) (by omega) (by omega) (by omega), far (36 + l) (by omega) (by omega) (by omega) (by omega) (by omega), far (44 + l) (by omega) (by omega) (by omega) (by omega) (by omega), far (20 + l) (by omega) (by omega) (by omega) (by omega) (by omega)]
      exact n2 l hl2
  · intro t ht
    simp [addS, upS] at ht ⊢
    rw [far (58 + 2 * t) (by omega) (by omega) (by omega) (by omega) (by omega), far (58 + 2 * t + 1) (by omega) (by omega) (by omega) (by omega) (by omega)]
    exact n3 t ht
  · intro k hk
    simp [addS, upS]
    rw [far (5 + k) (by omega) (by omega) (by omega) (by omega) (by omega)]
    exact n4 k hk
/-- whether the letter at place i comes in -/
abbrev rowOk (bs : Nat → Nat) (n i : Nat) (S : HSt) : Prop := i + 2 < n ∧ S 0 0 < 8 ∧ bs (i + 2) < 10
def rowF (bs : Nat → Nat) (n : Nat) : Nat → Nat → HSt → Nat → Nat → HSt × Nat × Nat
  | 0, _, S, c, b => (S, c, b)
  | m + 1, i, S, c, b => if i < n then (if rowOk bs n i S then rowF bs n m (i + 3) (addS S (bs i) (bs (i + 1)) (bs (i + 2))) (c + 1) b else rowF bs n m (i + 3) S c (b + 1)) else (S, c, b)
theorem rowF_3 (bs : Nat → Nat) (n : Nat) : ∀ m i S c b, (rowF bs n m i S c b).1 0 3 = S 0 3
  | 0, _, _, _, _ => rfl
  | m + 1, i, S, c, b => by
    simp only [rowF]
    split
    · split
      · rw [rowF_3]; rfl
      · rw [rowF_3]
    · rfl
section
variable {d : Nat} {h : mmH} {x : Int32} {K : Option Value → mmH → Prop}
theorem sp_takeLetter {n i : Nat} {bs : Nat → Nat} {S : HSt} (H : WS h) (v : HV S) (hc : HC h 4 S) (hn : mm_gi h 54 1 = nI n) (hn4 : n ≤ 400) (hi : i < n) (hb : ∀ j, j < n → mm_gi h 55 j = nI (bs j) ∧ bs j < 256) (k1 : rowOk bs n i S → K (some (.int 1)) (addL h 4 (S 0 0) (nI (bs i)) (nI (bs (i + 1))) (nI (bs (i + 2))))) (k0 : ¬ rowOk bs n i S → K (some (.int 0)) h) : mm_MV q_X9_takeLetter (d + 1) (0, 0) [.ref 0, .int (nI i)] h K := by
  have L8 := v.1.1
  have no : ¬ rowOk bs n i S → mm_V q_X9_takeLetter (d + 1) (0, 0) K 29 [some (.ref 0), some (.int (nI i)), none, none, none] [] h := by
    intro c
    refine t_X9_takeLetter_29 _ _ _ ?_
    simp only [s_iadd, s_isub, s_imul, s_iand, s_ior, s_ixor, s_ishl, s_ishr, s_iushr, s_idiv, s_irem, s_ladd, s_lsub, s_lmul, s_ldiv, s_lrem, s_ineg, s_i2l, s_l2i, s_i2c, s_lcmp, s_ic, s_lc, s_nul, s_str, s_il, s_ll, s_al, s_dup, s_dup2, s_pop, s_ifne, s_icne, s_ifeq, s_iflt, s_ifge, s_ifgt, s_ifle, s_iceq, s_iclt, s_icge, s_icgt, s_icle, s_ifnull, s_ifnonnull, s_is, s_ls, s_as, s_ii, s_gi, s_gl, s_gr, s_pi, s_pz, s_pl, s_pr, s_iald, s_zald, s_lald, s_aald, s_alen, s_iast, s_zast, s_last, s_iret, s_zret, s_lret, s_aret, s_vret, s_sw, s_aast, mm_sw, mm_ld, mm_s1, mm_s2, mm_kl, Value.category, va_rf, List.nil_append, List.cons_append, Option.toList, true_and, and_true, and_self, true_or, or_true, eq_self, not_true_eq_false, false_implies, true_implies, not_false_eq_true, mm_10, mm_01, false_or, or_false, Nat.left_eq_add, Nat.add_eq_left, Nat.add_left_cancel_iff, Nat.reduceEqDiff, false_and, and_false, reduceIte, mm_kd_pi, mm_ln_pi, mm_gl_pi, mm_gr_pi, mm_sz_pi, mm_gi_pi, mm_kd_pl, mm_ln_pl, mm_gi_pl, mm_gr_pl, mm_sz_pl, mm_gl_pl, mm_kd_pr, mm_ln_pr, mm_gi_pr, mm_gl_pr, mm_sz_pr, mm_gr_pr, mm_kd_pa, mm_ln_pa, mm_gl_pa, mm_gr_pa, mm_sz_pa, mm_gi_pa]
    exact k0 c
  have f0 := eq_false (nI_pos (show i < 2 ^ 31 by omega))
  have f3 : nI i + 2 = nI (i + 2) := nI_add i 2
  refine e_X9_takeLetter (t_X9_takeLetter_0 _ _ _ ?_)
  obtain ⟨K3, e3⟩ : ∃ T : mmK, T = s_is 4 (s_il 2 (s_il 3 (s_il 4 (mm_V q_X9_takeLetter (d + 1) (0, 0) K 70)))) := ⟨_, rfl⟩
  rw [← e3]
  obtain ⟨K2, e2⟩ : ∃ T : mmK, T = s_is 3 (s_al 0 (s_gr 9 7 (s_gr 5 0 (s_il 1 (s_ic 2 (s_iadd (s_iald K3))))))) := ⟨_, rfl⟩
  rw [← e2]
  obtain ⟨K1, e1⟩ : ∃ T : mmK, T = s_is 2 (s_al 0 (s_gr 9 7 (s_gr 5 0 (s_il 1 (s_ic 1 (s_iadd (s_iald K2))))))) := ⟨_, rfl⟩
  rw [← e1]
  by_cases c1 : n ≤ i + 2
  · simp only [s_iadd, s_isub, s_imul, s_iand, s_ior, s_ixor, s_ishl, s_ishr, s_iushr, s_idiv, s_irem, s_ladd, s_lsub, s_lmul, s_ldiv, s_lrem, s_ineg, s_i2l, s_l2i, s_i2c, s_lcmp, s_ic, s_lc, s_nul, s_str, s_il, s_ll, s_al, s_dup, s_dup2, s_pop, s_ifne, s_icne, s_ifeq, s_iflt, s_ifge, s_ifgt, s_ifle, s_iceq, s_iclt, s_icge, s_icgt, s_icle, s_ifnull, s_ifnonnull, s_is, s_ls, s_as, s_ii, s_gi, s_gl, s_gr, s_pi, s_pz, s_pl, s_pr, s_iald, s_zald, s_lald, s_aald, s_alen, s_iast, s_zast, s_last, s_iret, s_zret, s_lret, s_aret, s_vret, s_sw, s_aast, mm_sw, mm_ld, mm_s1, mm_s2, mm_kl, Value.category, va_rf, List.nil_append, List.cons_append, Option.toList, true_and, and_true, and_self, true_or, or_true, eq_self, not_true_eq_false, false_implies, true_implies, not_false_eq_true, mm_10, mm_01, false_or, or_false, Nat.left_eq_add, Nat.add_eq_left, Nat.add_left_cancel_iff, Nat.reduceEqDiff, false_and, and_false, reduceIte, mm_kd_pi, mm_ln_pi, mm_gl_pi, mm_gr_pi, mm_sz_pi, mm_gi_pi, mm_kd_pl, mm_ln_pl, mm_gi_pl, mm_gr_pl, mm_sz_pl, mm_gl_pl, mm_kd_pr, mm_ln_pr, mm_gi_pr, mm_gl_pr, mm_sz_pr, mm_gr_pr, mm_kd_pa, mm_ln_pa, mm_gl_pa, mm_gr_pa, mm_sz_pa, mm_gi_pa, W_kd_0 H, W_s_0 H, W_gr_0_0 H, W_gr_0_1 H, W_gr_0_2 H, W_gr_0_3 H, W_gr_0_4 H, W_gr_0_5 H, W_gr_0_6 H, W_gr_0_7 H, W_gr_0_8 H, W_gr_0_9 H, W_gr_0_10 H, W_gr_0_11 H, W_kd_54 H, W_s_54 H, W_gr_54_0 H, hn, f0, f3, eq_true (nI_le c1 (show i + 2 < 2 ^ 31 by omega))]
    exact no (fun y => by have := y.1; omega)
  have f1 := eq_false (nI_ge (show i + 2 < n by omega) (show n < 2 ^ 31 by omega))
  by_cases c2 : ¬ S 0 0 < 8
  · simp only [s_iadd, s_isub, s_imul, s_iand, s_ior, s_ixor, s_ishl, s_ishr, s_iushr, s_idiv, s_irem, s_ladd, s_lsub, s_lmul, s_ldiv, s_lrem, s_ineg, s_i2l, s_l2i, s_i2c, s_lcmp, s_ic, s_lc, s_nul, s_str, s_il, s_ll, s_al, s_dup, s_dup2, s_pop, s_ifne, s_icne, s_ifeq, s_iflt, s_ifge, s_ifgt, s_ifle, s_iceq, s_iclt, s_icge, s_icgt, s_icle, s_ifnull, s_ifnonnull, s_is, s_ls, s_as, s_ii, s_gi, s_gl, s_gr, s_pi, s_pz, s_pl, s_pr, s_iald, s_zald, s_lald, s_aald, s_alen, s_iast, s_zast, s_last, s_iret, s_zret, s_lret, s_aret, s_vret, s_sw, s_aast, mm_sw, mm_ld, mm_s1, mm_s2, mm_kl, Value.category, va_rf, List.nil_append, List.cons_append, Option.toList, true_and, and_true, and_self, true_or, or_true, eq_self, not_true_eq_false, false_implies, true_implies, not_false_eq_true, mm_10, mm_01, false_or, or_false, Nat.left_eq_add, Nat.add_eq_left, Nat.add_left_cancel_iff, Nat.reduceEqDiff, false_and, and_false, reduceIte, mm_kd_pi, mm_ln_pi, mm_gl_pi, mm_gr_pi, mm_sz_pi, mm_gi_pi, mm_kd_pl, mm_ln_pl, mm_gi_pl, mm_gr_pl, mm_sz_pl, mm_gl_pl, mm_kd_pr, mm_ln_pr, mm_gi_pr, mm_gl_pr, mm_sz_pr, mm_gr_pr, mm_kd_pa, mm_ln_pa, mm_gl_pa, mm_gr_pa, mm_sz_pa, mm_gi_pa, W_kd_0 H, W_s_0 H, W_gr_0_0 H, W_gr_0_1 H, W_gr_0_2 H, W_gr_0_3 H, W_gr_0_4 H, W_gr_0_5 H, W_gr_0_6 H, W_gr_0_7 H, W_gr_0_8 H, W_gr_0_9 H, W_gr_0_10 H, W_gr_0_11 H, W_kd_54 H, W_s_54 H, W_gr_54_0 H, W_kd_4 H, W_s_4 H, W_gr_4_0 H, W_gr_4_2 H, W_gr_4_3 H, W_gr_4_4 H, W_gr_4_7 H, W_gr_4_8 H, W_gr_4_9 H, W_gr_4_11 H, W_gr_4_12 H, W_gr_4_13 H, W_gr_4_15 H, hn, hc.1.1, f0, f3, f1, eq_false (show ¬ nI (S 0 0) < 8 from nI_nlt (b := 8) (by omega) (by omega))]
    exact no (fun y => c2 y.2.1)
  have c2 : S 0 0 < 8 := Decidable.byContradiction c2
  have b0 := hb i (by omega)
  have b1 := hb (i + 1) (by omega)
  have b2 := hb (i + 2) (by omega)
  simp only [s_iadd, s_isub, s_imul, s_iand, s_ior, s_ixor, s_ishl, s_ishr, s_iushr, s_idiv, s_irem, s_ladd, s_lsub, s_lmul, s_ldiv, s_lrem, s_ineg, s_i2l, s_l2i, s_i2c, s_lcmp, s_ic, s_lc, s_nul, s_str, s_il, s_ll, s_al, s_dup, s_dup2, s_pop, s_ifne, s_icne, s_ifeq, s_iflt, s_ifge, s_ifgt, s_ifle, s_iceq, s_iclt, s_icge, s_icgt, s_icle, s_ifnull, s_ifnonnull, s_is, s_ls, s_as, s_ii, s_gi, s_gl, s_gr, s_pi, s_pz, s_pl, s_pr, s_iald, s_zald, s_lald, s_aald, s_alen, s_iast, s_zast, s_last, s_iret, s_zret, s_lret, s_aret, s_vret, s_sw, s_aast, mm_sw, mm_ld, mm_s1, mm_s2, mm_kl, Value.category, va_rf, List.nil_append, List.cons_append, Option.toList, true_and, and_true, and_self, true_or, or_true, eq_self, not_true_eq_false, false_implies, true_implies, not_false_eq_true, mm_10, mm_01, false_or, or_false, Nat.left_eq_add, Nat.add_eq_left, Nat.add_left_cancel_iff, Nat.reduceEqDiff, false_and, and_false, reduceIte, mm_kd_pi, mm_ln_pi, mm_gl_pi, mm_gr_pi, mm_sz_pi, mm_gi_pi, mm_kd_pl, mm_ln_pl, mm_gi_pl, mm_gr_pl, mm_sz_pl, mm_gl_pl, mm_kd_pr, mm_ln_pr, mm_gi_pr, mm_gl_pr, mm_sz_pr, mm_gr_pr, mm_kd_pa, mm_ln_pa, mm_gl_pa, mm_gr_pa, mm_sz_pa, mm_gi_pa, W_kd_0 H, W_s_0 H, W_gr_0_0 H, W_gr_0_1 H, W_gr_0_2 H, W_gr_0_3 H, W_gr_0_4 H, W_gr_0_5 H, W_gr_0_6 H, W_gr_0_7 H, W_gr_0_8 H, W_gr_0_9 H, W_gr_0_10 H, W_gr_0_11 H, W_kd_54 H, W_s_54 H, W_gr_54_0 H, W_kd_4 H, W_s_4 H, W_gr_4_0 H, W_gr_4_2 H, W_gr_4_3 H, W_gr_4_4 H, W_gr_4_7 H, W_gr_4_8 H, W_gr_4_9 H, W_gr_4_11 H, W_gr_4_12 H, W_gr_4_13 H, W_gr_4_15 H, W_kd_55 H, W_s_55 H, W_ln_55 H, hn, hc.1.1, f0, f3, f1, eq_true (show nI (S 0 0) < 8 from nI_lt (b := 8) c2 (by decide)), vp_in_nI (show i < 400 by omega) (show 400 < 2 ^ 31 by decide), nI_clamp (show i < 2 ^ 31 by omega), b0.1]
  rw [e1]
  simp only [s_iadd, s_isub, s_imul, s_iand, s_ior, s_ixor, s_ishl, s_ishr, s_iushr, s_idiv, s_irem, s_ladd, s_lsub, s_lmul, s_ldiv, s_lrem, s_ineg, s_i2l, s_l2i, s_i2c, s_lcmp, s_ic, s_lc, s_nul, s_str, s_il, s_ll, s_al, s_dup, s_dup2, s_pop, s_ifne, s_icne, s_ifeq, s_iflt, s_ifge, s_ifgt, s_ifle, s_iceq, s_iclt, s_icge, s_icgt, s_icle, s_ifnull, s_ifnonnull, s_is, s_ls, s_as, s_ii, s_gi, s_gl, s_gr, s_pi, s_pz, s_pl, s_pr, s_iald, s_zald, s_lald, s_aald, s_alen, s_iast, s_zast, s_last, s_iret, s_zret, s_lret, s_aret, s_vret, s_sw, s_aast, mm_sw, mm_ld, mm_s1, mm_s2, mm_kl, Value.category, va_rf, List.nil_append, List.cons_append, Option.toList, true_and, and_true, and_self, true_or, or_true, eq_self, not_true_eq_false, false_implies, true_implies, not_false_eq_true, mm_10, mm_01, false_or, or_false, Nat.left_eq_add, Nat.add_eq_left, Nat.add_left_cancel_iff, Nat.reduceEqDiff, false_and, and_false, reduceIte, mm_kd_pi, mm_ln_pi, mm_gl_pi, mm_gr_pi, mm_sz_pi, mm_gi_pi, mm_kd_pl, mm_ln_pl, mm_gi_pl, mm_gr_pl, mm_sz_pl, mm_gl_pl, mm_kd_pr, mm_ln_pr, mm_gi_pr, mm_gl_pr, mm_sz_pr, mm_gr_pr, mm_kd_pa, mm_ln_pa, mm_gl_pa, mm_gr_pa, mm_sz_pa, mm_gi_pa, W_kd_0 H, W_s_0 H, W_gr_0_0 H, W_gr_0_1 H, W_gr_0_2 H, W_gr_0_3 H, W_gr_0_4 H, W_gr_0_5 H, W_gr_0_6 H, W_gr_0_7 H, W_gr_0_8 H, W_gr_0_9 H, W_gr_0_10 H, W_gr_0_11 H, W_kd_54 H, W_s_54 H, W_gr_54_0 H, W_kd_55 H, W_s_55 H, W_ln_55 H, nI_1, vp_in_nI (show i + 1 < 400 by omega) (show 400 < 2 ^ 31 by decide), nI_clamp (show i + 1 < 2 ^ 31 by omega), b1.1]
  rw [e2]
  simp only [s_iadd, s_isub, s_imul, s_iand, s_ior, s_ixor, s_ishl, s_ishr, s_iushr, s_idiv, s_irem, s_ladd, s_lsub, s_lmul, s_ldiv, s_lrem, s_ineg, s_i2l, s_l2i, s_i2c, s_lcmp, s_ic, s_lc, s_nul, s_str, s_il, s_ll, s_al, s_dup, s_dup2, s_pop, s_ifne, s_icne, s_ifeq, s_iflt, s_ifge, s_ifgt, s_ifle, s_iceq, s_iclt, s_icge, s_icgt, s_icle, s_ifnull, s_ifnonnull, s_is, s_ls, s_as, s_ii, s_gi, s_gl, s_gr, s_pi, s_pz, s_pl, s_pr, s_iald, s_zald, s_lald, s_aald, s_alen, s_iast, s_zast, s_last, s_iret, s_zret, s_lret, s_aret, s_vret, s_sw, s_aast, mm_sw, mm_ld, mm_s1, mm_s2, mm_kl, Value.category, va_rf, List.nil_append, List.cons_append, Option.toList, true_and, and_true, and_self, true_or, or_true, eq_self, not_true_eq_false, false_implies, true_implies, not_false_eq_true, mm_10, mm_01, false_or, or_false, Nat.left_eq_add, Nat.add_eq_left, Nat.add_left_cancel_iff, Nat.reduceEqDiff, false_and, and_false, reduceIte, mm_kd_pi, mm_ln_pi, mm_gl_pi, mm_gr_pi, mm_sz_pi, mm_gi_pi, mm_kd_pl, mm_ln_pl, mm_gi_pl, mm_gr_pl, mm_sz_pl, mm_gl_pl, mm_kd_pr, mm_ln_pr, mm_gi_pr, mm_gl_pr, mm_sz_pr, mm_gr_pr, mm_kd_pa, mm_ln_pa, mm_gl_pa, mm_gr_pa, mm_sz_pa, mm_gi_pa, W_kd_0 H, W_s_0 H, W_gr_0_0 H, W_gr_0_1 H, W_gr_0_2 H, W_gr_0_3 H, W_gr_0_4 H, W_gr_0_5 H, W_gr_0_6 H, W_gr_0_7 H, W_gr_0_8 H, W_gr_0_9 H, W_gr_0_10 H, W_gr_0_11 H, W_kd_54 H, W_s_54 H, W_gr_54_0 H, W_kd_55 H, W_s_55 H, W_ln_55 H, f3, vp_in_nI (show i + 2 < 400 by omega) (show 400 < 2 ^ 31 by decide), nI_clamp (show i + 2 < 2 ^ 31 by omega), b2.1]
  rw [e3]
  simp only [s_iadd, s_isub, s_imul, s_iand, s_ior, s_ixor, s_ishl, s_ishr, s_iushr, s_idiv, s_irem, s_ladd, s_lsub, s_lmul, s_ldiv, s_lrem, s_ineg, s_i2l, s_l2i, s_i2c, s_lcmp, s_ic, s_lc, s_nul, s_str, s_il, s_ll, s_al, s_dup, s_dup2, s_pop, s_ifne, s_icne, s_ifeq, s_iflt, s_ifge, s_ifgt, s_ifle, s_iceq, s_iclt, s_icge, s_icgt, s_icle, s_ifnull, s_ifnonnull, s_is, s_ls, s_as, s_ii, s_gi, s_gl, s_gr, s_pi, s_pz, s_pl, s_pr, s_iald, s_zald, s_lald, s_aald, s_alen, s_iast, s_zast, s_last, s_iret, s_zret, s_lret, s_aret, s_vret, s_sw, s_aast, mm_sw, mm_ld, mm_s1, mm_s2, mm_kl, Value.category, va_rf, List.nil_append, List.cons_append, Option.toList, true_and, and_true, and_self, true_or, or_true, eq_self, not_true_eq_false, false_implies, true_implies, not_false_eq_true, mm_10, mm_01, false_or, or_false, Nat.left_eq_add, Nat.add_eq_left, Nat.add_left_cancel_iff, Nat.reduceEqDiff, false_and, and_false, reduceIte, mm_kd_pi, mm_ln_pi, mm_gl_pi, mm_gr_pi, mm_sz_pi, mm_gi_pi, mm_kd_pl, mm_ln_pl, mm_gi_pl, mm_gr_pl, mm_sz_pl, mm_gl_pl, mm_kd_pr, mm_ln_pr, mm_gi_pr, mm_gl_pr, mm_sz_pr, mm_gr_pr, mm_kd_pa, mm_ln_pa, mm_gl_pa, mm_gr_pa, mm_sz_pa, mm_gi_pa]
  refine c_X9_takeLetter_70 (bb := (0, 0)) (b := (0, 0)) (Nat.le_of_ble_eq_true rfl) ⟨rfl, rfl⟩ (sp_canHold (fun d1 d2 d3 => ?_) (fun d1 => ?_)) <;> refine t_X9_takeLetter_73 _ _ _ ?_
  · simp only [s_iadd, s_isub, s_imul, s_iand, s_ior, s_ixor, s_ishl, s_ishr, s_iushr, s_idiv, s_irem, s_ladd, s_lsub, s_lmul, s_ldiv, s_lrem, s_ineg, s_i2l, s_l2i, s_i2c, s_lcmp, s_ic, s_lc, s_nul, s_str, s_il, s_ll, s_al, s_dup, s_dup2, s_pop, s_ifne, s_icne, s_ifeq, s_iflt, s_ifge, s_ifgt, s_ifle, s_iceq, s_iclt, s_icge, s_icgt, s_icle, s_ifnull, s_ifnonnull, s_is, s_ls, s_as, s_ii, s_gi, s_gl, s_gr, s_pi, s_pz, s_pl, s_pr, s_iald, s_zald, s_lald, s_aald, s_alen, s_iast, s_zast, s_last, s_iret, s_zret, s_lret, s_aret, s_vret, s_sw, s_aast, mm_sw, mm_ld, mm_s1, mm_s2, mm_kl, Value.category, va_rf, List.nil_append, List.cons_append, Option.toList, true_and, and_true, and_self, true_or, or_true, eq_self, not_true_eq_false, false_implies, true_implies, not_false_eq_true, mm_10, mm_01, false_or, or_false, Nat.left_eq_add, Nat.add_eq_left, Nat.add_left_cancel_iff, Nat.reduceEqDiff, false_and, and_false, reduceIte, mm_kd_pi, mm_ln_pi, mm_gl_pi, mm_gr_pi, mm_sz_pi, mm_gi_pi, mm_kd_pl, mm_ln_pl, mm_gi_pl, mm_gr_pl, mm_sz_pl, mm_gl_pl, mm_kd_pr, mm_ln_pr, mm_gi_pr, mm_gl_pr, mm_sz_pr, mm_gr_pr, mm_kd_pa, mm_ln_pa, mm_gl_pa, mm_gr_pa, mm_sz_pa, mm_gi_pa, W_kd_0 H, W_s_0 H, W_gr_0_0 H, W_gr_0_1 H, W_gr_0_2 H, W_gr_0_3 H, W_gr_0_4 H, W_gr_0_5 H, W_gr_0_6 H, W_gr_0_7 H, W_gr_0_8 H, W_gr_0_9 H, W_gr_0_10 H, W_gr_0_11 H]
    refine c_X9_takeLetter_86 (bb := (0, 0)) (b := (0, 0)) (Nat.le_of_ble_eq_true rfl) ⟨rfl, rfl⟩ (W_kd_4 H) (W_s_4 H) (sp_addLetter (W_h4 H) hc.1.1 c2 ?_)
    refine t_X9_takeLetter_89 _ _ _ ?_
    simp only [s_iadd, s_isub, s_imul, s_iand, s_ior, s_ixor, s_ishl, s_ishr, s_iushr, s_idiv, s_irem, s_ladd, s_lsub, s_lmul, s_ldiv, s_lrem, s_ineg, s_i2l, s_l2i, s_i2c, s_lcmp, s_ic, s_lc, s_nul, s_str, s_il, s_ll, s_al, s_dup, s_dup2, s_pop, s_ifne, s_icne, s_ifeq, s_iflt, s_ifge, s_ifgt, s_ifle, s_iceq, s_iclt, s_icge, s_icgt, s_icle, s_ifnull, s_ifnonnull, s_is, s_ls, s_as, s_ii, s_gi, s_gl, s_gr, s_pi, s_pz, s_pl, s_pr, s_iald, s_zald, s_lald, s_aald, s_alen, s_iast, s_zast, s_last, s_iret, s_zret, s_lret, s_aret, s_vret, s_sw, s_aast, mm_sw, mm_ld, mm_s1, mm_s2, mm_kl, Value.category, va_rf, List.nil_append, List.cons_append, Option.toList, true_and, and_true, and_self, true_or, or_true, eq_self, not_true_eq_false, false_implies, true_implies, not_false_eq_true, mm_10, mm_01, false_or, or_false, Nat.left_eq_add, Nat.add_eq_left, Nat.add_left_cancel_iff, Nat.reduceEqDiff, false_and, and_false, reduceIte, mm_kd_pi, mm_ln_pi, mm_gl_pi, mm_gr_pi, mm_sz_pi, mm_gi_pi, mm_kd_pl, mm_ln_pl, mm_gi_pl, mm_gr_pl, mm_sz_pl, mm_gl_pl, mm_kd_pr, mm_ln_pr, mm_gi_pr, mm_gl_pr, mm_sz_pr, mm_gr_pr, mm_kd_pa, mm_ln_pa, mm_gl_pa, mm_gr_pa, mm_sz_pa, mm_gi_pa]
    refine k1 ⟨by omega, c2, ?_⟩
    obtain ⟨j, hj, e⟩ := vp_in_of d3 (by decide)
    have := (nI_eq (by omega) (by omega)).mp e
    omega
  · simp only [s_iadd, s_isub, s_imul, s_iand, s_ior, s_ixor, s_ishl, s_ishr, s_iushr, s_idiv, s_irem, s_ladd, s_lsub, s_lmul, s_ldiv, s_lrem, s_ineg, s_i2l, s_l2i, s_i2c, s_lcmp, s_ic, s_lc, s_nul, s_str, s_il, s_ll, s_al, s_dup, s_dup2, s_pop, s_ifne, s_icne, s_ifeq, s_iflt, s_ifge, s_ifgt, s_ifle, s_iceq, s_iclt, s_icge, s_icgt, s_icle, s_ifnull, s_ifnonnull, s_is, s_ls, s_as, s_ii, s_gi, s_gl, s_gr, s_pi, s_pz, s_pl, s_pr, s_iald, s_zald, s_lald, s_aald, s_alen, s_iast, s_zast, s_last, s_iret, s_zret, s_lret, s_aret, s_vret, s_sw, s_aast, mm_sw, mm_ld, mm_s1, mm_s2, mm_kl, Value.category, va_rf, List.nil_append, List.cons_append, Option.toList, true_and, and_true, and_self, true_or, or_true, eq_self, not_true_eq_false, false_implies, true_implies, not_false_eq_true, mm_10, mm_01, false_or, or_false, Nat.left_eq_add, Nat.add_eq_left, Nat.add_left_cancel_iff, Nat.reduceEqDiff, false_and, and_false, reduceIte, mm_kd_pi, mm_ln_pi, mm_gl_pi, mm_gr_pi, mm_sz_pi, mm_gi_pi, mm_kd_pl, mm_ln_pl, mm_gi_pl, mm_gr_pl, mm_sz_pl, mm_gl_pl, mm_kd_pr, mm_ln_pr, mm_gi_pr, mm_gl_pr, mm_sz_pr, mm_gr_pr, mm_kd_pa, mm_ln_pa, mm_gl_pa, mm_gr_pa, mm_sz_pa, mm_gi_pa]
    refine k0 (fun y => d1 ⟨vp_in_nI b0.2 (by decide), vp_in_nI b1.2 (by decide), vp_in_nI y.2.2 (by decide)⟩)
end
section
variable {d : Nat} {h : mmH} {x : Int32} {K : Option Value → mmH → Prop}
/-- what the class's loop keeps -/
def JR (h0 h : mmH) (S : HSt) (b : Nat) : Prop := same5 h0 h ∧ (∀ c j, c ≠ 0 → c ≠ 4 → c ≠ 5 → c ≠ 6 → c ≠ 7 → mm_gi h c j = mm_gi h0 c j) ∧ (∀ j, j ≠ 14 → mm_gi h 0 j = mm_gi h0 0 j) ∧ mm_gi h 0 14 = nI b ∧ HC h 4 S ∧ HV S
theorem JR_add {h0 h : mmH} {S : HSt} {b j1 j2 j3 : Nat} (J : JR h0 h S b) (hL : S 0 0 < 8) (h1 : j1 < 256) (h2 : j2 < 256) (h3 : j3 < 10) : JR h0 (addL h 4 (S 0 0) (nI j1) (nI j2) (nI j3)) (addS S j1 j2 j3) b := by
  obtain ⟨s5, eo, e0, e14, hc, v⟩ := J
  have e : ∀ c j, mm_gi (addL h 4 (S 0 0) (nI j1) (nI j2) (nI j3)) c j = if c = 4 ∧ j = 1 then nI (S 0 0 + 1) else if c = 4 + 3 ∧ j = S 0 0 then nI j3 else if c = 4 + 2 ∧ j = S 0 0 then nI j2 else if c = 4 + 1 ∧ j = S 0 0 then nI j1 else mm_gi h c j := fun c j => by simp only [addL, mm_gi_pi]
  refine ⟨s5, fun c j a1 a2 a3 a4 a5 => ?_, fun j a => ?_, ?_, HC_add hc e, HV_add v hL h1 h2 h3⟩
  · rw [e, if_neg (by omega), if_neg (by omega), if_neg (by omega), if_neg (by omega)]; exact eo c j a1 a2 a3 a4 a5
  · rw [e, if_neg (by omega), if_neg (by omega), if_neg (by omega), if_neg (by omega)]; exact e0 j a
  · rw [e, if_neg (by omega), if_neg (by omega), if_neg (by omega), if_neg (by omega)]; exact e14
theorem JR_blot {h0 h : mmH} {S : HSt} {b : Nat} (J : JR h0 h S b) : JR h0 (mm_pi h 0 14 (nI (b + 1))) S (b + 1) := by
  obtain ⟨s5, eo, e0, e14, hc, v⟩ := J
  refine ⟨s5, fun c j a1 a2 a3 a4 a5 => ?_, fun j a => ?_, ?_, HC_cg (fun c j c1 c2 => by rw [mm_gi_pi, if_neg (by omega)]) hc, v⟩
  · rw [mm_gi_pi, if_neg (by omega)]; exact eo c j a1 a2 a3 a4 a5
  · rw [mm_gi_pi, if_neg (by omega)]; exact e0 j a
  · rw [mm_gi_pi, if_pos ⟨rfl, rfl⟩]
theorem lp_row {h0 : mmH} {n : Nat} {bs : Nat → Nat} (H : WS h0) (hn : mm_gi h0 54 1 = nI n) (hn4 : n ≤ 400) (hb : ∀ j, j < n → mm_gi h0 55 j = nI (bs j) ∧ bs j < 256) (R : HSt × Nat × Nat) (k : ∀ g, JR h0 g R.1 R.2.2 → K (some (.int (nI R.2.1))) (acH (mm_pi g 54 1 0))) : ∀ m i S c b h, n ≤ i + 3 * m → i ≤ 402 → rowF bs n m i S c b = R → JR h0 h S b → mm_V q_X9_row (d + 2) (0, 0) K 33 [some (.ref 0), some (.int (nI c)), some (.int (nI i))] [] h := by
  have out : ∀ i S c b h, n ≤ i → i ≤ 402 → (S, c, b) = R → JR h0 h S b → mm_V q_X9_row (d + 2) (0, 0) K 33 [some (.ref 0), some (.int (nI c)), some (.int (nI i))] [] h := by
    intro i S c b h hi hi2 e J
    subst e
    have Hh : WS h := WS_same J.1 H
    refine t_X9_row_33 _ _ _ ?_
    simp only [s_iadd, s_isub, s_imul, s_iand, s_ior, s_ixor, s_ishl, s_ishr, s_iushr, s_idiv, s_irem, s_ladd, s_lsub, s_lmul, s_ldiv, s_lrem, s_ineg, s_i2l, s_l2i, s_i2c, s_lcmp, s_ic, s_lc, s_nul, s_str, s_il, s_ll, s_al, s_dup, s_dup2, s_pop, s_ifne, s_icne, s_ifeq, s_iflt, s_ifge, s_ifgt, s_ifle, s_iceq, s_iclt, s_icge, s_icgt, s_icle, s_ifnull, s_ifnonnull, s_is, s_ls, s_as, s_ii, s_gi, s_gl, s_gr, s_pi, s_pz, s_pl, s_pr, s_iald, s_zald, s_lald, s_aald, s_alen, s_iast, s_zast, s_last, s_iret, s_zret, s_lret, s_aret, s_vret, s_sw, s_aast, mm_sw, mm_ld, mm_s1, mm_s2, mm_kl, Value.category, va_rf, List.nil_append, List.cons_append, Option.toList, true_and, and_true, and_self, true_or, or_true, eq_self, not_true_eq_false, false_implies, true_implies, not_false_eq_true, mm_10, mm_01, false_or, or_false, Nat.left_eq_add, Nat.add_eq_left, Nat.add_left_cancel_iff, Nat.reduceEqDiff, false_and, and_false, reduceIte, mm_kd_pi, mm_ln_pi, mm_gl_pi, mm_gr_pi, mm_sz_pi, mm_gi_pi, mm_kd_pl, mm_ln_pl, mm_gi_pl, mm_gr_pl, mm_sz_pl, mm_gl_pl, mm_kd_pr, mm_ln_pr, mm_gi_pr, mm_gl_pr, mm_sz_pr, mm_gr_pr, mm_kd_pa, mm_ln_pa, mm_gl_pa, mm_gr_pa, mm_sz_pa, mm_gi_pa, W_kd_0 Hh, W_s_0 Hh, W_gr_0_0 Hh, W_gr_0_1 Hh, W_gr_0_2 Hh, W_gr_0_3 Hh, W_gr_0_4 Hh, W_gr_0_5 Hh, W_gr_0_6 Hh, W_gr_0_7 Hh, W_gr_0_8 Hh, W_gr_0_9 Hh, W_gr_0_10 Hh, W_gr_0_11 Hh, W_kd_54 Hh, W_s_54 Hh, W_gr_54_0 Hh, J.2.1 54 1 (by decide) (by decide) (by decide) (by decide) (by decide), hn, nI_leI (show n < 2 ^ 31 by omega) (show i < 2 ^ 31 by omega), show (n ≤ i) = True by simp; omega]
    refine c_X9_row_84 (bb := (0, 0)) (b := (0, 0)) (Nat.le_of_ble_eq_true rfl) ⟨rfl, rfl⟩ (W_kd_0 Hh) (W_s_0 Hh) (sp_accept (h := mm_pi h 54 1 0) Hh ?_)
    refine t_X9_row_87 _ _ _ ?_
    simp only [s_iadd, s_isub, s_imul, s_iand, s_ior, s_ixor, s_ishl, s_ishr, s_iushr, s_idiv, s_irem, s_ladd, s_lsub, s_lmul, s_ldiv, s_lrem, s_ineg, s_i2l, s_l2i, s_i2c, s_lcmp, s_ic, s_lc, s_nul, s_str, s_il, s_ll, s_al, s_dup, s_dup2, s_pop, s_ifne, s_icne, s_ifeq, s_iflt, s_ifge, s_ifgt, s_ifle, s_iceq, s_iclt, s_icge, s_icgt, s_icle, s_ifnull, s_ifnonnull, s_is, s_ls, s_as, s_ii, s_gi, s_gl, s_gr, s_pi, s_pz, s_pl, s_pr, s_iald, s_zald, s_lald, s_aald, s_alen, s_iast, s_zast, s_last, s_iret, s_zret, s_lret, s_aret, s_vret, s_sw, s_aast, mm_sw, mm_ld, mm_s1, mm_s2, mm_kl, Value.category, va_rf, List.nil_append, List.cons_append, Option.toList, true_and, and_true, and_self, true_or, or_true, eq_self, not_true_eq_false, false_implies, true_implies, not_false_eq_true, mm_10, mm_01, false_or, or_false, Nat.left_eq_add, Nat.add_eq_left, Nat.add_left_cancel_iff, Nat.reduceEqDiff, false_and, and_false, reduceIte, mm_kd_pi, mm_ln_pi, mm_gl_pi, mm_gr_pi, mm_sz_pi, mm_gi_pi, mm_kd_pl, mm_ln_pl, mm_gi_pl, mm_gr_pl, mm_sz_pl, mm_gl_pl, mm_kd_pr, mm_ln_pr, mm_gi_pr, mm_gl_pr, mm_sz_pr, mm_gr_pr, mm_kd_pa, mm_ln_pa, mm_gl_pa, mm_gr_pa, mm_sz_pa, mm_gi_pa]
    exact k h J
  intro m
  induction m with
  | zero => intro i S c b h hi hi2 e J; exact out i S c b h (by omega) hi2 e J
  | succ m ih =>
    intro i S c b h hi hi2 e J
    by_cases z : i < n
    · have Hh : WS h := WS_same J.1 H
      have h54 := (J.2.1 54 1 (by decide) (by decide) (by decide) (by decide) (by decide)).trans hn
      refine t_X9_row_33 _ _ _ ?_
      simp only [s_iadd, s_isub, s_imul, s_iand, s_ior, s_ixor, s_ishl, s_ishr, s_iushr, s_idiv, s_irem, s_ladd, s_lsub, s_lmul, s_ldiv, s_lrem, s_ineg, s_i2l, s_l2i, s_i2c, s_lcmp, s_ic, s_lc, s_nul, s_str, s_il, s_ll, s_al, s_dup, s_dup2, s_pop, s_ifne, s_icne, s_ifeq, s_iflt, s_ifge, s_ifgt, s_ifle, s_iceq, s_iclt, s_icge, s_icgt, s_icle, s_ifnull, s_ifnonnull, s_is, s_ls, s_as, s_ii, s_gi, s_gl, s_gr, s_pi, s_pz, s_pl, s_pr, s_iald, s_zald, s_lald, s_aald, s_alen, s_iast, s_zast, s_last, s_iret, s_zret, s_lret, s_aret, s_vret, s_sw, s_aast, mm_sw, mm_ld, mm_s1, mm_s2, mm_kl, Value.category, va_rf, List.nil_append, List.cons_append, Option.toList, true_and, and_true, and_self, true_or, or_true, eq_self, not_true_eq_false, false_implies, true_implies, not_false_eq_true, mm_10, mm_01, false_or, or_false, Nat.left_eq_add, Nat.add_eq_left, Nat.add_left_cancel_iff, Nat.reduceEqDiff, false_and, and_false, reduceIte, mm_kd_pi, mm_ln_pi, mm_gl_pi, mm_gr_pi, mm_sz_pi, mm_gi_pi, mm_kd_pl, mm_ln_pl, mm_gi_pl, mm_gr_pl, mm_sz_pl, mm_gl_pl, mm_kd_pr, mm_ln_pr, mm_gi_pr, mm_gl_pr, mm_sz_pr, mm_gr_pr, mm_kd_pa, mm_ln_pa, mm_gl_pa, mm_gr_pa, mm_sz_pa, mm_gi_pa, W_kd_0 Hh, W_s_0 Hh, W_gr_0_0 Hh, W_gr_0_1 Hh, W_gr_0_2 Hh, W_gr_0_3 Hh, W_gr_0_4 Hh, W_gr_0_5 Hh, W_gr_0_6 Hh, W_gr_0_7 Hh, W_gr_0_8 Hh, W_gr_0_9 Hh, W_gr_0_10 Hh, W_gr_0_11 Hh, W_kd_54 Hh, W_s_54 Hh, W_gr_54_0 Hh, h54, nI_leI (show n < 2 ^ 31 by omega) (show i < 2 ^ 31 by omega), show (n ≤ i) = False by simp; omega]
      rw [rowF, if_pos z] at e
      refine c_X9_row_46 (bb := (0, 0)) (b := (0, 0)) (Nat.le_of_ble_eq_true rfl) ⟨rfl, rfl⟩ (W_kd_0 Hh) (W_s_0 Hh) (sp_takeLetter Hh J.2.2.2.2.2 J.2.2.2.2.1 h54 hn4 z (fun j hj => by rw [J.2.1 55 j (by decide) (by decide) (by decide) (by decide) (by decide)]; exact hb j hj) (fun y => ?_) (fun y => ?_)) <;> refine t_X9_row_49 _ _ _ ?_
      · simp only [s_iadd, s_isub, s_imul, s_iand, s_ior, s_ixor, s_ishl, s_ishr, s_iushr, s_idiv, s_irem, s_ladd, s_lsub, s_lmul, s_ldiv, s_lrem, s_ineg, s_i2l, s_l2i, s_i2c, s_lcmp, s_ic, s_lc, s_nul, s_str, s_il, s_ll, s_al, s_dup, s_dup2, s_pop, s_ifne, s_icne, s_ifeq, s_iflt, s_ifge, s_ifgt, s_ifle, s_iceq, s_iclt, s_icge, s_icgt, s_icle, s_ifnull, s_ifnonnull, s_is, s_ls, s_as, s_ii, s_gi, s_gl, s_gr, s_pi, s_pz, s_pl, s_pr, s_iald, s_zald, s_lald, s_aald, s_alen, s_iast, s_zast, s_last, s_iret, s_zret, s_lret, s_aret, s_vret, s_sw, s_aast, mm_sw, mm_ld, mm_s1, mm_s2, mm_kl, Value.category, va_rf, List.nil_append, List.cons_append, Option.toList, true_and, and_true, and_self, true_or, or_true, eq_self, not_true_eq_false, false_implies, true_implies, not_false_eq_true, mm_10, mm_01, false_or, or_false, Nat.left_eq_add, Nat.add_eq_left, Nat.add_left_cancel_iff, Nat.reduceEqDiff, false_and, and_false, reduceIte, mm_kd_pi, mm_ln_pi, mm_gl_pi, mm_gr_pi, mm_sz_pi, mm_gi_pi, mm_kd_pl, mm_ln_pl, mm_gi_pl, mm_gr_pl, mm_sz_pl, mm_gl_pl, mm_kd_pr, mm_ln_pr, mm_gi_pr, mm_gl_pr, mm_sz_pr, mm_gr_pr, mm_kd_pa, mm_ln_pa, mm_gl_pa, mm_gr_pa, mm_sz_pa, mm_gi_pa, nI_1]
        rw [if_pos y] at e
        refine t_X9_row_68 _ _ _ ?_
        simp only [s_iadd, s_isub, s_imul, s_iand, s_ior, s_ixor, s_ishl, s_ishr, s_iushr, s_idiv, s_irem, s_ladd, s_lsub, s_lmul, s_ldiv, s_lrem, s_ineg, s_i2l, s_l2i, s_i2c, s_lcmp, s_ic, s_lc, s_nul, s_str, s_il, s_ll, s_al, s_dup, s_dup2, s_pop, s_ifne, s_icne, s_ifeq, s_iflt, s_ifge, s_ifgt, s_ifle, s_iceq, s_iclt, s_icge, s_icgt, s_icle, s_ifnull, s_ifnonnull, s_is, s_ls, s_as, s_ii, s_gi, s_gl, s_gr, s_pi, s_pz, s_pl, s_pr, s_iald, s_zald, s_lald, s_aald, s_alen, s_iast, s_zast, s_last, s_iret, s_zret, s_lret, s_aret, s_vret, s_sw, s_aast, mm_sw, mm_ld, mm_s1, mm_s2, mm_kl, Value.category, va_rf, List.nil_append, List.cons_append, Option.toList, true_and, and_true, and_self, true_or, or_true, eq_self, not_true_eq_false, false_implies, true_implies, not_false_eq_true, mm_10, mm_01, false_or, or_false, Nat.left_eq_add, Nat.add_eq_left, Nat.add_left_cancel_iff, Nat.reduceEqDiff, false_and, and_false, reduceIte, mm_kd_pi, mm_ln_pi, mm_gl_pi, mm_gr_pi, mm_sz_pi, mm_gi_pi, mm_kd_pl, mm_ln_pl, mm_gi_pl, mm_gr_pl, mm_sz_pl, mm_gl_pl, mm_kd_pr, mm_ln_pr, mm_gi_pr, mm_gl_pr, mm_sz_pr, mm_gr_pr, mm_kd_pa, mm_ln_pa, mm_gl_pa, mm_gr_pa, mm_sz_pa, mm_gi_pa, l_3, nI_add]
        exact ih (i + 3) _ (c + 1) b _ (by omega) (by omega) e (JR_add J y.2.1 (hb i z).2 (hb (i + 1) (by have := y.1; omega)).2 y.2.2)
      · rw [if_neg y] at e
        simp only [s_iadd, s_isub, s_imul, s_iand, s_ior, s_ixor, s_ishl, s_ishr, s_iushr, s_idiv, s_irem, s_ladd, s_lsub, s_lmul, s_ldiv, s_lrem, s_ineg, s_i2l, s_l2i, s_i2c, s_lcmp, s_ic, s_lc, s_nul, s_str, s_il, s_ll, s_al, s_dup, s_dup2, s_pop, s_ifne, s_icne, s_ifeq, s_iflt, s_ifge, s_ifgt, s_ifle, s_iceq, s_iclt, s_icge, s_icgt, s_icle, s_ifnull, s_ifnonnull, s_is, s_ls, s_as, s_ii, s_gi, s_gl, s_gr, s_pi, s_pz, s_pl, s_pr, s_iald, s_zald, s_lald, s_aald, s_alen, s_iast, s_zast, s_last, s_iret, s_zret, s_lret, s_aret, s_vret, s_sw, s_aast, mm_sw, mm_ld, mm_s1, mm_s2, mm_kl, Value.category, va_rf, List.nil_append, List.cons_append, Option.toList, true_and, and_true, and_self, true_or, or_true, eq_self, not_true_eq_false, false_implies, true_implies, not_false_eq_true, mm_10, mm_01, false_or, or_false, Nat.left_eq_add, Nat.add_eq_left, Nat.add_left_cancel_iff, Nat.reduceEqDiff, false_and, and_false, reduceIte, mm_kd_pi, mm_ln_pi, mm_gl_pi, mm_gr_pi, mm_sz_pi, mm_gi_pi, mm_kd_pl, mm_ln_pl, mm_gi_pl, mm_gr_pl, mm_sz_pl, mm_gl_pl, mm_kd_pr, mm_ln_pr, mm_gi_pr, mm_gl_pr, mm_sz_pr, mm_gr_pr, mm_kd_pa, mm_ln_pa, mm_gl_pa, mm_gr_pa, mm_sz_pa, mm_gi_pa, W_kd_0 Hh, W_s_0 Hh, W_gr_0_0 Hh, W_gr_0_1 Hh, W_gr_0_2 Hh, W_gr_0_3 Hh, W_gr_0_4 Hh, W_gr_0_5 Hh, W_gr_0_6 Hh, W_gr_0_7 Hh, W_gr_0_8 Hh, W_gr_0_9 Hh, W_gr_0_10 Hh, W_gr_0_11 Hh, J.2.2.2.1, nI_1]
        refine t_X9_row_68 _ _ _ ?_
        simp only [s_iadd, s_isub, s_imul, s_iand, s_ior, s_ixor, s_ishl, s_ishr, s_iushr, s_idiv, s_irem, s_ladd, s_lsub, s_lmul, s_ldiv, s_lrem, s_ineg, s_i2l, s_l2i, s_i2c, s_lcmp, s_ic, s_lc, s_nul, s_str, s_il, s_ll, s_al, s_dup, s_dup2, s_pop, s_ifne, s_icne, s_ifeq, s_iflt, s_ifge, s_ifgt, s_ifle, s_iceq, s_iclt, s_icge, s_icgt, s_icle, s_ifnull, s_ifnonnull, s_is, s_ls, s_as, s_ii, s_gi, s_gl, s_gr, s_pi, s_pz, s_pl, s_pr, s_iald, s_zald, s_lald, s_aald, s_alen, s_iast, s_zast, s_last, s_iret, s_zret, s_lret, s_aret, s_vret, s_sw, s_aast, mm_sw, mm_ld, mm_s1, mm_s2, mm_kl, Value.category, va_rf, List.nil_append, List.cons_append, Option.toList, true_and, and_true, and_self, true_or, or_true, eq_self, not_true_eq_false, false_implies, true_implies, not_false_eq_true, mm_10, mm_01, false_or, or_false, Nat.left_eq_add, Nat.add_eq_left, Nat.add_left_cancel_iff, Nat.reduceEqDiff, false_and, and_false, reduceIte, mm_kd_pi, mm_ln_pi, mm_gl_pi, mm_gr_pi, mm_sz_pi, mm_gi_pi, mm_kd_pl, mm_ln_pl, mm_gi_pl, mm_gr_pl, mm_sz_pl, mm_gl_pl, mm_kd_pr, mm_ln_pr, mm_gi_pr, mm_gl_pr, mm_sz_pr, mm_gr_pr, mm_kd_pa, mm_ln_pa, mm_gl_pa, mm_gr_pa, mm_sz_pa, mm_gi_pa, l_3, nI_add]
        exact ih (i + 3) S c (b + 1) _ (by omega) (by omega) e (JR_blot J)
    · rw [rowF, if_neg z] at e
      exact out i S c b h (by omega) hi2 e J
theorem sp_row {n : Nat} {bs : Nat → Nat} {S : HSt} (H : WS h) (v : HV S) (hc : HC h 4 S) (hn : mm_gi h 54 1 = nI n) (hn4 : n ≤ 400) (hb : ∀ j, j < n → mm_gi h 55 j = nI (bs j) ∧ bs j < 256) (k0 : n = 0 → K (some (.int (-6))) (rfH h (-6) 4)) (k1 : n ≠ 0 → ∀ g, JR (mm_pi (mm_pi h 50 1 0) 0 14 0) g (rowF bs n n 0 S 0 0).1 (rowF bs n n 0 S 0 0).2.2 → K (some (.int (nI (rowF bs n n 0 S 0 0).2.1))) (acH (mm_pi g 54 1 0))) : mm_MV q_X9_row (d + 2) (0, 0) [.ref 0] h K := by
  refine e_X9_row (t_X9_row_0 _ _ _ ?_)
  simp only [s_iadd, s_isub, s_imul, s_iand, s_ior, s_ixor, s_ishl, s_ishr, s_iushr, s_idiv, s_irem, s_ladd, s_lsub, s_lmul, s_ldiv, s_lrem, s_ineg, s_i2l, s_l2i, s_i2c, s_lcmp, s_ic, s_lc, s_nul, s_str, s_il, s_ll, s_al, s_dup, s_dup2, s_pop, s_ifne, s_icne, s_ifeq, s_iflt, s_ifge, s_ifgt, s_ifle, s_iceq, s_iclt, s_icge, s_icgt, s_icle, s_ifnull, s_ifnonnull, s_is, s_ls, s_as, s_ii, s_gi, s_gl, s_gr, s_pi, s_pz, s_pl, s_pr, s_iald, s_zald, s_lald, s_aald, s_alen, s_iast, s_zast, s_last, s_iret, s_zret, s_lret, s_aret, s_vret, s_sw, s_aast, mm_sw, mm_ld, mm_s1, mm_s2, mm_kl, Value.category, va_rf, List.nil_append, List.cons_append, Option.toList, true_and, and_true, and_self, true_or, or_true, eq_self, not_true_eq_false, false_implies, true_implies, not_false_eq_true, mm_10, mm_01, false_or, or_false, Nat.left_eq_add, Nat.add_eq_left, Nat.add_left_cancel_iff, Nat.reduceEqDiff, false_and, and_false, reduceIte, mm_kd_pi, mm_ln_pi, mm_gl_pi, mm_gr_pi, mm_sz_pi, mm_gi_pi, mm_kd_pl, mm_ln_pl, mm_gi_pl, mm_gr_pl, mm_sz_pl, mm_gl_pl, mm_kd_pr, mm_ln_pr, mm_gi_pr, mm_gl_pr, mm_sz_pr, mm_gr_pr, mm_kd_pa, mm_ln_pa, mm_gl_pa, mm_gr_pa, mm_sz_pa, mm_gi_pa, W_kd_0 H, W_s_0 H, W_gr_0_0 H, W_gr_0_1 H, W_gr_0_2 H, W_gr_0_3 H, W_gr_0_4 H, W_gr_0_5 H, W_gr_0_6 H, W_gr_0_7 H, W_gr_0_8 H, W_gr_0_9 H, W_gr_0_10 H, W_gr_0_11 H, W_kd_54 H, W_s_54 H, W_gr_54_0 H, hn]
  refine ⟨fun c => ?_, fun c => ?_⟩
  · refine c_X9_row_21 (bb := (0, 0)) (b := (0, 0)) (Nat.le_of_ble_eq_true rfl) ⟨rfl, rfl⟩ (W_kd_50 H) (W_s_50 H) (sp_tclear (W_tr50 H) ?_)
    refine t_X9_row_24 _ _ _ ?_
    simp only [s_iadd, s_isub, s_imul, s_iand, s_ior, s_ixor, s_ishl, s_ishr, s_iushr, s_idiv, s_irem, s_ladd, s_lsub, s_lmul, s_ldiv, s_lrem, s_ineg, s_i2l, s_l2i, s_i2c, s_lcmp, s_ic, s_lc, s_nul, s_str, s_il, s_ll, s_al, s_dup, s_dup2, s_pop, s_ifne, s_icne, s_ifeq, s_iflt, s_ifge, s_ifgt, s_ifle, s_iceq, s_iclt, s_icge, s_icgt, s_icle, s_ifnull, s_ifnonnull, s_is, s_ls, s_as, s_ii, s_gi, s_gl, s_gr, s_pi, s_pz, s_pl, s_pr, s_iald, s_zald, s_lald, s_aald, s_alen, s_iast, s_zast, s_last, s_iret, s_zret, s_lret, s_aret, s_vret, s_sw, s_aast, mm_sw, mm_ld, mm_s1, mm_s2, mm_kl, Value.category, va_rf, List.nil_append, List.cons_append, Option.toList, true_and, and_true, and_self, true_or, or_true, eq_self, not_true_eq_false, false_implies, true_implies, not_false_eq_true, mm_10, mm_01, false_or, or_false, Nat.left_eq_add, Nat.add_eq_left, Nat.add_left_cancel_iff, Nat.reduceEqDiff, false_and, and_false, reduceIte, mm_kd_pi, mm_ln_pi, mm_gl_pi, mm_gr_pi, mm_sz_pi, mm_gi_pi, mm_kd_pl, mm_ln_pl, mm_gi_pl, mm_gr_pl, mm_sz_pl, mm_gl_pl, mm_kd_pr, mm_ln_pr, mm_gi_pr, mm_gl_pr, mm_sz_pr, mm_gr_pr, mm_kd_pa, mm_ln_pa, mm_gl_pa, mm_gr_pa, mm_sz_pa, mm_gi_pa, W_kd_0 H, W_s_0 H, W_gr_0_0 H, W_gr_0_1 H, W_gr_0_2 H, W_gr_0_3 H, W_gr_0_4 H, W_gr_0_5 H, W_gr_0_6 H, W_gr_0_7 H, W_gr_0_8 H, W_gr_0_9 H, W_gr_0_10 H, W_gr_0_11 H]
    have n0 : n ≠ 0 := fun z => c (by rw [z]; rfl)
    refine lp_row (h0 := mm_pi (mm_pi h 50 1 0) 0 14 0) (n := n) (bs := bs) H (by rw [mm_gi_pi, if_neg (by decide), mm_gi_pi, if_neg (by decide)]; exact hn) hn4 (fun j hj => by rw [mm_gi_pi, if_neg (by omega), mm_gi_pi, if_neg (by omega)]; exact hb j hj) _ (k1 n0) n 0 S 0 0 _ (by omega) (by omega) rfl ⟨⟨rfl, rfl, rfl, rfl, rfl⟩, fun _ _ _ _ _ _ _ => rfl, fun _ _ => rfl, by rw [mm_gi_pi, if_pos ⟨rfl, rfl⟩]; rfl, HC_cg (fun c j c1 c2 => by rw [mm_gi_pi, if_neg (by omega), mm_gi_pi, if_neg (by omega)]) hc, v⟩
  · refine c_X9_row_13 (bb := (0, 0)) (b := (0, 0)) (Nat.le_of_ble_eq_true rfl) ⟨rfl, rfl⟩ (W_kd_0 H) (W_s_0 H) (sp_refuse (p := 4) H (by simp) ?_)
    refine t_X9_row_16 _ _ _ ?_
    simp only [s_iadd, s_isub, s_imul, s_iand, s_ior, s_ixor, s_ishl, s_ishr, s_iushr, s_idiv, s_irem, s_ladd, s_lsub, s_lmul, s_ldiv, s_lrem, s_ineg, s_i2l, s_l2i, s_i2c, s_lcmp, s_ic, s_lc, s_nul, s_str, s_il, s_ll, s_al, s_dup, s_dup2, s_pop, s_ifne, s_icne, s_ifeq, s_iflt, s_ifge, s_ifgt, s_ifle, s_iceq, s_iclt, s_icge, s_icgt, s_icle, s_ifnull, s_ifnonnull, s_is, s_ls, s_as, s_ii, s_gi, s_gl, s_gr, s_pi, s_pz, s_pl, s_pr, s_iald, s_zald, s_lald, s_aald, s_alen, s_iast, s_zast, s_last, s_iret, s_zret, s_lret, s_aret, s_vret, s_sw, s_aast, mm_sw, mm_ld, mm_s1, mm_s2, mm_kl, Value.category, va_rf, List.nil_append, List.cons_append, Option.toList, true_and, and_true, and_self, true_or, or_true, eq_self, not_true_eq_false, false_implies, true_implies, not_false_eq_true, mm_10, mm_01, false_or, or_false, Nat.left_eq_add, Nat.add_eq_left, Nat.add_left_cancel_iff, Nat.reduceEqDiff, false_and, and_false, reduceIte, mm_kd_pi, mm_ln_pi, mm_gl_pi, mm_gr_pi, mm_sz_pi, mm_gi_pi, mm_kd_pl, mm_ln_pl, mm_gi_pl, mm_gr_pl, mm_sz_pl, mm_gl_pl, mm_kd_pr, mm_ln_pr, mm_gi_pr, mm_gl_pr, mm_sz_pr, mm_gr_pr, mm_kd_pa, mm_ln_pa, mm_gl_pa, mm_gr_pa, mm_sz_pa, mm_gi_pa]
    exact k0 ((nI_eq (by omega) (by decide)).mp (c.trans nI_0.symm))
/-- what the model's loop keeps -/
def MR (h0 h : mmH) (S : HSt) (b : Nat) : Prop := same5 h0 h ∧ (∀ c j, c ≠ 91 → c ≠ 93 → mm_gi h c j = mm_gi h0 c j) ∧ (∀ j, j ≠ 11 → mm_gi h 91 j = mm_gi h0 91 j) ∧ mm_gi h 91 11 = nI b ∧ HM (mm_gi h 93) 0 S ∧ HV S ∧ ∀ j, 75 ≤ j → mm_gi h 93 j = mm_gi h0 93 j
theorem MR_add {h0 h : mmH} {S : HSt} {b j1 j2 j3 : Nat} (J : MR h0 h S b) (hL : S 0 0 < 8) (h1 : j1 < 256) (h2 : j2 < 256) (h3 : j3 < 10) : MR h0 (comeH h (S 0 0) (nI j1) (nI j2) (nI j3)) (addS S j1 j2 j3) b := by
  obtain ⟨s5, eo, e0, e14, hc, v, ef⟩ := J
  have e : ∀ j, mm_gi (comeH h (S 0 0) (nI j1) (nI j2) (nI j3)) 93 j = if j = 0 then nI (S 0 0 + 1) else if j = 20 + S 0 0 then 0 else if j = 44 + S 0 0 then nI j3 else if j = 36 + S 0 0 then nI j2 else if j = 28 + S 0 0 then nI j1 else mm_gi h 93 j := fun j => by simp only [comeH, mm_gi_pi, true_and]
  have eo' : ∀ c j, c ≠ 93 → mm_gi (comeH h (S 0 0) (nI j1) (nI j2) (nI j3)) c j = mm_gi h c j := fun c j a => by simp only [comeH, mm_gi_pi, a, false_and, if_false]
  refine ⟨s5, fun c j a1 a2 => by rw [eo' c j a2]; exact eo c j a1 a2, fun j a => by rw [eo' 91 j (by decide)]; exact e0 j a, by rw [eo' 91 11 (by decide)]; exact e14, HM_add v hL hc e, HV_add v hL h1 h2 h3, fun j hj => ?_⟩
  rw [e, if_neg (by omega), if_neg (by omega), if_neg (by omega), if_neg (by omega), if_neg (by omega)]; exact ef j hj
theorem MR_blot {h0 h : mmH} {S : HSt} {b : Nat} (J : MR h0 h S b) : MR h0 (mm_pi h 91 11 (nI (b + 1))) S (b + 1) := by
  obtain ⟨s5, eo, e0, e14, hc, v, ef⟩ := J
  have e93 : mm_gi (mm_pi h 91 11 (nI (b + 1))) 93 = mm_gi h 93 := funext fun j => by rw [mm_gi_pi, if_neg (by omega)]
  refine ⟨s5, fun c j a1 a2 => ?_, fun j a => ?_, ?_, by rw [e93]; exact hc, v, by rw [e93]; exact ef⟩
  · rw [mm_gi_pi, if_neg (by omega)]; exact eo c j a1 a2
  · rw [mm_gi_pi, if_neg (by omega)]; exact e0 j a
  · rw [mm_gi_pi, if_pos ⟨rfl, rfl⟩]
theorem lm_row {h0 : mmH} {n : Nat} {bs : Nat → Nat} (H : WS h0) (hn4 : n ≤ 400) (hb : ∀ j, j < n → mm_gi h0 100 j = nI (bs j) ∧ bs j < 256) (R : HSt × Nat × Nat) (hR : R.2.1 ≤ 1000) (k : ∀ g, MR h0 g R.1 R.2.2 → K (some (.int (nI R.2.1))) (mm_pi (mm_pi g 91 8 0) 91 1 0)) : ∀ m i S c b h, n ≤ i + 3 * m → i ≤ 402 → rowF bs n m i S c b = R → MR h0 h S b → mm_V q_X10_row (d + 3) (0, 0) K 35 [some (.ref 91), some (.int (nI n)), some (.int (nI c)), some (.int (nI i))] [] h := by
  have out : ∀ i S c b h, n ≤ i → i ≤ 402 → (S, c, b) = R → MR h0 h S b → mm_V q_X10_row (d + 3) (0, 0) K 35 [some (.ref 91), some (.int (nI n)), some (.int (nI c)), some (.int (nI i))] [] h := by
    intro i S c b h hi hi2 e J
    subst e
    have Hh : WS h := WS_same J.1 H
    refine t_X10_row_35 _ _ _ ?_
    simp only [s_iadd, s_isub, s_imul, s_iand, s_ior, s_ixor, s_ishl, s_ishr, s_iushr, s_idiv, s_irem, s_ladd, s_lsub, s_lmul, s_ldiv, s_lrem, s_ineg, s_i2l, s_l2i, s_i2c, s_lcmp, s_ic, s_lc, s_nul, s_str, s_il, s_ll, s_al, s_dup, s_dup2, s_pop, s_ifne, s_icne, s_ifeq, s_iflt, s_ifge, s_ifgt, s_ifle, s_iceq, s_iclt, s_icge, s_icgt, s_icle, s_ifnull, s_ifnonnull, s_is, s_ls, s_as, s_ii, s_gi, s_gl, s_gr, s_pi, s_pz, s_pl, s_pr, s_iald, s_zald, s_lald, s_aald, s_alen, s_iast, s_zast, s_last, s_iret, s_zret, s_lret, s_aret, s_vret, s_sw, s_aast, mm_sw, mm_ld, mm_s1, mm_s2, mm_kl, Value.category, va_rf, List.nil_append, List.cons_append, Option.toList, true_and, and_true, and_self, true_or, or_true, eq_self, not_true_eq_false, false_implies, true_implies, not_false_eq_true, mm_10, mm_01, false_or, or_false, Nat.left_eq_add, Nat.add_eq_left, Nat.add_left_cancel_iff, Nat.reduceEqDiff, false_and, and_false, reduceIte, mm_kd_pi, mm_ln_pi, mm_gl_pi, mm_gr_pi, mm_sz_pi, mm_gi_pi, mm_kd_pl, mm_ln_pl, mm_gi_pl, mm_gr_pl, mm_sz_pl, mm_gl_pl, mm_kd_pr, mm_ln_pr, mm_gi_pr, mm_gl_pr, mm_sz_pr, mm_gr_pr, mm_kd_pa, mm_ln_pa, mm_gl_pa, mm_gr_pa, mm_sz_pa, mm_gi_pa, nI_leI (show n < 2 ^ 31 by omega) (show i < 2 ^ 31 by omega), show (n ≤ i) = True by simp; omega]
    refine c_X10_row_100 (bb := (0, 0)) (b := (0, 0)) (Nat.le_of_ble_eq_true rfl) ⟨rfl, rfl⟩ (W_kd_91 Hh) (W_s_91 Hh) (sp_settled_ok Hh (nI_pos' (by have : c ≤ 1000 := hR; omega)) ?_)
    refine t_X10_row_103 _ _ _ ?_
    simp only [s_iadd, s_isub, s_imul, s_iand, s_ior, s_ixor, s_ishl, s_ishr, s_iushr, s_idiv, s_irem, s_ladd, s_lsub, s_lmul, s_ldiv, s_lrem, s_ineg, s_i2l, s_l2i, s_i2c, s_lcmp, s_ic, s_lc, s_nul, s_str, s_il, s_ll, s_al, s_dup, s_dup2, s_pop, s_ifne, s_icne, s_ifeq, s_iflt, s_ifge, s_ifgt, s_ifle, s_iceq, s_iclt, s_icge, s_icgt, s_icle, s_ifnull, s_ifnonnull, s_is, s_ls, s_as, s_ii, s_gi, s_gl, s_gr, s_pi, s_pz, s_pl, s_pr, s_iald, s_zald, s_lald, s_aald, s_alen, s_iast, s_zast, s_last, s_iret, s_zret, s_lret, s_aret, s_vret, s_sw, s_aast, mm_sw, mm_ld, mm_s1, mm_s2, mm_kl, Value.category, va_rf, List.nil_append, List.cons_append, Option.toList, true_and, and_true, and_self, true_or, or_true, eq_self, not_true_eq_false, false_implies, true_implies, not_false_eq_true, mm_10, mm_01, false_or, or_false, Nat.left_eq_add, Nat.add_eq_left, Nat.add_left_cancel_iff, Nat.reduceEqDiff, false_and, and_false, reduceIte, mm_kd_pi, mm_ln_pi, mm_gl_pi, mm_gr_pi, mm_sz_pi, mm_gi_pi, mm_kd_pl, mm_ln_pl, mm_gi_pl, mm_gr_pl, mm_sz_pl, mm_gl_pl, mm_kd_pr, mm_ln_pr, mm_gi_pr, mm_gl_pr, mm_sz_pr, mm_gr_pr, mm_kd_pa, mm_ln_pa, mm_gl_pa, mm_gr_pa, mm_sz_pa, mm_gi_pa]
    exact k h J
  intro m
  induction m with
  | zero => intro i S c b h hi hi2 e J; exact out i S c b h (by omega) hi2 e J
  | succ m ih =>
    intro i S c b h hi hi2 e J
    by_cases z : i < n
    · have Hh : WS h := WS_same J.1 H
      rw [rowF, if_pos z] at e
      have blot : ¬ rowOk bs n i S → mm_V q_X10_row (d + 3) (0, 0) K 82 [some (.ref 91), some (.int (nI n)), some (.int (nI c)), some (.int (nI i))] [] h := by
        intro y
        rw [if_neg y] at e
        refine t_X10_row_82 _ _ _ ?_
        simp only [s_iadd, s_isub, s_imul, s_iand, s_ior, s_ixor, s_ishl, s_ishr, s_iushr, s_idiv, s_irem, s_ladd, s_lsub, s_lmul, s_ldiv, s_lrem, s_ineg, s_i2l, s_l2i, s_i2c, s_lcmp, s_ic, s_lc, s_nul, s_str, s_il, s_ll, s_al, s_dup, s_dup2, s_pop, s_ifne, s_icne, s_ifeq, s_iflt, s_ifge, s_ifgt, s_ifle, s_iceq, s_iclt, s_icge, s_icgt, s_icle, s_ifnull, s_ifnonnull, s_is, s_ls, s_as, s_ii, s_gi, s_gl, s_gr, s_pi, s_pz, s_pl, s_pr, s_iald, s_zald, s_lald, s_aald, s_alen, s_iast, s_zast, s_last, s_iret, s_zret, s_lret, s_aret, s_vret, s_sw, s_aast, mm_sw, mm_ld, mm_s1, mm_s2, mm_kl, Value.category, va_rf, List.nil_append, List.cons_append, Option.toList, true_and, and_true, and_self, true_or, or_true, eq_self, not_true_eq_false, false_implies, true_implies, not_false_eq_true, mm_10, mm_01, false_or, or_false, Nat.left_eq_add, Nat.add_eq_left, Nat.add_left_cancel_iff, Nat.reduceEqDiff, false_and, and_false, reduceIte, mm_kd_pi, mm_ln_pi, mm_gl_pi, mm_gr_pi, mm_sz_pi, mm_gi_pi, mm_kd_pl, mm_ln_pl, mm_gi_pl, mm_gr_pl, mm_sz_pl, mm_gl_pl, mm_kd_pr, mm_ln_pr, mm_gi_pr, mm_gl_pr, mm_sz_pr, mm_gr_pr, mm_kd_pa, mm_ln_pa, mm_gl_pa, mm_gr_pa, mm_sz_pa, mm_gi_pa, W_kd_91 Hh, W_s_91 Hh, W_gr_91_2 Hh, W_gr_91_3 Hh, W_gr_91_4 Hh, W_gr_91_5 Hh, W_gr_91_6 Hh, W_gr_91_7 Hh, W_gr_91_9 Hh, W_gr_91_10 Hh, W_gr_91_12 Hh, W_gr_91_22 Hh, W_gr_91_24 Hh, W_gr_91_25 Hh, W_gr_91_27 Hh, W_gr_91_28 Hh, W_gr_91_31 Hh, W_gr_91_32 Hh, W_gr_91_33 Hh, W_gr_91_35 Hh, W_gr_91_36 Hh, W_gr_91_37 Hh, W_gr_91_41 Hh, W_gr_91_42 Hh, W_gr_91_43 Hh, W_gr_91_44 Hh, W_gr_91_45 Hh, W_gr_91_46 Hh, W_gr_91_47 Hh, W_gr_91_48 Hh, W_gr_91_49 Hh, W_gr_91_55 Hh, J.2.2.2.1, nI_1]
        refine t_X10_row_92 _ _ _ ?_
        simp only [s_iadd, s_isub, s_imul, s_iand, s_ior, s_ixor, s_ishl, s_ishr, s_iushr, s_idiv, s_irem, s_ladd, s_lsub, s_lmul, s_ldiv, s_lrem, s_ineg, s_i2l, s_l2i, s_i2c, s_lcmp, s_ic, s_lc, s_nul, s_str, s_il, s_ll, s_al, s_dup, s_dup2, s_pop, s_ifne, s_icne, s_ifeq, s_iflt, s_ifge, s_ifgt, s_ifle, s_iceq, s_iclt, s_icge, s_icgt, s_icle, s_ifnull, s_ifnonnull, s_is, s_ls, s_as, s_ii, s_gi, s_gl, s_gr, s_pi, s_pz, s_pl, s_pr, s_iald, s_zald, s_lald, s_aald, s_alen, s_iast, s_zast, s_last, s_iret, s_zret, s_lret, s_aret, s_vret, s_sw, s_aast, mm_sw, mm_ld, mm_s1, mm_s2, mm_kl, Value.category, va_rf, List.nil_append, List.cons_append, Option.toList, true_and, and_true, and_self, true_or, or_true, eq_self, not_true_eq_false, false_implies, true_implies, not_false_eq_true, mm_10, mm_01, false_or, or_false, Nat.left_eq_add, Nat.add_eq_left, Nat.add_left_cancel_iff, Nat.reduceEqDiff, false_and, and_false, reduceIte, mm_kd_pi, mm_ln_pi, mm_gl_pi, mm_gr_pi, mm_sz_pi, mm_gi_pi, mm_kd_pl, mm_ln_pl, mm_gi_pl, mm_gr_pl, mm_sz_pl, mm_gl_pl, mm_kd_pr, mm_ln_pr, mm_gi_pr, mm_gl_pr, mm_sz_pr, mm_gr_pr, mm_kd_pa, mm_ln_pa, mm_gl_pa, mm_gr_pa, mm_sz_pa, mm_gi_pa, l_3, nI_add]
        exact ih (i + 3) S c (b + 1) _ (by omega) (by omega) e (MR_blot J)
      refine t_X10_row_35 _ _ _ ?_
      simp only [s_iadd, s_isub, s_imul, s_iand, s_ior, s_ixor, s_ishl, s_ishr, s_iushr, s_idiv, s_irem, s_ladd, s_lsub, s_lmul, s_ldiv, s_lrem, s_ineg, s_i2l, s_l2i, s_i2c, s_lcmp, s_ic, s_lc, s_nul, s_str, s_il, s_ll, s_al, s_dup, s_dup2, s_pop, s_ifne, s_icne, s_ifeq, s_iflt, s_ifge, s_ifgt, s_ifle, s_iceq, s_iclt, s_icge, s_icgt, s_icle, s_ifnull, s_ifnonnull, s_is, s_ls, s_as, s_ii, s_gi, s_gl, s_gr, s_pi, s_pz, s_pl, s_pr, s_iald, s_zald, s_lald, s_aald, s_alen, s_iast, s_zast, s_last, s_iret, s_zret, s_lret, s_aret, s_vret, s_sw, s_aast, mm_sw, mm_ld, mm_s1, mm_s2, mm_kl, Value.category, va_rf, List.nil_append, List.cons_append, Option.toList, true_and, and_true, and_self, true_or, or_true, eq_self, not_true_eq_false, false_implies, true_implies, not_false_eq_true, mm_10, mm_01, false_or, or_false, Nat.left_eq_add, Nat.add_eq_left, Nat.add_left_cancel_iff, Nat.reduceEqDiff, false_and, and_false, reduceIte, mm_kd_pi, mm_ln_pi, mm_gl_pi, mm_gr_pi, mm_sz_pi, mm_gi_pi, mm_kd_pl, mm_ln_pl, mm_gi_pl, mm_gr_pl, mm_sz_pl, mm_gl_pl, mm_kd_pr, mm_ln_pr, mm_gi_pr, mm_gl_pr, mm_sz_pr, mm_gr_pr, mm_kd_pa, mm_ln_pa, mm_gl_pa, mm_gr_pa, mm_sz_pa, mm_gi_pa, W_kd_91 Hh, W_s_91 Hh, W_gr_91_2 Hh, W_gr_91_3 Hh, W_gr_91_4 Hh, W_gr_91_5 Hh, W_gr_91_6 Hh, W_gr_91_7 Hh, W_gr_91_9 Hh, W_gr_91_10 Hh, W_gr_91_12 Hh, W_gr_91_22 Hh, W_gr_91_24 Hh, W_gr_91_25 Hh, W_gr_91_27 Hh, W_gr_91_28 Hh, W_gr_91_31 Hh, W_gr_91_32 Hh, W_gr_91_33 Hh, W_gr_91_35 Hh, W_gr_91_36 Hh, W_gr_91_37 Hh, W_gr_91_41 Hh, W_gr_91_42 Hh, W_gr_91_43 Hh, W_gr_91_44 Hh, W_gr_91_45 Hh, W_gr_91_46 Hh, W_gr_91_47 Hh, W_gr_91_48 Hh, W_gr_91_49 Hh, W_gr_91_55 Hh, W_kd_100 Hh, W_s_100 Hh, W_ln_100 Hh, nI_leI (show n < 2 ^ 31 by omega) (show i < 2 ^ 31 by omega), show (n ≤ i) = False by simp; omega, l_2, l_1, nI_add, nI_leI (show n < 2 ^ 31 by omega) (show i + 2 < 2 ^ 31 by omega), nI_clamp (show i < 2 ^ 31 by omega), nI_clamp (show i + 1 < 2 ^ 31 by omega), nI_clamp (show i + 2 < 2 ^ 31 by omega), vp_in_nI (show i < 400 by omega) (show 400 < 2 ^ 31 by decide)]
      refine ⟨fun y => blot (fun q => by have := q.1; omega), fun y => ⟨vp_in_nI (by omega) (by decide), vp_in_nI (by omega) (by decide), ?_⟩⟩
      have b0 := hb i (by omega)
      have b1 := hb (i + 1) (by omega)
      have b2 := hb (i + 2) (by omega)
      have h100 := fun j => J.2.1 100 j (by decide) (by decide)
      rw [h100, h100, h100, b0.1, b1.1, b2.1]
      have L8 := J.2.2.2.2.2.1.1.1
      refine c_X10_row_70 (bb := (0, 0)) (b := (0, 0)) (Nat.le_of_ble_eq_true rfl) ⟨rfl, rfl⟩ (W_kd_91 Hh) (W_s_91 Hh) (sp_come Hh J.2.2.2.2.1.1.1 L8 (fun q => ?_) (fun q1 q2 q3 q4 => ?_) (fun q1 q2 q3 q4 => ?_)) <;> refine t_X10_row_73 _ _ _ ?_
      · simp only [s_iadd, s_isub, s_imul, s_iand, s_ior, s_ixor, s_ishl, s_ishr, s_iushr, s_idiv, s_irem, s_ladd, s_lsub, s_lmul, s_ldiv, s_lrem, s_ineg, s_i2l, s_l2i, s_i2c, s_lcmp, s_ic, s_lc, s_nul, s_str, s_il, s_ll, s_al, s_dup, s_dup2, s_pop, s_ifne, s_icne, s_ifeq, s_iflt, s_ifge, s_ifgt, s_ifle, s_iceq, s_iclt, s_icge, s_icgt, s_icle, s_ifnull, s_ifnonnull, s_is, s_ls, s_as, s_ii, s_gi, s_gl, s_gr, s_pi, s_pz, s_pl, s_pr, s_iald, s_zald, s_lald, s_aald, s_alen, s_iast, s_zast, s_last, s_iret, s_zret, s_lret, s_aret, s_vret, s_sw, s_aast, mm_sw, mm_ld, mm_s1, mm_s2, mm_kl, Value.category, va_rf, List.nil_append, List.cons_append, Option.toList, true_and, and_true, and_self, true_or, or_true, eq_self, not_true_eq_false, false_implies, true_implies, not_false_eq_true, mm_10, mm_01, false_or, or_false, Nat.left_eq_add, Nat.add_eq_left, Nat.add_left_cancel_iff, Nat.reduceEqDiff, false_and, and_false, reduceIte, mm_kd_pi, mm_ln_pi, mm_gl_pi, mm_gr_pi, mm_sz_pi, mm_gi_pi, mm_kd_pl, mm_ln_pl, mm_gi_pl, mm_gr_pl, mm_sz_pl, mm_gl_pl, mm_kd_pr, mm_ln_pr, mm_gi_pr, mm_gl_pr, mm_sz_pr, mm_gr_pr, mm_kd_pa, mm_ln_pa, mm_gl_pa, mm_gr_pa, mm_sz_pa, mm_gi_pa, show ((-1 : Int32) < 0) = True by decide]
        exact blot (fun r => q ⟨vp_in_nI b0.2 (by decide), vp_in_nI b1.2 (by decide), vp_in_nI r.2.2 (by decide)⟩)
      · simp only [s_iadd, s_isub, s_imul, s_iand, s_ior, s_ixor, s_ishl, s_ishr, s_iushr, s_idiv, s_irem, s_ladd, s_lsub, s_lmul, s_ldiv, s_lrem, s_ineg, s_i2l, s_l2i, s_i2c, s_lcmp, s_ic, s_lc, s_nul, s_str, s_il, s_ll, s_al, s_dup, s_dup2, s_pop, s_ifne, s_icne, s_ifeq, s_iflt, s_ifge, s_ifgt, s_ifle, s_iceq, s_iclt, s_icge, s_icgt, s_icle, s_ifnull, s_ifnonnull, s_is, s_ls, s_as, s_ii, s_gi, s_gl, s_gr, s_pi, s_pz, s_pl, s_pr, s_iald, s_zald, s_lald, s_aald, s_alen, s_iast, s_zast, s_last, s_iret, s_zret, s_lret, s_aret, s_vret, s_sw, s_aast, mm_sw, mm_ld, mm_s1, mm_s2, mm_kl, Value.category, va_rf, List.nil_append, List.cons_append, Option.toList, true_and, and_true, and_self, true_or, or_true, eq_self, not_true_eq_false, false_implies, true_implies, not_false_eq_true, mm_10, mm_01, false_or, or_false, Nat.left_eq_add, Nat.add_eq_left, Nat.add_left_cancel_iff, Nat.reduceEqDiff, false_and, and_false, reduceIte, mm_kd_pi, mm_ln_pi, mm_gl_pi, mm_gr_pi, mm_sz_pi, mm_gi_pi, mm_kd_pl, mm_ln_pl, mm_gi_pl, mm_gr_pl, mm_sz_pl, mm_gl_pl, mm_kd_pr, mm_ln_pr, mm_gi_pr, mm_gl_pr, mm_sz_pr, mm_gr_pr, mm_kd_pa, mm_ln_pa, mm_gl_pa, mm_gr_pa, mm_sz_pa, mm_gi_pa, show ((-5 : Int32) < 0) = True by decide]
        exact blot (fun r => by have := r.2.1; omega)
      · simp only [s_iadd, s_isub, s_imul, s_iand, s_ior, s_ixor, s_ishl, s_ishr, s_iushr, s_idiv, s_irem, s_ladd, s_lsub, s_lmul, s_ldiv, s_lrem, s_ineg, s_i2l, s_l2i, s_i2c, s_lcmp, s_ic, s_lc, s_nul, s_str, s_il, s_ll, s_al, s_dup, s_dup2, s_pop, s_ifne, s_icne, s_ifeq, s_iflt, s_ifge, s_ifgt, s_ifle, s_iceq, s_iclt, s_icge, s_icgt, s_icle, s_ifnull, s_ifnonnull, s_is, s_ls, s_as, s_ii, s_gi, s_gl, s_gr, s_pi, s_pz, s_pl, s_pr, s_iald, s_zald, s_lald, s_aald, s_alen, s_iast, s_zast, s_last, s_iret, s_zret, s_lret, s_aret, s_vret, s_sw, s_aast, mm_sw, mm_ld, mm_s1, mm_s2, mm_kl, Value.category, va_rf, List.nil_append, List.cons_append, Option.toList, true_and, and_true, and_self, true_or, or_true, eq_self, not_true_eq_false, false_implies, true_implies, not_false_eq_true, mm_10, mm_01, false_or, or_false, Nat.left_eq_add, Nat.add_eq_left, Nat.add_left_cancel_iff, Nat.reduceEqDiff, false_and, and_false, reduceIte, mm_kd_pi, mm_ln_pi, mm_gl_pi, mm_gr_pi, mm_sz_pi, mm_gi_pi, mm_kd_pl, mm_ln_pl, mm_gi_pl, mm_gr_pl, mm_sz_pl, mm_gl_pl, mm_kd_pr, mm_ln_pr, mm_gi_pr, mm_gl_pr, mm_sz_pr, mm_gr_pr, mm_kd_pa, mm_ln_pa, mm_gl_pa, mm_gr_pa, mm_sz_pa, mm_gi_pa, show (nI (S 0 0) < 0) = False by simp [nI_pos (show S 0 0 < 2 ^ 31 by omega)], nI_1]
        have r : rowOk bs n i S := ⟨by omega, q4, by
          obtain ⟨j, hj, e'⟩ := vp_in_of q3 (by decide)
          have := (nI_eq (by omega) (by omega)).mp e'
          omega⟩
        rw [if_pos r] at e
        refine t_X10_row_92 _ _ _ ?_
        simp only [s_iadd, s_isub, s_imul, s_iand, s_ior, s_ixor, s_ishl, s_ishr, s_iushr, s_idiv, s_irem, s_ladd, s_lsub, s_lmul, s_ldiv, s_lrem, s_ineg, s_i2l, s_l2i, s_i2c, s_lcmp, s_ic, s_lc, s_nul, s_str, s_il, s_ll, s_al, s_dup, s_dup2, s_pop, s_ifne, s_icne, s_ifeq, s_iflt, s_ifge, s_ifgt, s_ifle, s_iceq, s_iclt, s_icge, s_icgt, s_icle, s_ifnull, s_ifnonnull, s_is, s_ls, s_as, s_ii, s_gi, s_gl, s_gr, s_pi, s_pz, s_pl, s_pr, s_iald, s_zald, s_lald, s_aald, s_alen, s_iast, s_zast, s_last, s_iret, s_zret, s_lret, s_aret, s_vret, s_sw, s_aast, mm_sw, mm_ld, mm_s1, mm_s2, mm_kl, Value.category, va_rf, List.nil_append, List.cons_append, Option.toList, true_and, and_true, and_self, true_or, or_true, eq_self, not_true_eq_false, false_implies, true_implies, not_false_eq_true, mm_10, mm_01, false_or, or_false, Nat.left_eq_add, Nat.add_eq_left, Nat.add_left_cancel_iff, Nat.reduceEqDiff, false_and, and_false, reduceIte, mm_kd_pi, mm_ln_pi, mm_gl_pi, mm_gr_pi, mm_sz_pi, mm_gi_pi, mm_kd_pl, mm_ln_pl, mm_gi_pl, mm_gr_pl, mm_sz_pl, mm_gl_pl, mm_kd_pr, mm_ln_pr, mm_gi_pr, mm_gl_pr, mm_sz_pr, mm_gr_pr, mm_kd_pa, mm_ln_pa, mm_gl_pa, mm_gr_pa, mm_sz_pa, mm_gi_pa, l_3, nI_add]
        exact ih (i + 3) _ (c + 1) b _ (by omega) (by omega) e (MR_add J q4 b0.2 b1.2 r.2.2)
    · rw [rowF, if_neg z] at e
      exact out i S c b h (by omega) hi2 e J
theorem rowF_c (bs : Nat → Nat) (n : Nat) : ∀ m i S c b, (rowF bs n m i S c b).2.1 ≤ c + m
  | 0, _, _, _, _ => Nat.le_refl _
  | m + 1, i, S, c, b => by
    simp only [rowF]
    split
    · split
      · have := rowF_c bs n m (i + 3) (addS S (bs i) (bs (i + 1)) (bs (i + 2))) (c + 1) b; omega
      · have := rowF_c bs n m (i + 3) S c (b + 1); omega
    · show c ≤ _; omega
theorem ms_row {n : Nat} {bs : Nat → Nat} {S : HSt} (H : WS h) (v : HV S) (hm : HM (mm_gi h 93) 0 S) (hn : mm_gi h 91 13 = nI n) (hn4 : n ≤ 400) (hb : ∀ j, j < n → mm_gi h 100 j = nI (bs j) ∧ bs j < 256) (k0 : n = 0 → K (some (.int (-6))) (tlH (mm_pi (mm_pi h 91 0 0) 91 13 0) (-6) 6)) (k1 : n ≠ 0 → ∀ g, MR (mm_pi (mm_pi (mm_pi h 91 0 0) 91 13 0) 91 11 0) g (rowF bs n n 0 S 0 0).1 (rowF bs n n 0 S 0 0).2.2 → K (some (.int (nI (rowF bs n n 0 S 0 0).2.1))) (mm_pi (mm_pi g 91 8 0) 91 1 0)) : mm_MV q_X10_row (d + 3) (0, 0) [.ref 91] h K := by
  refine e_X10_row (t_X10_row_0 _ _ _ ?_)
  simp only [s_iadd, s_isub, s_imul, s_iand, s_ior, s_ixor, s_ishl, s_ishr, s_iushr, s_idiv, s_irem, s_ladd, s_lsub, s_lmul, s_ldiv, s_lrem, s_ineg, s_i2l, s_l2i, s_i2c, s_lcmp, s_ic, s_lc, s_nul, s_str, s_il, s_ll, s_al, s_dup, s_dup2, s_pop, s_ifne, s_icne, s_ifeq, s_iflt, s_ifge, s_ifgt, s_ifle, s_iceq, s_iclt, s_icge, s_icgt, s_icle, s_ifnull, s_ifnonnull, s_is, s_ls, s_as, s_ii, s_gi, s_gl, s_gr, s_pi, s_pz, s_pl, s_pr, s_iald, s_zald, s_lald, s_aald, s_alen, s_iast, s_zast, s_last, s_iret, s_zret, s_lret, s_aret, s_vret, s_sw, s_aast, mm_sw, mm_ld, mm_s1, mm_s2, mm_kl, Value.category, va_rf, List.nil_append, List.cons_append, Option.toList, true_and, and_true, and_self, true_or, or_true, eq_self, not_true_eq_false, false_implies, true_implies, not_false_eq_true, mm_10, mm_01, false_or, or_false, Nat.left_eq_add, Nat.add_eq_left, Nat.add_left_cancel_iff, Nat.reduceEqDiff, false_and, and_false, reduceIte, mm_kd_pi, mm_ln_pi, mm_gl_pi, mm_gr_pi, mm_sz_pi, mm_gi_pi, mm_kd_pl, mm_ln_pl, mm_gi_pl, mm_gr_pl, mm_sz_pl, mm_gl_pl, mm_kd_pr, mm_ln_pr, mm_gi_pr, mm_gl_pr, mm_sz_pr, mm_gr_pr, mm_kd_pa, mm_ln_pa, mm_gl_pa, mm_gr_pa, mm_sz_pa, mm_gi_pa, W_kd_91 H, W_s_91 H, W_gr_91_2 H, W_gr_91_3 H, W_gr_91_4 H, W_gr_91_5 H, W_gr_91_6 H, W_gr_91_7 H, W_gr_91_9 H, W_gr_91_10 H, W_gr_91_12 H, W_gr_91_22 H, W_gr_91_24 H, W_gr_91_25 H, W_gr_91_27 H, W_gr_91_28 H, W_gr_91_31 H, W_gr_91_32 H, W_gr_91_33 H, W_gr_91_35 H, W_gr_91_36 H, W_gr_91_37 H, W_gr_91_41 H, W_gr_91_42 H, W_gr_91_43 H, W_gr_91_44 H, W_gr_91_45 H, W_gr_91_46 H, W_gr_91_47 H, W_gr_91_48 H, W_gr_91_49 H, W_gr_91_55 H, show (13 = 0) = False by decide, hn]
  refine ⟨fun c => ?_, fun c => ?_⟩
  · have n0 : n ≠ 0 := fun z => c (by rw [z]; rfl)
    have e93 : mm_gi (mm_pi (mm_pi (mm_pi h 91 0 0) 91 13 0) 91 11 0) 93 = mm_gi h 93 := funext fun j => by simp [mm_gi_pi]
    refine lm_row (h0 := mm_pi (mm_pi (mm_pi h 91 0 0) 91 13 0) 91 11 0) (n := n) (bs := bs) H hn4 (fun j hj => by simp only [mm_gi_pi, show (100 = 91) = False by decide, false_and, if_false]; exact hb j hj) _ (by have := rowF_c bs n n 0 S 0 0; omega) (k1 n0) n 0 S 0 0 _ (by omega) (by omega) rfl ⟨⟨rfl, rfl, rfl, rfl, rfl⟩, fun _ _ _ _ => rfl, fun _ _ => rfl, by rw [mm_gi_pi, if_pos ⟨rfl, rfl⟩]; rfl, by rw [e93]; exact hm, v, fun _ _ => rfl⟩
  · refine c_X10_row_22 (bb := (0, 0)) (b := (0, 0)) (Nat.le_of_ble_eq_true rfl) ⟨rfl, rfl⟩ (W_kd_91 H) (W_s_91 H) (sp_tell_no (p := 6) (h := mm_pi (mm_pi h 91 0 0) 91 13 0) H (by simp) ?_)
    refine t_X10_row_25 _ _ _ ?_
    simp only [s_iadd, s_isub, s_imul, s_iand, s_ior, s_ixor, s_ishl, s_ishr, s_iushr, s_idiv, s_irem, s_ladd, s_lsub, s_lmul, s_ldiv, s_lrem, s_ineg, s_i2l, s_l2i, s_i2c, s_lcmp, s_ic, s_lc, s_nul, s_str, s_il, s_ll, s_al, s_dup, s_dup2, s_pop, s_ifne, s_icne, s_ifeq, s_iflt, s_ifge, s_ifgt, s_ifle, s_iceq, s_iclt, s_icge, s_icgt, s_icle, s_ifnull, s_ifnonnull, s_is, s_ls, s_as, s_ii, s_gi, s_gl, s_gr, s_pi, s_pz, s_pl, s_pr, s_iald, s_zald, s_lald, s_aald, s_alen, s_iast, s_zast, s_last, s_iret, s_zret, s_lret, s_aret, s_vret, s_sw, s_aast, mm_sw, mm_ld, mm_s1, mm_s2, mm_kl, Value.category, va_rf, List.nil_append, List.cons_append, Option.toList, true_and, and_true, and_self, true_or, or_true, eq_self, not_true_eq_false, false_implies, true_implies, not_false_eq_true, mm_10, mm_01, false_or, or_false, Nat.left_eq_add, Nat.add_eq_left, Nat.add_left_cancel_iff, Nat.reduceEqDiff, false_and, and_false, reduceIte, mm_kd_pi, mm_ln_pi, mm_gl_pi, mm_gr_pi, mm_sz_pi, mm_gi_pi, mm_kd_pl, mm_ln_pl, mm_gi_pl, mm_gr_pl, mm_sz_pl, mm_gl_pl, mm_kd_pr, mm_ln_pr, mm_gi_pr, mm_gl_pr, mm_sz_pr, mm_gr_pr, mm_kd_pa, mm_ln_pa, mm_gl_pa, mm_gr_pa, mm_sz_pa, mm_gi_pa]
    exact k0 ((nI_eq (by omega) (by decide)).mp (c.trans nI_0.symm))
end
section
variable {LR : mmH → Nat → (Nat → Int32) → Nat → Prop}
theorem op_8 (FR : LRf LR) : OP_8 (Inv LR) := by
  intro h hI
  obtain ⟨hw, hms, ⟨n, n4, t1, t2, t3⟩, ⟨S, v, hc, hm, hl, htr⟩, _⟩ := id hI
  have hbs : ∃ bs : Nat → Nat, ∀ i, i < n → bs i < 256 ∧ mm_gi h 55 i = nI (bs i) ∧ mm_gi h 100 i = nI (bs i) := by
    refine ⟨fun i => if q : i < n then (t3 i q).choose else 0, fun i hi => ?_⟩
    simp only [hi, dif_pos]
    exact (t3 i hi).choose_spec
  obtain ⟨bs, hbs⟩ := hbs
  refine sp_row (d := 998) (bs := bs) hw v hc t1 n4 (fun j hj => ⟨(hbs j hj).2.1, (hbs j hj).1⟩) (fun e => ?_) (fun n0 g J => ?_)
  · subst e
    have e93 : mm_gi (rfH h (-6) 4) 93 = mm_gi h 93 := funext fun j => by simp [rfH, mm_gi_pi]
    refine no_pr (h := h) (g := rfH h (-6) 4) hw (ms_row (d := 997) (n := 0) (bs := bs) (S := S) (h := rfH h (-6) 4) hw v (by rw [e93]; exact hm) (by simpa [rfH, mm_gi_pi] using t2) (by omega) (fun j hj => by omega) (fun _ => ⟨rfl, ?_⟩) (fun z => absurd rfl z))
    have e : mm_pi (mm_pi (rfH h (-6) 4) 91 0 0) 91 13 0 = mm_pi (rfH h (-6) 4) 91 0 0 := by
      have := mm_pi_id (mm_pi (rfH h (-6) 4) 91 0 0) 91 13
      rwa [show mm_gi (mm_pi (rfH h (-6) 4) 91 0 0) 91 13 = 0 by simp [rfH, mm_gi_pi, t2]; rfl] at this
    rw [e]
    exact Inv_rf FR (by simp) hI
  · obtain ⟨J5, j1, j2, j3, jc, jv⟩ := J
    have ge : ∀ c j, c ≠ 0 → c ≠ 4 → c ≠ 5 → c ≠ 6 → c ≠ 7 → c ≠ 50 → c ≠ 54 → mm_gi (acH (mm_pi g 54 1 0)) c j = mm_gi h c j := fun c j a1 a2 a3 a4 a5 a6 a7 => by
      rw [acH, mm_gi_pi, if_neg (by omega), mm_gi_pi, if_neg (by omega), j1 c j a1 a2 a3 a4 a5, mm_gi_pi, if_neg (by omega), mm_gi_pi, if_neg (by omega)]
    have gw : WS (acH (mm_pi g 54 1 0)) := WS_same (h := h) J5 hw
    have e93 : mm_gi (acH (mm_pi g 54 1 0)) 93 = mm_gi h 93 := funext fun j => ge 93 j (by decide) (by decide) (by decide) (by decide) (by decide) (by decide) (by decide)
    refine no_pr (h := h) (g := acH (mm_pi g 54 1 0)) gw (ms_row (d := 997) (n := n) (bs := bs) (S := S) (h := acH (mm_pi g 54 1 0)) gw v (by rw [e93]; exact hm) (by rw [ge 91 13 (by decide) (by decide) (by decide) (by decide) (by decide) (by decide) (by decide)]; exact t2) n4 (fun j hj => by rw [ge 100 j (by decide) (by decide) (by decide) (by decide) (by decide) (by decide) (by decide)]; exact ⟨(hbs j hj).2.2, (hbs j hj).1⟩) (fun z => absurd z n0) (fun _ k M => ⟨rfl, ?_⟩))
    obtain ⟨M5, m1, m2, m3, mc, mv, mf⟩ := M
    generalize hR : rowF bs n n 0 S 0 0 = R at *
    have R3 : R.1 0 3 = S 0 3 := by rw [← hR]; exact rowF_3 bs n n 0 S 0 0
    have ek : ∀ c j, c ≠ 91 → c ≠ 93 → mm_gi (mm_pi (mm_pi k 91 8 0) 91 1 0) c j = mm_gi (acH (mm_pi g 54 1 0)) c j := fun c j a1 a2 => by
      rw [mm_gi_pi, if_neg (by omega), mm_gi_pi, if_neg (by omega), m1 c j a1 a2, mm_gi_pi, if_neg (by omega), mm_gi_pi, if_neg (by omega), mm_gi_pi, if_neg (by omega)]
    have ek91 : ∀ j, j ≠ 0 → j ≠ 1 → j ≠ 8 → j ≠ 11 → j ≠ 13 → mm_gi (mm_pi (mm_pi k 91 8 0) 91 1 0) 91 j = mm_gi h 91 j := fun j a1 a2 a3 a4 a5 => by
      rw [mm_gi_pi, if_neg (by omega), mm_gi_pi, if_neg (by omega), m2 j a4, mm_gi_pi, if_neg (by omega), mm_gi_pi, if_neg (by omega), mm_gi_pi, if_neg (by omega), ge 91 j (by decide) (by decide) (by decide) (by decide) (by decide) (by decide) (by decide)]
    have k93 : mm_gi (mm_pi (mm_pi k 91 8 0) 91 1 0) 93 = mm_gi k 93 := funext fun j => by rw [mm_gi_pi, if_neg (by omega), mm_gi_pi, if_neg (by omega)]
    have h5 : same5 h (mm_pi (mm_pi k 91 8 0) 91 1 0) := ⟨M5.1.trans J5.1, M5.2.1.trans J5.2.1, M5.2.2.1.trans J5.2.2.1, M5.2.2.2.1.trans J5.2.2.2.1, M5.2.2.2.2.trans J5.2.2.2.2⟩
    have eo : ∀ c j, c ≠ 0 → c ≠ 4 → c ≠ 5 → c ≠ 6 → c ≠ 7 → c ≠ 50 → c ≠ 54 → c ≠ 91 → c ≠ 93 → mm_gi (mm_pi (mm_pi k 91 8 0) 91 1 0) c j = mm_gi h c j := fun c j a1 a2 a3 a4 a5 a6 a7 a8 a9 => by rw [ek c j a8 a9, ge c j a1 a2 a3 a4 a5 a6 a7]
    have g0 : ∀ j, j ≠ 12 → j ≠ 14 → mm_gi (mm_pi (mm_pi k 91 8 0) 91 1 0) 0 j = mm_gi h 0 j := fun j a1 a2 => by
      rw [ek 0 j (by decide) (by decide), acH, mm_gi_pi, if_neg (by omega), mm_gi_pi, if_neg (by omega), j2 j a2, mm_gi_pi, if_neg (by omega), mm_gi_pi, if_neg (by omega)]
    refine Inv_h (S := S) (S' := R.1) FR hI h5 hl ?_ ⟨0, by decide, ?_, ?_, fun i hi => by omega⟩ mv ?_ (by rw [k93]; exact mc) R3 (I_trail_0 ?_ ?_) (fun j hj => ?_) (fun c j hk => ?_)
    · obtain ⟨⟨a1, a2, a3, a4⟩, a5, a6, a7, a8, a9⟩ := hms
      have E := fun c j a8 => eo c j a8
      refine ⟨⟨?_, ?_, ?_, ?_⟩, ?_, ?_, ?_, ?_, ?_⟩
      · rw [ek 0 12 (by decide) (by decide)]; simp [acH, mm_gi_pi]
      · rw [g0 13 (by decide) (by decide), ek91 52 (by decide) (by decide) (by decide) (by decide) (by decide)]; exact a2
      · rw [ek 0 14 (by decide) (by decide), acH, mm_gi_pi, if_neg (by decide), mm_gi_pi, if_neg (by decide), j3, mm_gi_pi, if_neg (by decide), mm_gi_pi, if_neg (by decide), m3]
      · rw [eo 56 4 (by decide) (by decide) (by decide) (by decide) (by decide) (by decide) (by decide) (by decide) (by decide), ek91 18 (by decide) (by decide) (by decide) (by decide) (by decide)]; exact a4
      · rw [eo 90 0 (by decide) (by decide) (by decide) (by decide) (by decide) (by decide) (by decide) (by decide) (by decide), eo 92 1 (by decide) (by decide) (by decide) (by decide) (by decide) (by decide) (by decide) (by decide) (by decide)]; exact a5
      · rw [eo 90 1 (by decide) (by decide) (by decide) (by decide) (by decide) (by decide) (by decide) (by decide) (by decide), eo 92 2 (by decide) (by decide) (by decide) (by decide) (by decide) (by decide) (by decide) (by decide) (by decide)]; exact a6
      · rw [eo 90 2 (by decide) (by decide) (by decide) (by decide) (by decide) (by decide) (by decide) (by decide) (by decide), eo 92 3 (by decide) (by decide) (by decide) (by decide) (by decide) (by decide) (by decide) (by decide) (by decide)]; exact a7
      · rw [eo 90 3 (by decide) (by decide) (by decide) (by decide) (by decide) (by decide) (by decide) (by decide) (by decide), eo 92 5 (by decide) (by decide) (by decide) (by decide) (by decide) (by decide) (by decide) (by decide) (by decide)]; exact a8
      · rw [eo 90 4 (by decide) (by decide) (by decide) (by decide) (by decide) (by decide) (by decide) (by decide) (by decide), eo 92 6 (by decide) (by decide) (by decide) (by decide) (by decide) (by decide) (by decide) (by decide) (by decide)]; exact a9
    · rw [ek 54 1 (by decide) (by decide), acH, mm_gi_pi, if_neg (by decide), mm_gi_pi, if_pos ⟨rfl, rfl⟩]; rfl
    · rw [mm_gi_pi, if_neg (by decide), mm_gi_pi, if_neg (by decide), m2 13 (by decide), mm_gi_pi, if_neg (by decide), mm_gi_pi, if_pos ⟨rfl, rfl⟩]; rfl
    · exact HC_cg (fun c j c1 c2 => by rw [ek c j (by omega) (by omega), acH, mm_gi_pi, if_neg (by omega), mm_gi_pi, if_neg (by omega)]) jc
    · rw [ek 50 1 (by decide) (by decide), acH, mm_gi_pi, if_neg (by decide), mm_gi_pi, if_neg (by decide), j1 50 1 (by decide) (by decide) (by decide) (by decide) (by decide), mm_gi_pi, if_neg (by decide), mm_gi_pi, if_pos ⟨rfl, rfl⟩]; rfl
    · rw [mm_gi_pi, if_neg (by decide), mm_gi_pi, if_pos ⟨rfl, rfl⟩]; rfl
    · rw [k93, mf j hj, mm_gi_pi, if_neg (by omega), mm_gi_pi, if_neg (by omega), mm_gi_pi, if_neg (by omega), e93]
    · unfold kpc at hk
      by_cases z : c = 91
      · subst z; exact ek91 j (by omega) (by omega) (by omega) (by omega) (by omega)
      · exact eo c j (by omega) (by omega) (by omega) (by omega) (by omega) (by omega) (by omega) z (by omega)
end
