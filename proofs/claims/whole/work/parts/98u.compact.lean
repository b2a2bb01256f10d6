/-! a text is copied into a room of its own -/
def flT (k : Nat) : Nat := if k < 5 then k + 1 else k + 2
def lnT (N z k : Nat) : Nat := if k < 5 then N else z
def fg (h g : mmH) : Prop := mm_sz h ≤ mm_sz g ∧ ∀ c, c < mm_sz h → mm_kd g c = mm_kd h c ∧ mm_ln g c = mm_ln h c ∧ (∀ j, mm_gi g c j = mm_gi h c j) ∧ (∀ j, mm_gl g c j = mm_gl h c j) ∧ ∀ j, mm_gr g c j = mm_gr h c j
def ALx (h0 : mmH) (N z k : Nat) (g : mmH) : Prop := mm_sz g = mm_sz h0 + 1 + k ∧ fg h0 g ∧ mm_kd g (mm_sz h0) = 6 ∧ ∀ i, i < k → mm_kd g (mm_sz h0 + 1 + i) = 100 ∧ mm_ln g (mm_sz h0 + 1 + i) = lnT N z i ∧ mm_gr g (mm_sz h0) (flT i) = some (mm_sz h0 + 1 + i)
section
variable {d : Nat} {b : Nat × Nat} {h h0 g : mmH} {K : Option Value → mmH → Prop} {N z k : Nat}
theorem AL_0 : ALx h0 N z 0 (mm_nw h0 6 9) := by
  refine ⟨rfl, ⟨by rw [mm_sz_nw]; omega, fun c hc => ⟨?_, ?_, fun j => ?_, fun j => ?_, fun j => ?_⟩⟩, ?_, fun i hi => by omega⟩
  · rw [mm_kd_nw, if_neg (by omega)]
  · rw [mm_ln_nw, if_neg (by omega)]
  · rw [mm_gi_nw, if_neg (by omega)]
  · rw [mm_gl_nw, if_neg (by omega)]
  · rw [mm_gr_nw, if_neg (by omega)]
  · rw [mm_kd_nw, if_pos rfl]
theorem flT_inj {i j : Nat} (h : flT i = flT j) : i = j := by
  unfold flT at h
  split at h <;> split at h <;> omega
theorem AL_s {f l : Nat} (A : ALx h0 N z k g) (hf : flT k = f) (hl : lnT N z k = l) : ALx h0 N z (k + 1) (mm_pr (mm_nw g 100 l) (mm_sz h0) f (some (mm_sz g))) := by
  subst hf hl
  obtain ⟨a1, ⟨a2, a3⟩, a4, a5⟩ := A
  refine ⟨by rw [mm_sz_pr, mm_sz_nw]; omega, ⟨by rw [mm_sz_pr, mm_sz_nw]; omega, fun c hc => ?_⟩, ?_, fun i hi => ?_⟩
  · obtain ⟨b1, b2, b3, b4, b5⟩ := a3 c hc
    refine ⟨?_, ?_, fun j => ?_, fun j => ?_, fun j => ?_⟩
    · rw [mm_kd_pr, mm_kd_nw, if_neg (by omega)]; exact b1
    · rw [mm_ln_pr, mm_ln_nw, if_neg (by omega)]; exact b2
    · rw [mm_gi_pr, mm_gi_nw, if_neg (by omega)]; exact b3 j
    · rw [mm_gl_pr, mm_gl_nw, if_neg (by omega)]; exact b4 j
    · rw [mm_gr_pr, if_neg (by omega), mm_gr_nw, if_neg (by omega)]; exact b5 j
  · rw [mm_kd_pr, mm_kd_nw, if_neg (by omega)]; exact a4
  · rw [mm_kd_pr, mm_ln_pr, mm_kd_nw, mm_ln_nw, mm_gr_pr, mm_gr_nw]
    by_cases q : i = k
    · subst q
      rw [if_pos (by omega), if_pos (by omega), if_pos ⟨rfl, rfl⟩, a1]
      exact ⟨rfl, rfl, rfl⟩
    · rw [if_neg (by omega), if_neg (by omega), if_neg (fun y => q (flT_inj y.2)), if_neg (by omega)]
      exact a5 i (by omega)
theorem AL_w (A : ALx h0 N z k g) : mm_sz h0 < mm_sz g := by have := A.1; omega
theorem sp_xinit (A : ALx h0 N z 0 g) (hN : N ≤ 12) (hz : z ≤ 400) (k : ∀ g', ALx h0 N z 7 g' → K none g') : mm_MV q_X6_init (d + 1) (7 + b.1, 5 * N + 2 * z + b.2) [.ref (mm_sz h0), .int (nI N), .int (nI z)] g K := by
  have n0 : ¬ nI N < 0 := nI_pos (by omega)
  have z0 : ¬ nI z < 0 := nI_pos (by omega)
  have cN : (nI N).toNatClampNeg = N := nI_clamp (by omega)
  have cz : (nI z).toNatClampNeg = z := nI_clamp (by omega)
  refine e_X6_init (t_X6_init_0 _ _ _ ?_)
  simp only [s_iadd, s_isub, s_imul, s_iand, s_ior, s_ixor, s_ishl, s_ishr, s_iushr, s_idiv, s_irem, s_ladd, s_lsub, s_lmul, s_ldiv, s_lrem, s_ineg, s_i2l, s_l2i, s_i2c, s_lcmp, s_ic, s_lc, s_nul, s_str, s_il, s_ll, s_al, s_dup, s_dup2, s_pop, s_ifne, s_icne, s_ifeq, s_iflt, s_ifge, s_ifgt, s_ifle, s_iceq, s_iclt, s_icge, s_icgt, s_icle, s_ifnull, s_ifnonnull, s_is, s_ls, s_as, s_ii, s_gi, s_gl, s_gr, s_pi, s_pz, s_pl, s_pr, s_iald, s_zald, s_lald, s_aald, s_alen, s_iast, s_zast, s_last, s_iret, s_zret, s_lret, s_aret, s_vret, s_sw, s_aast, mm_sw, mm_ld, mm_s1, mm_s2, mm_kl, Value.category, va_rf, List.nil_append, List.cons_append, Option.toList, true_and, and_true, and_self, true_or, or_true, eq_self, not_true_eq_false, false_implies, true_implies, not_false_eq_true, mm_10, mm_01, false_or, or_false, Nat.left_eq_add, Nat.add_eq_left, Nat.add_left_cancel_iff, Nat.reduceEqDiff, false_and, and_false, reduceIte, mm_kd_pi, mm_ln_pi, mm_gl_pi, mm_gr_pi, mm_sz_pi, mm_gi_pi, mm_kd_pl, mm_ln_pl, mm_gi_pl, mm_gr_pl, mm_sz_pl, mm_gl_pl, mm_kd_pr, mm_ln_pr, mm_gi_pr, mm_gl_pr, mm_sz_pr, mm_gr_pr, mm_kd_pa, mm_ln_pa, mm_gl_pa, mm_gr_pa, mm_sz_pa, mm_gi_pa]
  refine c_X6_init_1 (st := []) (Nat.le_of_ble_eq_true rfl) ?_
  refine t_X6_init_4 _ _ _ ?_
  simp only [s_iadd, s_isub, s_imul, s_iand, s_ior, s_ixor, s_ishl, s_ishr, s_iushr, s_idiv, s_irem, s_ladd, s_lsub, s_lmul, s_ldiv, s_lrem, s_ineg, s_i2l, s_l2i, s_i2c, s_lcmp, s_ic, s_lc, s_nul, s_str, s_il, s_ll, s_al, s_dup, s_dup2, s_pop, s_ifne, s_icne, s_ifeq, s_iflt, s_ifge, s_ifgt, s_ifle, s_iceq, s_iclt, s_icge, s_icgt, s_icle, s_ifnull, s_ifnonnull, s_is, s_ls, s_as, s_ii, s_gi, s_gl, s_gr, s_pi, s_pz, s_pl, s_pr, s_iald, s_zald, s_lald, s_aald, s_alen, s_iast, s_zast, s_last, s_iret, s_zret, s_lret, s_aret, s_vret, s_sw, s_aast, mm_sw, mm_ld, mm_s1, mm_s2, mm_kl, Value.category, va_rf, List.nil_append, List.cons_append, Option.toList, true_and, and_true, and_self, true_or, or_true, eq_self, not_true_eq_false, false_implies, true_implies, not_false_eq_true, mm_10, mm_01, false_or, or_false, Nat.left_eq_add, Nat.add_eq_left, Nat.add_left_cancel_iff, Nat.reduceEqDiff, false_and, and_false, reduceIte, mm_kd_pi, mm_ln_pi, mm_gl_pi, mm_gr_pi, mm_sz_pi, mm_gi_pi, mm_kd_pl, mm_ln_pl, mm_gi_pl, mm_gr_pl, mm_sz_pl, mm_gl_pl, mm_kd_pr, mm_ln_pr, mm_gi_pr, mm_gl_pr, mm_sz_pr, mm_gr_pr, mm_kd_pa, mm_ln_pa, mm_gl_pa, mm_gr_pa, mm_sz_pa, mm_gi_pa]
  refine c_X6_init_6 (b := (6 + b.1, 4 * N + 2 * z + b.2)) n0 (by omega) ⟨by show 7 + b.1 = 1 + (6 + b.1); omega, by show 5 * N + 2 * z + b.2 = _ + (4 * N + 2 * z + b.2); omega⟩ ?_
  rw [cN]
  have A1 := AL_s A (show flT 0 = 1 from rfl) (show lnT N z 0 = N from rfl)
  refine t_X6_init_8 _ _ _ ?_
  simp only [s_iadd, s_isub, s_imul, s_iand, s_ior, s_ixor, s_ishl, s_ishr, s_iushr, s_idiv, s_irem, s_ladd, s_lsub, s_lmul, s_ldiv, s_lrem, s_ineg, s_i2l, s_l2i, s_i2c, s_lcmp, s_ic, s_lc, s_nul, s_str, s_il, s_ll, s_al, s_dup, s_dup2, s_pop, s_ifne, s_icne, s_ifeq, s_iflt, s_ifge, s_ifgt, s_ifle, s_iceq, s_iclt, s_icge, s_icgt, s_icle, s_ifnull, s_ifnonnull, s_is, s_ls, s_as, s_ii, s_gi, s_gl, s_gr, s_pi, s_pz, s_pl, s_pr, s_iald, s_zald, s_lald, s_aald, s_alen, s_iast, s_zast, s_last, s_iret, s_zret, s_lret, s_aret, s_vret, s_sw, s_aast, mm_sw, mm_ld, mm_s1, mm_s2, mm_kl, Value.category, va_rf, List.nil_append, List.cons_append, Option.toList, true_and, and_true, and_self, true_or, or_true, eq_self, not_true_eq_false, false_implies, true_implies, not_false_eq_true, mm_10, mm_01, false_or, or_false, Nat.left_eq_add, Nat.add_eq_left, Nat.add_left_cancel_iff, Nat.reduceEqDiff, false_and, and_false, reduceIte, mm_kd_pi, mm_ln_pi, mm_gl_pi, mm_gr_pi, mm_sz_pi, mm_gi_pi, mm_kd_pl, mm_ln_pl, mm_gi_pl, mm_gr_pl, mm_sz_pl, mm_gl_pl, mm_kd_pr, mm_ln_pr, mm_gi_pr, mm_gl_pr, mm_sz_pr, mm_gr_pr, mm_kd_pa, mm_ln_pa, mm_gl_pa, mm_gr_pa, mm_sz_pa, mm_gi_pa, mm_kd_nw, mm_sz_nw, A.2.2.1, if_neg (Nat.ne_of_lt (AL_w A)), eq_true (Nat.lt_succ_of_lt (AL_w A))]
  generalize mm_pr (mm_nw g 100 N) (mm_sz h0) 1 (some (mm_sz g)) = g1 at A1 ⊢
  refine c_X6_init_13 (b := (5 + b.1, 3 * N + 2 * z + b.2)) n0 (by omega) ⟨by show 6 + b.1 = 1 + (5 + b.1); omega, by show 4 * N + 2 * z + b.2 = _ + (3 * N + 2 * z + b.2); omega⟩ ?_
  rw [cN]
  have A2 := AL_s A1 (show flT 1 = 2 from rfl) (show lnT N z 1 = N from rfl)
  refine t_X6_init_15 _ _ _ ?_
  simp only [s_iadd, s_isub, s_imul, s_iand, s_ior, s_ixor, s_ishl, s_ishr, s_iushr, s_idiv, s_irem, s_ladd, s_lsub, s_lmul, s_ldiv, s_lrem, s_ineg, s_i2l, s_l2i, s_i2c, s_lcmp, s_ic, s_lc, s_nul, s_str, s_il, s_ll, s_al, s_dup, s_dup2, s_pop, s_ifne, s_icne, s_ifeq, s_iflt, s_ifge, s_ifgt, s_ifle, s_iceq, s_iclt, s_icge, s_icgt, s_icle, s_ifnull, s_ifnonnull, s_is, s_ls, s_as, s_ii, s_gi, s_gl, s_gr, s_pi, s_pz, s_pl, s_pr, s_iald, s_zald, s_lald, s_aald, s_alen, s_iast, s_zast, s_last, s_iret, s_zret, s_lret, s_aret, s_vret, s_sw, s_aast, mm_sw, mm_ld, mm_s1, mm_s2, mm_kl, Value.category, va_rf, List.nil_append, List.cons_append, Option.toList, true_and, and_true, and_self, true_or, or_true, eq_self, not_true_eq_false, false_implies, true_implies, not_false_eq_true, mm_10, mm_01, false_or, or_false, Nat.left_eq_add, Nat.add_eq_left, Nat.add_left_cancel_iff, Nat.reduceEqDiff, false_and, and_false, reduceIte, mm_kd_pi, mm_ln_pi, mm_gl_pi, mm_gr_pi, mm_sz_pi, mm_gi_pi, mm_kd_pl, mm_ln_pl, mm_gi_pl, mm_gr_pl, mm_sz_pl, mm_gl_pl, mm_kd_pr, mm_ln_pr, mm_gi_pr, mm_gl_pr, mm_sz_pr, mm_gr_pr, mm_kd_pa, mm_ln_pa, mm_gl_pa, mm_gr_pa, mm_sz_pa, mm_gi_pa, mm_kd_nw, mm_sz_nw, A1.2.2.1, if_neg (Nat.ne_of_lt (AL_w A1)), eq_true (Nat.lt_succ_of_lt (AL_w A1))]
  generalize mm_pr (mm_nw g1 100 N) (mm_sz h0) 2 (some (mm_sz g1)) = g2 at A2 ⊢
  refine c_X6_init_20 (b := (4 + b.1, 2 * N + 2 * z + b.2)) n0 (by omega) ⟨by show 5 + b.1 = 1 + (4 + b.1); omega, by show 3 * N + 2 * z + b.2 = _ + (2 * N + 2 * z + b.2); omega⟩ ?_
  rw [cN]
  have A3 := AL_s A2 (show flT 2 = 3 from rfl) (show lnT N z 2 = N from rfl)
  refine t_X6_init_22 _ _ _ ?_
  simp only [s_iadd, s_isub, s_imul, s_iand, s_ior, s_ixor, s_ishl, s_ishr, s_iushr, s_idiv, s_irem, s_ladd, s_lsub, s_lmul, s_ldiv, s_lrem, s_ineg, s_i2l, s_l2i, s_i2c, s_lcmp, s_ic, s_lc, s_nul, s_str, s_il, s_ll, s_al, s_dup, s_dup2, s_pop, s_ifne, s_icne, s_ifeq, s_iflt, s_ifge, s_ifgt, s_ifle, s_iceq, s_iclt, s_icge, s_icgt, s_icle, s_ifnull, s_ifnonnull, s_is, s_ls, s_as, s_ii, s_gi, s_gl, s_gr, s_pi, s_pz, s_pl, s_pr, s_iald, s_zald, s_lald, s_aald, s_alen, s_iast, s_zast, s_last, s_iret, s_zret, s_lret, s_aret, s_vret, s_sw, s_aast, mm_sw, mm_ld, mm_s1, mm_s2, mm_kl, Value.category, va_rf, List.nil_append, List.cons_append, Option.toList, true_and, and_true, and_self, true_or, or_true, eq_self, not_true_eq_false, false_implies, true_implies, not_false_eq_true, mm_10, mm_01, false_or, or_false, Nat.left_eq_add, Nat.add_eq_left, Nat.add_left_cancel_iff, Nat.reduceEqDiff, false_and, and_false, reduceIte, mm_kd_pi, mm_ln_pi, mm_gl_pi, mm_gr_pi, mm_sz_pi, mm_gi_pi, mm_kd_pl, mm_ln_pl, mm_gi_pl, mm_gr_pl, mm_sz_pl, mm_gl_pl, mm_kd_pr, mm_ln_pr, mm_gi_pr, mm_gl_pr, mm_sz_pr, mm_gr_pr, mm_kd_pa, mm_ln_pa, mm_gl_pa, mm_gr_pa, mm_sz_pa, mm_gi_pa, mm_kd_nw, mm_sz_nw, A2.2.2.1, if_neg (Nat.ne_of_lt (AL_w A2)), eq_true (Nat.lt_succ_of_lt (AL_w A2))]
  generalize mm_pr (mm_nw g2 100 N) (mm_sz h0) 3 (some (mm_sz g2)) = g3 at A3 ⊢
  refine c_X6_init_27 (b := (3 + b.1, N + 2 * z + b.2)) n0 (by omega) ⟨by show 4 + b.1 = 1 + (3 + b.1); omega, by show 2 * N + 2 * z + b.2 = _ + (N + 2 * z + b.2); omega⟩ ?_
  rw [cN]
  have A4 := AL_s A3 (show flT 3 = 4 from rfl) (show lnT N z 3 = N from rfl)
  refine t_X6_init_29 _ _ _ ?_
  simp only [s_iadd, s_isub, s_imul, s_iand, s_ior, s_ixor, s_ishl, s_ishr, s_iushr, s_idiv, s_irem, s_ladd, s_lsub, s_lmul, s_ldiv, s_lrem, s_ineg, s_i2l, s_l2i, s_i2c, s_lcmp, s_ic, s_lc, s_nul, s_str, s_il, s_ll, s_al, s_dup, s_dup2, s_pop, s_ifne, s_icne, s_ifeq, s_iflt, s_ifge, s_ifgt, s_ifle, s_iceq, s_iclt, s_icge, s_icgt, s_icle, s_ifnull, s_ifnonnull, s_is, s_ls, s_as, s_ii, s_gi, s_gl, s_gr, s_pi, s_pz, s_pl, s_pr, s_iald, s_zald, s_lald, s_aald, s_alen, s_iast, s_zast, s_last, s_iret, s_zret, s_lret, s_aret, s_vret, s_sw, s_aast, mm_sw, mm_ld, mm_s1, mm_s2, mm_kl, Value.category, va_rf, List.nil_append, List.cons_append, Option.toList, true_and, and_true, and_self, true_or, or_true, eq_self, not_true_eq_false, false_implies, true_implies, not_false_eq_true, mm_10, mm_01, false_or, or_false, Nat.left_eq_add, Nat.add_eq_left, Nat.add_left_cancel_iff, Nat.reduceEqDiff, false_and, and_false, reduceIte, mm_kd_pi, mm_ln_pi, mm_gl_pi, mm_gr_pi, mm_sz_pi, mm_gi_pi, mm_kd_pl, mm_ln_pl, mm_gi_pl, mm_gr_pl, mm_sz_pl, mm_gl_pl, mm_kd_pr, mm_ln_pr, mm_gi_pr, mm_gl_pr, mm_sz_pr, mm_gr_pr, mm_kd_pa, mm_ln_pa, mm_gl_pa, mm_gr_pa, mm_sz_pa, mm_gi_pa, mm_kd_nw, mm_sz_nw, A3.2.2.1, if_neg (Nat.ne_of_lt (AL_w A3)), eq_true (Nat.lt_succ_of_lt (AL_w A3))]
  generalize mm_pr (mm_nw g3 100 N) (mm_sz h0) 4 (some (mm_sz g3)) = g4 at A4 ⊢
  refine c_X6_init_34 (b := (2 + b.1, 2 * z + b.2)) n0 (by omega) ⟨by show 3 + b.1 = 1 + (2 + b.1); omega, by show N + 2 * z + b.2 = _ + (2 * z + b.2); omega⟩ ?_
  rw [cN]
  have A5 := AL_s A4 (show flT 4 = 5 from rfl) (show lnT N z 4 = N from rfl)
  refine t_X6_init_36 _ _ _ ?_
  simp only [s_iadd, s_isub, s_imul, s_iand, s_ior, s_ixor, s_ishl, s_ishr, s_iushr, s_idiv, s_irem, s_ladd, s_lsub, s_lmul, s_ldiv, s_lrem, s_ineg, s_i2l, s_l2i, s_i2c, s_lcmp, s_ic, s_lc, s_nul, s_str, s_il, s_ll, s_al, s_dup, s_dup2, s_pop, s_ifne, s_icne, s_ifeq, s_iflt, s_ifge, s_ifgt, s_ifle, s_iceq, s_iclt, s_icge, s_icgt, s_icle, s_ifnull, s_ifnonnull, s_is, s_ls, s_as, s_ii, s_gi, s_gl, s_gr, s_pi, s_pz, s_pl, s_pr, s_iald, s_zald, s_lald, s_aald, s_alen, s_iast, s_zast, s_last, s_iret, s_zret, s_lret, s_aret, s_vret, s_sw, s_aast, mm_sw, mm_ld, mm_s1, mm_s2, mm_kl, Value.category, va_rf, List.nil_append, List.cons_append, Option.toList, true_and, and_true, and_self, true_or, or_true, eq_self, not_true_eq_false, false_implies, true_implies, not_false_eq_true, mm_10, mm_01, false_or, or_false, Nat.left_eq_add, Nat.add_eq_left, Nat.add_left_cancel_iff, Nat.reduceEqDiff, false_and, and_false, reduceIte, mm_kd_pi, mm_ln_pi, mm_gl_pi, mm_gr_pi, mm_sz_pi, mm_gi_pi, mm_kd_pl, mm_ln_pl, mm_gi_pl, mm_gr_pl, mm_sz_pl, mm_gl_pl, mm_kd_pr, mm_ln_pr, mm_gi_pr, mm_gl_pr, mm_sz_pr, mm_gr_pr, mm_kd_pa, mm_ln_pa, mm_gl_pa, mm_gr_pa, mm_sz_pa, mm_gi_pa, mm_kd_nw, mm_sz_nw, A4.2.2.1, if_neg (Nat.ne_of_lt (AL_w A4)), eq_true (Nat.lt_succ_of_lt (AL_w A4))]
  generalize mm_pr (mm_nw g4 100 N) (mm_sz h0) 5 (some (mm_sz g4)) = g5 at A5 ⊢
  refine c_X6_init_41 (b := (1 + b.1, z + b.2)) z0 (by omega) ⟨by show 2 + b.1 = 1 + (1 + b.1); omega, by show 2 * z + b.2 = _ + (z + b.2); omega⟩ ?_
  rw [cz]
  have A6 := AL_s A5 (show flT 5 = 7 from rfl) (show lnT N z 5 = z from rfl)
  refine t_X6_init_43 _ _ _ ?_
  simp only [s_iadd, s_isub, s_imul, s_iand, s_ior, s_ixor, s_ishl, s_ishr, s_iushr, s_idiv, s_irem, s_ladd, s_lsub, s_lmul, s_ldiv, s_lrem, s_ineg, s_i2l, s_l2i, s_i2c, s_lcmp, s_ic, s_lc, s_nul, s_str, s_il, s_ll, s_al, s_dup, s_dup2, s_pop, s_ifne, s_icne, s_ifeq, s_iflt, s_ifge, s_ifgt, s_ifle, s_iceq, s_iclt, s_icge, s_icgt, s_icle, s_ifnull, s_ifnonnull, s_is, s_ls, s_as, s_ii, s_gi, s_gl, s_gr, s_pi, s_pz, s_pl, s_pr, s_iald, s_zald, s_lald, s_aald, s_alen, s_iast, s_zast, s_last, s_iret, s_zret, s_lret, s_aret, s_vret, s_sw, s_aast, mm_sw, mm_ld, mm_s1, mm_s2, mm_kl, Value.category, va_rf, List.nil_append, List.cons_append, Option.toList, true_and, and_true, and_self, true_or, or_true, eq_self, not_true_eq_false, false_implies, true_implies, not_false_eq_true, mm_10, mm_01, false_or, or_false, Nat.left_eq_add, Nat.add_eq_left, Nat.add_left_cancel_iff, Nat.reduceEqDiff, false_and, and_false, reduceIte, mm_kd_pi, mm_ln_pi, mm_gl_pi, mm_gr_pi, mm_sz_pi, mm_gi_pi, mm_kd_pl, mm_ln_pl, mm_gi_pl, mm_gr_pl, mm_sz_pl, mm_gl_pl, mm_kd_pr, mm_ln_pr, mm_gi_pr, mm_gl_pr, mm_sz_pr, mm_gr_pr, mm_kd_pa, mm_ln_pa, mm_gl_pa, mm_gr_pa, mm_sz_pa, mm_gi_pa, mm_kd_nw, mm_sz_nw, A5.2.2.1, if_neg (Nat.ne_of_lt (AL_w A5)), eq_true (Nat.lt_succ_of_lt (AL_w A5))]
  generalize mm_pr (mm_nw g5 100 z) (mm_sz h0) 7 (some (mm_sz g5)) = g6 at A6 ⊢
  refine c_X6_init_48 (b := (b.1, b.2)) z0 (by omega) ⟨by show 1 + b.1 = 1 + b.1; rfl, by show z + b.2 = _ + b.2; omega⟩ ?_
  rw [cz]
  have A7 := AL_s A6 (show flT 6 = 8 from rfl) (show lnT N z 6 = z from rfl)
  refine t_X6_init_50 _ _ _ ?_
  simp only [s_iadd, s_isub, s_imul, s_iand, s_ior, s_ixor, s_ishl, s_ishr, s_iushr, s_idiv, s_irem, s_ladd, s_lsub, s_lmul, s_ldiv, s_lrem, s_ineg, s_i2l, s_l2i, s_i2c, s_lcmp, s_ic, s_lc, s_nul, s_str, s_il, s_ll, s_al, s_dup, s_dup2, s_pop, s_ifne, s_icne, s_ifeq, s_iflt, s_ifge, s_ifgt, s_ifle, s_iceq, s_iclt, s_icge, s_icgt, s_icle, s_ifnull, s_ifnonnull, s_is, s_ls, s_as, s_ii, s_gi, s_gl, s_gr, s_pi, s_pz, s_pl, s_pr, s_iald, s_zald, s_lald, s_aald, s_alen, s_iast, s_zast, s_last, s_iret, s_zret, s_lret, s_aret, s_vret, s_sw, s_aast, mm_sw, mm_ld, mm_s1, mm_s2, mm_kl, Value.category, va_rf, List.nil_append, List.cons_append, Option.toList, true_and, and_true, and_self, true_or, or_true, eq_self, not_true_eq_false, false_implies, true_implies, not_false_eq_true, mm_10, mm_01, false_or, or_false, Nat.left_eq_add, Nat.add_eq_left, Nat.add_left_cancel_iff, Nat.reduceEqDiff, false_and, and_false, reduceIte, mm_kd_pi, mm_ln_pi, mm_gl_pi, mm_gr_pi, mm_sz_pi, mm_gi_pi, mm_kd_pl, mm_ln_pl, mm_gi_pl, mm_gr_pl, mm_sz_pl, mm_gl_pl, mm_kd_pr, mm_ln_pr, mm_gi_pr, mm_gl_pr, mm_sz_pr, mm_gr_pr, mm_kd_pa, mm_ln_pa, mm_gl_pa, mm_gr_pa, mm_sz_pa, mm_gi_pa, mm_kd_nw, mm_sz_nw, A6.2.2.1, if_neg (Nat.ne_of_lt (AL_w A6)), eq_true (Nat.lt_succ_of_lt (AL_w A6))]
  exact k _ A7
/-- j rows are copied -/
def ACx (h0 : mmH) (N z j : Nat) (g : mmH) : Prop := ALx h0 N z 7 g ∧ (mm_gi g (mm_sz h0) 0 = nI N ∧ mm_gi g (mm_sz h0) 6 = nI z) ∧ ∀ i, i < j → ∀ k, k < lnT N z i → mm_gi g (mm_sz h0 + 1 + i) k = mm_gi h0 (59 + i) k
theorem AL_gi {g' : mmH} (A : ALx h0 N z 7 g) (e1 : mm_kd g' = mm_kd g) (e2 : mm_ln g' = mm_ln g) (e3 : mm_gr g' = mm_gr g) (e4 : mm_sz g' = mm_sz g) (e5 : mm_gl g' = mm_gl g) (e : ∀ c j, c < mm_sz h0 → mm_gi g' c j = mm_gi g c j) : ALx h0 N z 7 g' := by
  obtain ⟨a1, ⟨a2, a3⟩, a4, a5⟩ := A
  unfold ALx fg
  rw [e1, e2, e3, e4, e5]
  exact ⟨a1, ⟨a2, fun c hc => ⟨(a3 c hc).1, (a3 c hc).2.1, fun j => (e c j hc).trans ((a3 c hc).2.2.1 j), (a3 c hc).2.2.2⟩⟩, a4, a5⟩
theorem AC_s {j : Nat} (h65 : 65 < mm_sz h0) (hj : j < 7) (C : ACx h0 N z j g) : ACx h0 N z (j + 1) (mm_pa g (mm_sz h0 + 1 + j) (va_cpy (mm_gi g (59 + j)) (mm_gi g (mm_sz h0 + 1 + j)) 0 0 (lnT N z j))) := by
  obtain ⟨A, f, D⟩ := C
  refine ⟨AL_gi A rfl rfl rfl rfl rfl (fun c j' hc => by rw [mm_gi_pa, if_neg (by omega)]), ⟨?_, ?_⟩, fun i hi k hk => ?_⟩
  · rw [mm_gi_pa, if_neg (by omega)]; exact f.1
  · rw [mm_gi_pa, if_neg (by omega)]; exact f.2
  · rw [mm_gi_pa]
    by_cases q : i = j
    · subst q
      rw [if_pos rfl, va_cpy, if_pos ⟨Nat.zero_le _, by omega⟩, Nat.zero_add, Nat.sub_zero]
      exact (A.2.1.2 (59 + i) (by omega)).2.2.1 k
    · rw [if_neg (by omega)]
      exact D i (by omega) k hk
theorem sp_compact (H : WS h0) (hN : mm_gi h0 58 0 = nI N) (hz : mm_gi h0 58 6 = nI z) (N12 : N ≤ 12) (z4 : z ≤ 400) (k : ∀ g, ACx h0 N z 7 g → K (some (.ref (mm_sz h0))) g) : mm_MV q_X6_compact (d + 2) (8 + b.1, 9 + (5 * N + 2 * z) + b.2) [.ref 58] h0 K := by
  have s65 := W_s_65 H
  refine e_X6_compact ?_
  refine c_X6_compact_0 (b := (7 + b.1, 5 * N + 2 * z + b.2)) ⟨by show 8 + b.1 = 1 + (7 + b.1); omega, by show 9 + (5 * N + 2 * z) + b.2 = 9 + (5 * N + 2 * z + b.2); omega⟩ ?_
  have A0 : ALx h0 N z 0 (mm_nw h0 6 9) := AL_0
  have Hw : WS (mm_nw h0 6 9) := WS_nw H
  have eN : mm_gi (mm_nw h0 6 9) 58 0 = nI N := (A0.2.1.2 58 (W_s_58 H)).2.2.1 0 |>.trans hN
  have ez : mm_gi (mm_nw h0 6 9) 58 6 = nI z := (A0.2.1.2 58 (W_s_58 H)).2.2.1 6 |>.trans hz
  refine t_X6_compact_3 _ _ _ ?_
  simp only [s_iadd, s_isub, s_imul, s_iand, s_ior, s_ixor, s_ishl, s_ishr, s_iushr, s_idiv, s_irem, s_ladd, s_lsub, s_lmul, s_ldiv, s_lrem, s_ineg, s_i2l, s_l2i, s_i2c, s_lcmp, s_ic, s_lc, s_nul, s_str, s_il, s_ll, s_al, s_dup, s_dup2, s_pop, s_ifne, s_icne, s_ifeq, s_iflt, s_ifge, s_ifgt, s_ifle, s_iceq, s_iclt, s_icge, s_icgt, s_icle, s_ifnull, s_ifnonnull, s_is, s_ls, s_as, s_ii, s_gi, s_gl, s_gr, s_pi, s_pz, s_pl, s_pr, s_iald, s_zald, s_lald, s_aald, s_alen, s_iast, s_zast, s_last, s_iret, s_zret, s_lret, s_aret, s_vret, s_sw, s_aast, mm_sw, mm_ld, mm_s1, mm_s2, mm_kl, Value.category, va_rf, List.nil_append, List.cons_append, Option.toList, true_and, and_true, and_self, true_or, or_true, eq_self, not_true_eq_false, false_implies, true_implies, not_false_eq_true, mm_10, mm_01, false_or, or_false, Nat.left_eq_add, Nat.add_eq_left, Nat.add_left_cancel_iff, Nat.reduceEqDiff, false_and, and_false, reduceIte, mm_kd_pi, mm_ln_pi, mm_gl_pi, mm_gr_pi, mm_sz_pi, mm_gi_pi, mm_kd_pl, mm_ln_pl, mm_gi_pl, mm_gr_pl, mm_sz_pl, mm_gl_pl, mm_kd_pr, mm_ln_pr, mm_gi_pr, mm_gl_pr, mm_sz_pr, mm_gr_pr, mm_kd_pa, mm_ln_pa, mm_gl_pa, mm_gr_pa, mm_sz_pa, mm_gi_pa, W_kd_58 Hw, W_s_58 Hw, W_gr_58_1 Hw, W_gr_58_2 Hw, W_gr_58_3 Hw, W_gr_58_4 Hw, W_gr_58_5 Hw, W_gr_58_7 Hw, W_gr_58_8 Hw, eN, ez]
  refine c_X6_compact_12 (bb := (7 + b.1, 5 * N + 2 * z + b.2)) (b := (0, 0)) (Nat.le_of_ble_eq_true rfl) ⟨rfl, rfl⟩ (sp_xinit A0 N12 z4 (fun g A => ?_))
  -- the cells of the old text in g
  have old : ∀ c, c < mm_sz h0 → mm_kd g c = mm_kd h0 c ∧ mm_ln g c = mm_ln h0 c ∧ (∀ j, mm_gi g c j = mm_gi h0 c j) ∧ (∀ j, mm_gl g c j = mm_gl h0 c j) ∧ ∀ j, mm_gr g c j = mm_gr h0 c j := A.2.1.2
  have Hg : WS g := by
    refine ⟨Nat.le_trans H.1 A.2.1.1, fun i hi => ?_, fun q hq => ?_⟩
    · rw [(old i (Nat.lt_of_lt_of_le hi H.1)).1, (old i (Nat.lt_of_lt_of_le hi H.1)).2.1]
      exact H.2.1 i hi
    · have lt : ∀ q ∈ rT, q.1 < 122 := by decide +kernel
      rw [(old q.1 (Nat.lt_of_lt_of_le (lt q hq) H.1)).2.2.2.2]
      exact H.2.2 q hq
  have gN : mm_gi g 58 0 = nI N := ((old 58 (W_s_58 H)).2.2.1 0).trans hN
  have gz : mm_gi g 58 6 = nI z := ((old 58 (W_s_58 H)).2.2.1 6).trans hz
  have cN : (nI N).toNatClampNeg = N := nI_clamp (by omega)
  have cz : (nI z).toNatClampNeg = z := nI_clamp (by omega)
  have n0 : ¬ nI N < 0 := nI_pos (by omega)
  have z0 : ¬ nI z < 0 := nI_pos (by omega)
  have T65 : 65 < mm_sz h0 := s65
  obtain ⟨g1, eg1⟩ : ∃ g1 : mmH, g1 = mm_pi g (mm_sz h0) 0 (nI N) := ⟨_, rfl⟩
  obtain ⟨g2, eg2⟩ : ∃ g2 : mmH, g2 = mm_pi g1 (mm_sz h0) 6 (nI z) := ⟨_, rfl⟩
  have H1 : WS g1 := by rw [eg1]; exact WS_pi Hg
  have g1z : mm_gi g1 58 6 = nI z := by rw [eg1, mm_gi_pi, if_neg (by omega)]; exact gz
  have C0 : ACx h0 N z 0 g2 := by
    refine ⟨AL_gi A (by rw [eg2, eg1]; rfl) (by rw [eg2, eg1]; rfl) (by rw [eg2, eg1]; rfl) (by rw [eg2, eg1]; rfl) (by rw [eg2, eg1]; rfl) (fun c j hc => by rw [eg2, mm_gi_pi, if_neg (by omega), eg1, mm_gi_pi, if_neg (by omega)]), ⟨?_, ?_⟩, fun i hi => by omega⟩
    · rw [eg2, mm_gi_pi, if_neg (by omega), eg1, mm_gi_pi, if_pos ⟨rfl, rfl⟩]
    · rw [eg2, mm_gi_pi, if_pos ⟨rfl, rfl⟩]
  have kT : mm_kd g (mm_sz h0) = 6 := A.2.2.1
  have lT' : mm_sz h0 < mm_sz g := AL_w A
  -- what a heap of this shape knows
  have W0 : ∀ j x, ACx h0 N z j x → WS x := fun j x C => by
    obtain ⟨A', _, _⟩ := C
    refine ⟨Nat.le_trans H.1 A'.2.1.1, fun i hi => ?_, fun q hq => ?_⟩
    · rw [(A'.2.1.2 i (Nat.lt_of_lt_of_le hi H.1)).1, (A'.2.1.2 i (Nat.lt_of_lt_of_le hi H.1)).2.1]
      exact H.2.1 i hi
    · have lt : ∀ q ∈ rT, q.1 < 122 := by decide +kernel
      rw [(A'.2.1.2 q.1 (Nat.lt_of_lt_of_le (lt q hq) H.1)).2.2.2.2]
      exact H.2.2 q hq
  have N0 : ∀ j x, ACx h0 N z j x → mm_gi x 58 0 = nI N ∧ mm_gi x 58 6 = nI z := fun j x C => ⟨((C.1.2.1.2 58 (W_s_58 H)).2.2.1 0).trans hN, ((C.1.2.1.2 58 (W_s_58 H)).2.2.1 6).trans hz⟩
  refine t_X6_compact_15 _ _ _ ?_
  have H2 := W0 0 g2 C0
  simp only [s_iadd, s_isub, s_imul, s_iand, s_ior, s_ixor, s_ishl, s_ishr, s_iushr, s_idiv, s_irem, s_ladd, s_lsub, s_lmul, s_ldiv, s_lrem, s_ineg, s_i2l, s_l2i, s_i2c, s_lcmp, s_ic, s_lc, s_nul, s_str, s_il, s_ll, s_al, s_dup, s_dup2, s_pop, s_ifne, s_icne, s_ifeq, s_iflt, s_ifge, s_ifgt, s_ifle, s_iceq, s_iclt, s_icge, s_icgt, s_icle, s_ifnull, s_ifnonnull, s_is, s_ls, s_as, s_ii, s_gi, s_gl, s_gr, s_pi, s_pz, s_pl, s_pr, s_iald, s_zald, s_lald, s_aald, s_alen, s_iast, s_zast, s_last, s_iret, s_zret, s_lret, s_aret, s_vret, s_sw, s_aast, mm_sw, mm_ld, mm_s1, mm_s2, mm_kl, Value.category, va_rf, List.nil_append, List.cons_append, Option.toList, true_and, and_true, and_self, true_or, or_true, eq_self, not_true_eq_false, false_implies, true_implies, not_false_eq_true, mm_10, mm_01, false_or, or_false, Nat.left_eq_add, Nat.add_eq_left, Nat.add_left_cancel_iff, Nat.reduceEqDiff, false_and, and_false, reduceIte, mm_kd_pi, mm_ln_pi, mm_gl_pi, mm_gr_pi, mm_sz_pi, mm_gi_pi, mm_kd_pl, mm_ln_pl, mm_gi_pl, mm_gr_pl, mm_sz_pl, mm_gl_pl, mm_kd_pr, mm_ln_pr, mm_gi_pr, mm_gl_pr, mm_sz_pr, mm_gr_pr, mm_kd_pa, mm_ln_pa, mm_gl_pa, mm_gr_pa, mm_sz_pa, mm_gi_pa, W_kd_58 Hg, W_s_58 Hg, W_gr_58_1 Hg, W_gr_58_2 Hg, W_gr_58_3 Hg, W_gr_58_4 Hg, W_gr_58_5 Hg, W_gr_58_7 Hg, W_gr_58_8 Hg, W_kd_59 Hg, W_s_59 Hg, W_ln_59 Hg, gN, kT, eq_true lT', ← eg1, W_kd_58 H1, W_s_58 H1, W_gr_58_1 H1, W_gr_58_2 H1, W_gr_58_3 H1, W_gr_58_4 H1, W_gr_58_5 H1, W_gr_58_7 H1, W_gr_58_8 H1, g1z, show mm_kd g1 (mm_sz h0) = 6 from by rw [eg1]; exact kT, show (mm_sz h0 < mm_sz g1) = True from eq_true (by rw [eg1]; exact lT'), ← eg2, W_kd_58 H2, W_s_58 H2, W_gr_58_1 H2, W_gr_58_2 H2, W_gr_58_3 H2, W_gr_58_4 H2, W_gr_58_5 H2, W_gr_58_7 H2, W_gr_58_8 H2, show mm_kd g2 (mm_sz h0) = 6 from C0.1.2.2.1, show (mm_sz h0 < mm_sz g2) = True from eq_true (AL_w C0.1), show mm_gr g2 (mm_sz h0) 1 = some (mm_sz h0 + 1 + 0) from (C0.1.2.2.2 0 (by decide)).2.2, (N0 0 g2 C0).1]
  refine c_X6_compact_46 (st := []) (Nat.le_of_ble_eq_true rfl) ⟨(C0.1.2.2.2 0 (by decide)).1, by rw [C0.1.1]; omega⟩ ⟨W_kd_59 H2, W_s_59 H2⟩ (by decide) (by decide) n0 (by rw [W_ln_59 H2, cN]; show 0 + N ≤ 12; omega) (by rw [(C0.1.2.2.2 0 (by decide)).2.1, cN]; show 0 + N ≤ N; omega) ?_
  rw [cN]
  have C1 := AC_s T65 (show 0 < 7 by decide) C0
  replace C1 : ACx h0 N z 1 (mm_pa g2 (mm_sz h0 + 1 + 0) (va_cpy (mm_gi g2 59) (mm_gi g2 (mm_sz h0 + 1 + 0)) (0 : Int32).toNatClampNeg (0 : Int32).toNatClampNeg N)) := C1
  generalize mm_pa g2 (mm_sz h0 + 1 + 0) (va_cpy (mm_gi g2 59) (mm_gi g2 (mm_sz h0 + 1 + 0)) (0 : Int32).toNatClampNeg (0 : Int32).toNatClampNeg N) = g3 at C1 ⊢
  have H3 := W0 1 g3 C1
  refine t_X6_compact_49 _ _ _ ?_
  simp only [s_iadd, s_isub, s_imul, s_iand, s_ior, s_ixor, s_ishl, s_ishr, s_iushr, s_idiv, s_irem, s_ladd, s_lsub, s_lmul, s_ldiv, s_lrem, s_ineg, s_i2l, s_l2i, s_i2c, s_lcmp, s_ic, s_lc, s_nul, s_str, s_il, s_ll, s_al, s_dup, s_dup2, s_pop, s_ifne, s_icne, s_ifeq, s_iflt, s_ifge, s_ifgt, s_ifle, s_iceq, s_iclt, s_icge, s_icgt, s_icle, s_ifnull, s_ifnonnull, s_is, s_ls, s_as, s_ii, s_gi, s_gl, s_gr, s_pi, s_pz, s_pl, s_pr, s_iald, s_zald, s_lald, s_aald, s_alen, s_iast, s_zast, s_last, s_iret, s_zret, s_lret, s_aret, s_vret, s_sw, s_aast, mm_sw, mm_ld, mm_s1, mm_s2, mm_kl, Value.category, va_rf, List.nil_append, List.cons_append, Option.toList, true_and, and_true, and_self, true_or, or_true, eq_self, not_true_eq_false, false_implies, true_implies, not_false_eq_true, mm_10, mm_01, false_or, or_false, Nat.left_eq_add, Nat.add_eq_left, Nat.add_left_cancel_iff, Nat.reduceEqDiff, false_and, and_false, reduceIte, mm_kd_pi, mm_ln_pi, mm_gl_pi, mm_gr_pi, mm_sz_pi, mm_gi_pi, mm_kd_pl, mm_ln_pl, mm_gi_pl, mm_gr_pl, mm_sz_pl, mm_gl_pl, mm_kd_pr, mm_ln_pr, mm_gi_pr, mm_gl_pr, mm_sz_pr, mm_gr_pr, mm_kd_pa, mm_ln_pa, mm_gl_pa, mm_gr_pa, mm_sz_pa, mm_gi_pa, W_kd_58 H3, W_s_58 H3, W_gr_58_1 H3, W_gr_58_2 H3, W_gr_58_3 H3, W_gr_58_4 H3, W_gr_58_5 H3, W_gr_58_7 H3, W_gr_58_8 H3, W_kd_60 H3, W_s_60 H3, W_ln_60 H3, show mm_kd g3 (mm_sz h0) = 6 from C1.1.2.2.1, show (mm_sz h0 < mm_sz g3) = True from eq_true (AL_w C1.1), show mm_gr g3 (mm_sz h0) 2 = some (mm_sz h0 + 1 + 1) from (C1.1.2.2.2 1 (by decide)).2.2, (N0 1 g3 C1).1]
  refine c_X6_compact_63 (st := []) (Nat.le_of_ble_eq_true rfl) ⟨(C1.1.2.2.2 1 (by decide)).1, by rw [C1.1.1]; omega⟩ ⟨W_kd_60 H3, W_s_60 H3⟩ (by decide) (by decide) n0 (by rw [W_ln_60 H3, cN]; show 0 + N ≤ 12; omega) (by rw [(C1.1.2.2.2 1 (by decide)).2.1, cN]; show 0 + N ≤ N; omega) ?_
  rw [cN]
  have C2 := AC_s T65 (show 1 < 7 by decide) C1
  replace C2 : ACx h0 N z 2 (mm_pa g3 (mm_sz h0 + 1 + 1) (va_cpy (mm_gi g3 60) (mm_gi g3 (mm_sz h0 + 1 + 1)) (0 : Int32).toNatClampNeg (0 : Int32).toNatClampNeg N)) := C2
  generalize mm_pa g3 (mm_sz h0 + 1 + 1) (va_cpy (mm_gi g3 60) (mm_gi g3 (mm_sz h0 + 1 + 1)) (0 : Int32).toNatClampNeg (0 : Int32).toNatClampNeg N) = g4 at C2 ⊢
  have H4 := W0 2 g4 C2
  refine t_X6_compact_66 _ _ _ ?_
  simp only [s_iadd, s_isub, s_imul, s_iand, s_ior, s_ixor, s_ishl, s_ishr, s_iushr, s_idiv, s_irem, s_ladd, s_lsub, s_lmul, s_ldiv, s_lrem, s_ineg, s_i2l, s_l2i, s_i2c, s_lcmp, s_ic, s_lc, s_nul, s_str, s_il, s_ll, s_al, s_dup, s_dup2, s_pop, s_ifne, s_icne, s_ifeq, s_iflt, s_ifge, s_ifgt, s_ifle, s_iceq, s_iclt, s_icge, s_icgt, s_icle, s_ifnull, s_ifnonnull, s_is, s_ls, s_as, s_ii, s_gi, s_gl, s_gr, s_pi, s_pz, s_pl, s_pr, s_iald, s_zald, s_lald, s_aald, s_alen, s_iast, s_zast, s_last, s_iret, s_zret, s_lret, s_aret, s_vret, s_sw, s_aast, mm_sw, mm_ld, mm_s1, mm_s2, mm_kl, Value.category, va_rf, List.nil_append, List.cons_append, Option.toList, true_and, and_true, and_self, true_or, or_true, eq_self, not_true_eq_false, false_implies, true_implies, not_false_eq_true, mm_10, mm_01, false_or, or_false, Nat.left_eq_add, Nat.add_eq_left, Nat.add_left_cancel_iff, Nat.reduceEqDiff, false_and, and_false, reduceIte, mm_kd_pi, mm_ln_pi, mm_gl_pi, mm_gr_pi, mm_sz_pi, mm_gi_pi, mm_kd_pl, mm_ln_pl, mm_gi_pl, mm_gr_pl, mm_sz_pl, mm_gl_pl, mm_kd_pr, mm_ln_pr, mm_gi_pr, mm_gl_pr, mm_sz_pr, mm_gr_pr, mm_kd_pa, mm_ln_pa, mm_gl_pa, mm_gr_pa, mm_sz_pa, mm_gi_pa, W_kd_58 H4, W_s_58 H4, W_gr_58_1 H4, W_gr_58_2 H4, W_gr_58_3 H4, W_gr_58_4 H4, W_gr_58_5 H4, W_gr_58_7 H4, W_gr_58_8 H4, W_kd_61 H4, W_s_61 H4, W_ln_61 H4, show mm_kd g4 (mm_sz h0) = 6 from C2.1.2.2.1, show (mm_sz h0 < mm_sz g4) = True from eq_true (AL_w C2.1), show mm_gr g4 (mm_sz h0) 3 = some (mm_sz h0 + 1 + 2) from (C2.1.2.2.2 2 (by decide)).2.2, (N0 2 g4 C2).1]
  refine c_X6_compact_80 (st := []) (Nat.le_of_ble_eq_true rfl) ⟨(C2.1.2.2.2 2 (by decide)).1, by rw [C2.1.1]; omega⟩ ⟨W_kd_61 H4, W_s_61 H4⟩ (by decide) (by decide) n0 (by rw [W_ln_61 H4, cN]; show 0 + N ≤ 12; omega) (by rw [(C2.1.2.2.2 2 (by decide)).2.1, cN]; show 0 + N ≤ N; omega) ?_
  rw [cN]
  have C3 := AC_s T65 (show 2 < 7 by decide) C2
  replace C3 : ACx h0 N z 3 (mm_pa g4 (mm_sz h0 + 1 + 2) (va_cpy (mm_gi g4 61) (mm_gi g4 (mm_sz h0 + 1 + 2)) (0 : Int32).toNatClampNeg (0 : Int32).toNatClampNeg N)) := C3
  generalize mm_pa g4 (mm_sz h0 + 1 + 2) (va_cpy (mm_gi g4 61) (mm_gi g4 (mm_sz h0 + 1 + 2)) (0 : Int32).toNatClampNeg (0 : Int32).toNatClampNeg N) = g5 at C3 ⊢
  have H5 := W0 3 g5 C3
  refine t_X6_compact_83 _ _ _ ?_
  simp only [s_iadd, s_isub, s_imul, s_iand, s_ior, s_ixor, s_ishl, s_ishr, s_iushr, s_idiv, s_irem, s_ladd, s_lsub, s_lmul, s_ldiv, s_lrem, s_ineg, s_i2l, s_l2i, s_i2c, s_lcmp, s_ic, s_lc, s_nul, s_str, s_il, s_ll, s_al, s_dup, s_dup2, s_pop, s_ifne, s_icne, s_ifeq, s_iflt, s_ifge, s_ifgt, s_ifle, s_iceq, s_iclt, s_icge, s_icgt, s_icle, s_ifnull, s_ifnonnull, s_is, s_ls, s_as, s_ii, s_gi, s_gl, s_gr, s_pi, s_pz, s_pl, s_pr, s_iald, s_zald, s_lald, s_aald, s_alen, s_iast, s_zast, s_last, s_iret, s_zret, s_lret, s_aret, s_vret, s_sw, s_aast, mm_sw, mm_ld, mm_s1, mm_s2, mm_kl, Value.category, va_rf, List.nil_append, List.cons_append, Option.toList, true_and, and_true, and_self, true_or, or_true, eq_self, not_true_eq_false, false_implies, true_implies, not_false_eq_true, mm_10, mm_01, false_or, or_false, Nat.left_eq_add, Nat.add_eq_left, Nat.add_left_cancel_iff, Nat.reduceEqDiff, false_and, and_false, reduceIte, mm_kd_pi, mm_ln_pi, mm_gl_pi, mm_gr_pi, mm_sz_pi, mm_gi_pi, mm_kd_pl, mm_ln_pl, mm_gi_pl, mm_gr_pl, mm_sz_pl, mm_gl_pl, mm_kd_pr, mm_ln_pr, mm_gi_pr, mm_gl_pr, mm_sz_pr, mm_gr_pr, mm_kd_pa, mm_ln_pa, mm_gl_pa, mm_gr_pa, mm_sz_pa, mm_gi_pa, W_kd_58 H5, W_s_58 H5, W_gr_58_1 H5, W_gr_58_2 H5, W_gr_58_3 H5, W_gr_58_4 H5, W_gr_58_5 H5, W_gr_58_7 H5, W_gr_58_8 H5, W_kd_62 H5, W_s_62 H5, W_ln_62 H5, show mm_kd g5 (mm_sz h0) = 6 from C3.1.2.2.1, show (mm_sz h0 < mm_sz g5) = True from eq_true (AL_w C3.1), show mm_gr g5 (mm_sz h0) 4 = some (mm_sz h0 + 1 + 3) from (C3.1.2.2.2 3 (by decide)).2.2, (N0 3 g5 C3).1]
  refine c_X6_compact_97 (st := []) (Nat.le_of_ble_eq_true rfl) ⟨(C3.1.2.2.2 3 (by decide)).1, by rw [C3.1.1]; omega⟩ ⟨W_kd_62 H5, W_s_62 H5⟩ (by decide) (by decide) n0 (by rw [W_ln_62 H5, cN]; show 0 + N ≤ 12; omega) (by rw [(C3.1.2.2.2 3 (by decide)).2.1, cN]; show 0 + N ≤ N; omega) ?_
  rw [cN]
  have C4 := AC_s T65 (show 3 < 7 by decide) C3
  replace C4 : ACx h0 N z 4 (mm_pa g5 (mm_sz h0 + 1 + 3) (va_cpy (mm_gi g5 62) (mm_gi g5 (mm_sz h0 + 1 + 3)) (0 : Int32).toNatClampNeg (0 : Int32).toNatClampNeg N)) := C4
  generalize mm_pa g5 (mm_sz h0 + 1 + 3) (va_cpy (mm_gi g5 62) (mm_gi g5 (mm_sz h0 + 1 + 3)) (0 : Int32).toNatClampNeg (0 : Int32).toNatClampNeg N) = g6 at C4 ⊢
  have H6 := W0 4 g6 C4
  refine t_X6_compact_100 _ _ _ ?_
  simp only [s_iadd, s_isub, s_imul, s_iand, s_ior, s_ixor, s_ishl, s_ishr, s_iushr, s_idiv, s_irem, s_ladd, s_lsub, s_lmul, s_ldiv, s_lrem, s_ineg, s_i2l, s_l2i, s_i2c, s_lcmp, s_ic, s_lc, s_nul, s_str, s_il, s_ll, s_al, s_dup, s_dup2, s_pop, s_ifne, s_icne, s_ifeq, s_iflt, s_ifge, s_ifgt, s_ifle, s_iceq, s_iclt, s_icge, s_icgt, s_icle, s_ifnull, s_ifnonnull, s_is, s_ls, s_as, s_ii, s_gi, s_gl, s_gr, s_pi, s_pz, s_pl, s_pr, s_iald, s_zald, s_lald, s_aald, s_alen, s_iast, s_zast, s_last, s_iret, s_zret, s_lret, s_aret, s_vret, s_sw, s_aast, mm_sw, mm_ld, mm_s1, mm_s2, mm_kl, Value.category, va_rf, List.nil_append, List.cons_append, Option.toList, true_and, and_true, and_self, true_or, or_true, eq_self, not_true_eq_false, false_implies, true_implies, not_false_eq_true, mm_10, mm_01, false_or, or_false, Nat.left_eq_add, Nat.add_eq_left, Nat.add_left_cancel_iff, Nat.reduceEqDiff, false_and, and_false, reduceIte, mm_kd_pi, mm_ln_pi, mm_gl_pi, mm_gr_pi, mm_sz_pi, mm_gi_pi, mm_kd_pl, mm_ln_pl, mm_gi_pl, mm_gr_pl, mm_sz_pl, mm_gl_pl, mm_kd_pr, mm_ln_pr, mm_gi_pr, mm_gl_pr, mm_sz_pr, mm_gr_pr, mm_kd_pa, mm_ln_pa, mm_gl_pa, mm_gr_pa, mm_sz_pa, mm_gi_pa, W_kd_58 H6, W_s_58 H6, W_gr_58_1 H6, W_gr_58_2 H6, W_gr_58_3 H6, W_gr_58_4 H6, W_gr_58_5 H6, W_gr_58_7 H6, W_gr_58_8 H6, W_kd_63 H6, W_s_63 H6, W_ln_63 H6, show mm_kd g6 (mm_sz h0) = 6 from C4.1.2.2.1, show (mm_sz h0 < mm_sz g6) = True from eq_true (AL_w C4.1), show mm_gr g6 (mm_sz h0) 5 = some (mm_sz h0 + 1 + 4) from (C4.1.2.2.2 4 (by decide)).2.2, (N0 4 g6 C4).1]
  refine c_X6_compact_114 (st := []) (Nat.le_of_ble_eq_true rfl) ⟨(C4.1.2.2.2 4 (by decide)).1, by rw [C4.1.1]; omega⟩ ⟨W_kd_63 H6, W_s_63 H6⟩ (by decide) (by decide) n0 (by rw [W_ln_63 H6, cN]; show 0 + N ≤ 12; omega) (by rw [(C4.1.2.2.2 4 (by decide)).2.1, cN]; show 0 + N ≤ N; omega) ?_
  rw [cN]
  have C5 := AC_s T65 (show 4 < 7 by decide) C4
  replace C5 : ACx h0 N z 5 (mm_pa g6 (mm_sz h0 + 1 + 4) (va_cpy (mm_gi g6 63) (mm_gi g6 (mm_sz h0 + 1 + 4)) (0 : Int32).toNatClampNeg (0 : Int32).toNatClampNeg N)) := C5
  generalize mm_pa g6 (mm_sz h0 + 1 + 4) (va_cpy (mm_gi g6 63) (mm_gi g6 (mm_sz h0 + 1 + 4)) (0 : Int32).toNatClampNeg (0 : Int32).toNatClampNeg N) = g7 at C5 ⊢
  have H7 := W0 5 g7 C5
  refine t_X6_compact_117 _ _ _ ?_
  simp only [s_iadd, s_isub, s_imul, s_iand, s_ior, s_ixor, s_ishl, s_ishr, s_iushr, s_idiv, s_irem, s_ladd, s_lsub, s_lmul, s_ldiv, s_lrem, s_ineg, s_i2l, s_l2i, s_i2c, s_lcmp, s_ic, s_lc, s_nul, s_str, s_il, s_ll, s_al, s_dup, s_dup2, s_pop, s_ifne, s_icne, s_ifeq, s_iflt, s_ifge, s_ifgt, s_ifle, s_iceq, s_iclt, s_icge, s_icgt, s_icle, s_ifnull, s_ifnonnull, s_is, s_ls, s_as, s_ii, s_gi, s_gl, s_gr, s_pi, s_pz, s_pl, s_pr, s_iald, s_zald, s_lald, s_aald, s_alen, s_iast, s_zast, s_last, s_iret, s_zret, s_lret, s_aret, s_vret, s_sw, s_aast, mm_sw, mm_ld, mm_s1, mm_s2, mm_kl, Value.category, va_rf, List.nil_append, List.cons_append, Option.toList, true_and, and_true, and_self, true_or, or_true, eq_self, not_true_eq_false, false_implies, true_implies, not_false_eq_true, mm_10, mm_01, false_or, or_false, Nat.left_eq_add, Nat.add_eq_left, Nat.add_left_cancel_iff, Nat.reduceEqDiff, false_and, and_false, reduceIte, mm_kd_pi, mm_ln_pi, mm_gl_pi, mm_gr_pi, mm_sz_pi, mm_gi_pi, mm_kd_pl, mm_ln_pl, mm_gi_pl, mm_gr_pl, mm_sz_pl, mm_gl_pl, mm_kd_pr, mm_ln_pr, mm_gi_pr, mm_gl_pr, mm_sz_pr, mm_gr_pr, mm_kd_pa, mm_ln_pa, mm_gl_pa, mm_gr_pa, mm_sz_pa, mm_gi_pa, W_kd_58 H7, W_s_58 H7, W_gr_58_1 H7, W_gr_58_2 H7, W_gr_58_3 H7, W_gr_58_4 H7, W_gr_58_5 H7, W_gr_58_7 H7, W_gr_58_8 H7, W_kd_64 H7, W_s_64 H7, W_ln_64 H7, show mm_kd g7 (mm_sz h0) = 6 from C5.1.2.2.1, show (mm_sz h0 < mm_sz g7) = True from eq_true (AL_w C5.1), show mm_gr g7 (mm_sz h0) 7 = some (mm_sz h0 + 1 + 5) from (C5.1.2.2.2 5 (by decide)).2.2, (N0 5 g7 C5).2]
  refine c_X6_compact_131 (st := []) (Nat.le_of_ble_eq_true rfl) ⟨(C5.1.2.2.2 5 (by decide)).1, by rw [C5.1.1]; omega⟩ ⟨W_kd_64 H7, W_s_64 H7⟩ (by decide) (by decide) z0 (by rw [W_ln_64 H7, cz]; show 0 + z ≤ 400; omega) (by rw [(C5.1.2.2.2 5 (by decide)).2.1, cz]; show 0 + z ≤ z; omega) ?_
  rw [cz]
  have C6 := AC_s T65 (show 5 < 7 by decide) C5
  replace C6 : ACx h0 N z 6 (mm_pa g7 (mm_sz h0 + 1 + 5) (va_cpy (mm_gi g7 64) (mm_gi g7 (mm_sz h0 + 1 + 5)) (0 : Int32).toNatClampNeg (0 : Int32).toNatClampNeg z)) := C6
  generalize mm_pa g7 (mm_sz h0 + 1 + 5) (va_cpy (mm_gi g7 64) (mm_gi g7 (mm_sz h0 + 1 + 5)) (0 : Int32).toNatClampNeg (0 : Int32).toNatClampNeg z) = g8 at C6 ⊢
  have H8 := W0 6 g8 C6
  refine t_X6_compact_134 _ _ _ ?_
  simp only [s_iadd, s_isub, s_imul, s_iand, s_ior, s_ixor, s_ishl, s_ishr, s_iushr, s_idiv, s_irem, s_ladd, s_lsub, s_lmul, s_ldiv, s_lrem, s_ineg, s_i2l, s_l2i, s_i2c, s_lcmp, s_ic, s_lc, s_nul, s_str, s_il, s_ll, s_al, s_dup, s_dup2, s_pop, s_ifne, s_icne, s_ifeq, s_iflt, s_ifge, s_ifgt, s_ifle, s_iceq, s_iclt, s_icge, s_icgt, s_icle, s_ifnull, s_ifnonnull, s_is, s_ls, s_as, s_ii, s_gi, s_gl, s_gr, s_pi, s_pz, s_pl, s_pr, s_iald, s_zald, s_lald, s_aald, s_alen, s_iast, s_zast, s_last, s_iret, s_zret, s_lret, s_aret, s_vret, s_sw, s_aast, mm_sw, mm_ld, mm_s1, mm_s2, mm_kl, Value.category, va_rf, List.nil_append, List.cons_append, Option.toList, true_and, and_true, and_self, true_or, or_true, eq_self, not_true_eq_false, false_implies, true_implies, not_false_eq_true, mm_10, mm_01, false_or, or_false, Nat.left_eq_add, Nat.add_eq_left, Nat.add_left_cancel_iff, Nat.reduceEqDiff, false_and, and_false, reduceIte, mm_kd_pi, mm_ln_pi, mm_gl_pi, mm_gr_pi, mm_sz_pi, mm_gi_pi, mm_kd_pl, mm_ln_pl, mm_gi_pl, mm_gr_pl, mm_sz_pl, mm_gl_pl, mm_kd_pr, mm_ln_pr, mm_gi_pr, mm_gl_pr, mm_sz_pr, mm_gr_pr, mm_kd_pa, mm_ln_pa, mm_gl_pa, mm_gr_pa, mm_sz_pa, mm_gi_pa, W_kd_58 H8, W_s_58 H8, W_gr_58_1 H8, W_gr_58_2 H8, W_gr_58_3 H8, W_gr_58_4 H8, W_gr_58_5 H8, W_gr_58_7 H8, W_gr_58_8 H8, W_kd_65 H8, W_s_65 H8, W_ln_65 H8, show mm_kd g8 (mm_sz h0) = 6 from C6.1.2.2.1, show (mm_sz h0 < mm_sz g8) = True from eq_true (AL_w C6.1), show mm_gr g8 (mm_sz h0) 8 = some (mm_sz h0 + 1 + 6) from (C6.1.2.2.2 6 (by decide)).2.2, (N0 6 g8 C6).2]
  refine c_X6_compact_148 (st := []) (Nat.le_of_ble_eq_true rfl) ⟨(C6.1.2.2.2 6 (by decide)).1, by rw [C6.1.1]; omega⟩ ⟨W_kd_65 H8, W_s_65 H8⟩ (by decide) (by decide) z0 (by rw [W_ln_65 H8, cz]; show 0 + z ≤ 400; omega) (by rw [(C6.1.2.2.2 6 (by decide)).2.1, cz]; show 0 + z ≤ z; omega) ?_
  rw [cz]
  have C7 := AC_s T65 (show 6 < 7 by decide) C6
  replace C7 : ACx h0 N z 7 (mm_pa g8 (mm_sz h0 + 1 + 6) (va_cpy (mm_gi g8 65) (mm_gi g8 (mm_sz h0 + 1 + 6)) (0 : Int32).toNatClampNeg (0 : Int32).toNatClampNeg z)) := C7
  generalize mm_pa g8 (mm_sz h0 + 1 + 6) (va_cpy (mm_gi g8 65) (mm_gi g8 (mm_sz h0 + 1 + 6)) (0 : Int32).toNatClampNeg (0 : Int32).toNatClampNeg z) = g9 at C7 ⊢
  refine t_X6_compact_151 _ _ _ ?_
  simp only [s_iadd, s_isub, s_imul, s_iand, s_ior, s_ixor, s_ishl, s_ishr, s_iushr, s_idiv, s_irem, s_ladd, s_lsub, s_lmul, s_ldiv, s_lrem, s_ineg, s_i2l, s_l2i, s_i2c, s_lcmp, s_ic, s_lc, s_nul, s_str, s_il, s_ll, s_al, s_dup, s_dup2, s_pop, s_ifne, s_icne, s_ifeq, s_iflt, s_ifge, s_ifgt, s_ifle, s_iceq, s_iclt, s_icge, s_icgt, s_icle, s_ifnull, s_ifnonnull, s_is, s_ls, s_as, s_ii, s_gi, s_gl, s_gr, s_pi, s_pz, s_pl, s_pr, s_iald, s_zald, s_lald, s_aald, s_alen, s_iast, s_zast, s_last, s_iret, s_zret, s_lret, s_aret, s_vret, s_sw, s_aast, mm_sw, mm_ld, mm_s1, mm_s2, mm_kl, Value.category, va_rf, List.nil_append, List.cons_append, Option.toList, true_and, and_true, and_self, true_or, or_true, eq_self, not_true_eq_false, false_implies, true_implies, not_false_eq_true, mm_10, mm_01, false_or, or_false, Nat.left_eq_add, Nat.add_eq_left, Nat.add_left_cancel_iff, Nat.reduceEqDiff, false_and, and_false, reduceIte, mm_kd_pi, mm_ln_pi, mm_gl_pi, mm_gr_pi, mm_sz_pi, mm_gi_pi, mm_kd_pl, mm_ln_pl, mm_gi_pl, mm_gr_pl, mm_sz_pl, mm_gl_pl, mm_kd_pr, mm_ln_pr, mm_gi_pr, mm_gl_pr, mm_sz_pr, mm_gr_pr, mm_kd_pa, mm_ln_pa, mm_gl_pa, mm_gr_pa, mm_sz_pa, mm_gi_pa]
  exact k g9 C7
end
