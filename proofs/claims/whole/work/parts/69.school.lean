/-! schools: the pair -/
def SCH (h g : mmH) (C : Nat) (T : HSt) : Prop := (mm_kd g = mm_kd h ∧ mm_ln g = mm_ln h ∧ mm_gr g = mm_gr h ∧ mm_sz g = mm_sz h) ∧ (∀ c j, ¬ (xpp c j ∨ c = 121 ∨ (c = 91 ∧ (j = 0 ∨ j = 56))) → mm_gi g c j = mm_gi h c j) ∧ (∀ c, ¬ yL c → mm_gl g c = mm_gl h c) ∧ mm_gi g 91 56 = nI C ∧ ∀ c, c < C → mm_gi g 121 c = nI (T 1 c) ∧ mm_gi g 121 (6 + c) = nI (T 2 c)
section
variable {d : Nat} {h : mmH} {S : HSt} {K : Option Value → mmH → Prop} {A : Option lwD}
theorem SCH_of {g g2 : mmH} {s C : Nat} {T : HSt} (F : fx xrw yL (mm_pl (mm_pa (mm_pi h 91 0 0) 96 (va_cpy (mm_gi (mm_pi h 91 0 0) 93) (mm_gi (mm_pi h 91 0 0) 96) 5 (23 * 16) 23)) 91 54 (lN s)) g) (F2 : fx x121 y0 (mm_pi g 91 56 (nI C)) g2) (hd : ∀ c, c < C → mm_gi g2 121 c = nI (T 1 c) ∧ mm_gi g2 121 (6 + c) = nI (T 2 c)) : SCH h (mm_pa g2 93 (va_cpy (mm_gi g2 96) (mm_gi g2 93) (23 * 16) 5 23)) C T := by
  have e2 : ∀ c j, c ≠ 121 → ¬ (c = 91 ∧ j = 56) → mm_gi g2 c j = mm_gi g c j := fun c j a b => by rw [F2.2.1 c j a, mm_gi_pi, if_neg b]
  have e1 : ∀ c j, ¬ xrw c j → ¬ (c = 91 ∧ j = 0) → mm_gi g c j = if c = 96 then va_cpy (mm_gi (mm_pi h 91 0 0) 93) (mm_gi (mm_pi h 91 0 0) 96) 5 (23 * 16) 23 j else mm_gi h c j := fun c j a b => by
    rw [F.2.1 c j a, mm_gi_pl, mm_gi_pa]
    by_cases z : c = 96
    · rw [if_pos z, if_pos z]
    · rw [if_neg z, if_neg z, mm_gi_pi, if_neg b]
  have p93 : ∀ j, mm_gi (mm_pi h 91 0 0) 93 j = mm_gi h 93 j := fun j => by rw [mm_gi_pi, if_neg (by omega)]
  have p96 : ∀ j, mm_gi (mm_pi h 91 0 0) 96 j = mm_gi h 96 j := fun j => by rw [mm_gi_pi, if_neg (by omega)]
  refine ⟨⟨F2.1.1.trans F.1.1, F2.1.2.1.trans F.1.2.1, F2.1.2.2.1.trans F.1.2.2.1, F2.1.2.2.2.trans F.1.2.2.2⟩, fun c j z => ?_, fun c z => ?_, ?_, fun c hc => ?_⟩
  · rw [mm_gi_pa]
    by_cases y : c = 93
    · subst y
      rw [if_pos rfl]
      by_cases w : 5 ≤ j ∧ j < 28
      · rw [cpy_at w.1 (by omega), e2 96 _ (by omega) (by omega), e1 96 _ (by unfold xrw xL; omega) (by omega), if_pos rfl, cpy_at (by omega) (by omega), show 5 + (23 * 16 + (j - 5) - 23 * 16) = j by omega, p93]
      · rw [cpy_no (by omega), e2 93 j (by omega) (by omega), e1 93 j (by unfold xrw xL; omega) (by omega), if_neg (by decide)]
    · rw [if_neg y, e2 c j (by omega) (by omega), e1 c j (by unfold xpp at z; unfold xrw xL; omega) (by omega)]
      by_cases w : c = 96
      · subst w
        rw [if_pos rfl, cpy_no (by unfold xpp at z; omega), p96]
      · rw [if_neg w]
  · have : ¬ c = 91 := fun y => z (Or.inl y)
    show mm_gl g2 c = mm_gl h c
    rw [F2.2.2.1 c (fun y => y.elim)]
    show mm_gl g c = mm_gl h c
    rw [F.2.2.1 c z]
    funext j
    rw [mm_gl_pl, if_neg (fun y => this y.1)]
    rfl
  · rw [mm_gi_pa, if_neg (by decide), F2.2.1 91 56 (by unfold x121; omega), mm_gi_pi, if_pos ⟨rfl, rfl⟩]
  · rw [mm_gi_pa, if_neg (by decide), mm_gi_pa, if_neg (by decide)]; exact hd c hc
theorem ms_schools {x1 x2 : Int32} (Q : QI h S A)
    (k0 : ¬ (0 ≤ x1.toInt ∧ x1.toInt ≤ 1000000 ∧ 1 ≤ x2.toInt ∧ x2.toInt ≤ 60) → K (some (.int (-1))) (tlH (mm_pi h 91 0 0) (-1) 1)) (k3 : 0 ≤ x1.toInt ∧ x1.toInt ≤ 1000000 ∧ 1 ≤ x2.toInt ∧ x2.toInt ≤ 60 → ¬ (0 < S 0 0 ∧ 0 < S 0 1) → K (some (.int (-3))) (tlH (mm_pi h 91 0 0) (-3) 3))
    (k1 : ∀ s N, s ≤ 1000000 → 1 ≤ N → N ≤ 60 → x1 = nI s → x2 = nI N → 0 < S 0 0 → 0 < S 0 1 → ∀ g, SCH h g (S 0 1) (scF A N S s 0).1 → K (some (.int (nI (scF A N S s 0).2.2))) (mm_pi g 91 1 0)) : mm_MV q_X10_schools (d + 9) (0, 0) [.ref 91, .int x1, .int x2] h K := by
  have H := Q.1
  obtain ⟨H0, v, -, -, hm, hA, h20⟩ := QI_fx (scr_th (x := 0) fx_rf) Q
  have v1 := v.1.1
  have v2 := v.1.2.1
  have no : ¬ (0 ≤ x1.toInt ∧ x1.toInt ≤ 1000000 ∧ 1 ≤ x2.toInt ∧ x2.toInt ≤ 60) → mm_V q_X10_schools (d + 9) (0, 0) K 29 [some (.ref 91), some (.int x1), some (.int x2), none, none, none, none, none] [] (mm_pi h 91 0 0) := by
    intro z
    refine t_X10_schools_29 _ _ _ ?_
    simp only [s_iadd, s_isub, s_imul, s_iand, s_ior, s_ixor, s_ishl, s_ishr, s_iushr, s_idiv, s_irem, s_ladd, s_lsub, s_lmul, s_ldiv, s_lrem, s_ineg, s_i2l, s_l2i, s_i2c, s_lcmp, s_ic, s_lc, s_nul, s_str, s_il, s_ll, s_al, s_dup, s_dup2, s_pop, s_ifne, s_icne, s_ifeq, s_iflt, s_ifge, s_ifgt, s_ifle, s_iceq, s_iclt, s_icge, s_icgt, s_icle, s_ifnull, s_ifnonnull, s_is, s_ls, s_as, s_ii, s_gi, s_gl, s_gr, s_pi, s_pz, s_pl, s_pr, s_iald, s_zald, s_lald, s_aald, s_alen, s_iast, s_zast, s_last, s_iret, s_zret, s_lret, s_aret, s_vret, s_sw, s_aast, mm_sw, mm_ld, mm_s1, mm_s2, mm_kl, Value.category, va_rf, List.nil_append, List.cons_append, Option.toList, true_and, and_true, and_self, true_or, or_true, eq_self, not_true_eq_false, false_implies, true_implies, not_false_eq_true, mm_10, mm_01, false_or, or_false, Nat.left_eq_add, Nat.add_eq_left, Nat.add_left_cancel_iff, Nat.reduceEqDiff, false_and, and_false, reduceIte, mm_kd_pi, mm_ln_pi, mm_gl_pi, mm_gr_pi, mm_sz_pi, mm_gi_pi, mm_kd_pl, mm_ln_pl, mm_gi_pl, mm_gr_pl, mm_sz_pl, mm_gl_pl, mm_kd_pr, mm_ln_pr, mm_gi_pr, mm_gl_pr, mm_sz_pr, mm_gr_pr, mm_kd_pa, mm_ln_pa, mm_gl_pa, mm_gr_pa, mm_sz_pa, mm_gi_pa]
    refine c_X10_schools_31 (bb := (0, 0)) (b := (0, 0)) (Nat.le_of_ble_eq_true rfl) ⟨rfl, rfl⟩ (W_kd_91 H0) (W_s_91 H0) (sp_tell_no H0 (p := 1) (by simp) ?_)
    refine t_X10_schools_34 _ _ _ ?_
    simp only [s_iadd, s_isub, s_imul, s_iand, s_ior, s_ixor, s_ishl, s_ishr, s_iushr, s_idiv, s_irem, s_ladd, s_lsub, s_lmul, s_ldiv, s_lrem, s_ineg, s_i2l, s_l2i, s_i2c, s_lcmp, s_ic, s_lc, s_nul, s_str, s_il, s_ll, s_al, s_dup, s_dup2, s_pop, s_ifne, s_icne, s_ifeq, s_iflt, s_ifge, s_ifgt, s_ifle, s_iceq, s_iclt, s_icge, s_icgt, s_icle, s_ifnull, s_ifnonnull, s_is, s_ls, s_as, s_ii, s_gi, s_gl, s_gr, s_pi, s_pz, s_pl, s_pr, s_iald, s_zald, s_lald, s_aald, s_alen, s_iast, s_zast, s_last, s_iret, s_zret, s_lret, s_aret, s_vret, s_sw, s_aast, mm_sw, mm_ld, mm_s1, mm_s2, mm_kl, Value.category, va_rf, List.nil_append, List.cons_append, Option.toList, true_and, and_true, and_self, true_or, or_true, eq_self, not_true_eq_false, false_implies, true_implies, not_false_eq_true, mm_10, mm_01, false_or, or_false, Nat.left_eq_add, Nat.add_eq_left, Nat.add_left_cancel_iff, Nat.reduceEqDiff, false_and, and_false, reduceIte, mm_kd_pi, mm_ln_pi, mm_gl_pi, mm_gr_pi, mm_sz_pi, mm_gi_pi, mm_kd_pl, mm_ln_pl, mm_gi_pl, mm_gr_pl, mm_sz_pl, mm_gl_pl, mm_kd_pr, mm_ln_pr, mm_gi_pr, mm_gl_pr, mm_sz_pr, mm_gr_pr, mm_kd_pa, mm_ln_pa, mm_gl_pa, mm_gr_pa, mm_sz_pa, mm_gi_pa]
    exact k0 z
  have no3 : 0 ≤ x1.toInt ∧ x1.toInt ≤ 1000000 ∧ 1 ≤ x2.toInt ∧ x2.toInt ≤ 60 → ¬ (0 < S 0 0 ∧ 0 < S 0 1) → mm_V q_X10_schools (d + 9) (0, 0) K 53 [some (.ref 91), some (.int x1), some (.int x2), none, none, none, none, none] [] (mm_pi h 91 0 0) := by
    intro z1 z
    refine t_X10_schools_53 _ _ _ ?_
    simp only [s_iadd, s_isub, s_imul, s_iand, s_ior, s_ixor, s_ishl, s_ishr, s_iushr, s_idiv, s_irem, s_ladd, s_lsub, s_lmul, s_ldiv, s_lrem, s_ineg, s_i2l, s_l2i, s_i2c, s_lcmp, s_ic, s_lc, s_nul, s_str, s_il, s_ll, s_al, s_dup, s_dup2, s_pop, s_ifne, s_icne, s_ifeq, s_iflt, s_ifge, s_ifgt, s_ifle, s_iceq, s_iclt, s_icge, s_icgt, s_icle, s_ifnull, s_ifnonnull, s_is, s_ls, s_as, s_ii, s_gi, s_gl, s_gr, s_pi, s_pz, s_pl, s_pr, s_iald, s_zald, s_lald, s_aald, s_alen, s_iast, s_zast, s_last, s_iret, s_zret, s_lret, s_aret, s_vret, s_sw, s_aast, mm_sw, mm_ld, mm_s1, mm_s2, mm_kl, Value.category, va_rf, List.nil_append, List.cons_append, Option.toList, true_and, and_true, and_self, true_or, or_true, eq_self, not_true_eq_false, false_implies, true_implies, not_false_eq_true, mm_10, mm_01, false_or, or_false, Nat.left_eq_add, Nat.add_eq_left, Nat.add_left_cancel_iff, Nat.reduceEqDiff, false_and, and_false, reduceIte, mm_kd_pi, mm_ln_pi, mm_gl_pi, mm_gr_pi, mm_sz_pi, mm_gi_pi, mm_kd_pl, mm_ln_pl, mm_gi_pl, mm_gr_pl, mm_sz_pl, mm_gl_pl, mm_kd_pr, mm_ln_pr, mm_gi_pr, mm_gl_pr, mm_sz_pr, mm_gr_pr, mm_kd_pa, mm_ln_pa, mm_gl_pa, mm_gr_pa, mm_sz_pa, mm_gi_pa]
    refine c_X10_schools_56 (bb := (0, 0)) (b := (0, 0)) (Nat.le_of_ble_eq_true rfl) ⟨rfl, rfl⟩ (W_kd_91 H0) (W_s_91 H0) (sp_tell_no H0 (p := 3) (by simp) ?_)
    refine t_X10_schools_59 _ _ _ ?_
    simp only [s_iadd, s_isub, s_imul, s_iand, s_ior, s_ixor, s_ishl, s_ishr, s_iushr, s_idiv, s_irem, s_ladd, s_lsub, s_lmul, s_ldiv, s_lrem, s_ineg, s_i2l, s_l2i, s_i2c, s_lcmp, s_ic, s_lc, s_nul, s_str, s_il, s_ll, s_al, s_dup, s_dup2, s_pop, s_ifne, s_icne, s_ifeq, s_iflt, s_ifge, s_ifgt, s_ifle, s_iceq, s_iclt, s_icge, s_icgt, s_icle, s_ifnull, s_ifnonnull, s_is, s_ls, s_as, s_ii, s_gi, s_gl, s_gr, s_pi, s_pz, s_pl, s_pr, s_iald, s_zald, s_lald, s_aald, s_alen, s_iast, s_zast, s_last, s_iret, s_zret, s_lret, s_aret, s_vret, s_sw, s_aast, mm_sw, mm_ld, mm_s1, mm_s2, mm_kl, Value.category, va_rf, List.nil_append, List.cons_append, Option.toList, true_and, and_true, and_self, true_or, or_true, eq_self, not_true_eq_false, false_implies, true_implies, not_false_eq_true, mm_10, mm_01, false_or, or_false, Nat.left_eq_add, Nat.add_eq_left, Nat.add_left_cancel_iff, Nat.reduceEqDiff, false_and, and_false, reduceIte, mm_kd_pi, mm_ln_pi, mm_gl_pi, mm_gr_pi, mm_sz_pi, mm_gi_pi, mm_kd_pl, mm_ln_pl, mm_gi_pl, mm_gr_pl, mm_sz_pl, mm_gl_pl, mm_kd_pr, mm_ln_pr, mm_gi_pr, mm_gl_pr, mm_sz_pr, mm_gr_pr, mm_kd_pa, mm_ln_pa, mm_gl_pa, mm_gr_pa, mm_sz_pa, mm_gi_pa]
    exact k3 z1 z
  refine e_X10_schools (t_X10_schools_0 _ _ _ ?_)
  simp only [s_iadd, s_isub, s_imul, s_iand, s_ior, s_ixor, s_ishl, s_ishr, s_iushr, s_idiv, s_irem, s_ladd, s_lsub, s_lmul, s_ldiv, s_lrem, s_ineg, s_i2l, s_l2i, s_i2c, s_lcmp, s_ic, s_lc, s_nul, s_str, s_il, s_ll, s_al, s_dup, s_dup2, s_pop, s_ifne, s_icne, s_ifeq, s_iflt, s_ifge, s_ifgt, s_ifle, s_iceq, s_iclt, s_icge, s_icgt, s_icle, s_ifnull, s_ifnonnull, s_is, s_ls, s_as, s_ii, s_gi, s_gl, s_gr, s_pi, s_pz, s_pl, s_pr, s_iald, s_zald, s_lald, s_aald, s_alen, s_iast, s_zast, s_last, s_iret, s_zret, s_lret, s_aret, s_vret, s_sw, s_aast, mm_sw, mm_ld, mm_s1, mm_s2, mm_kl, Value.category, va_rf, List.nil_append, List.cons_append, Option.toList, true_and, and_true, and_self, true_or, or_true, eq_self, not_true_eq_false, false_implies, true_implies, not_false_eq_true, mm_10, mm_01, false_or, or_false, Nat.left_eq_add, Nat.add_eq_left, Nat.add_left_cancel_iff, Nat.reduceEqDiff, false_and, and_false, reduceIte, mm_kd_pi, mm_ln_pi, mm_gl_pi, mm_gr_pi, mm_sz_pi, mm_gi_pi, mm_kd_pl, mm_ln_pl, mm_gi_pl, mm_gr_pl, mm_sz_pl, mm_gl_pl, mm_kd_pr, mm_ln_pr, mm_gi_pr, mm_gl_pr, mm_sz_pr, mm_gr_pr, mm_kd_pa, mm_ln_pa, mm_gl_pa, mm_gr_pa, mm_sz_pa, mm_gi_pa, W_kd_91 H, W_s_91 H, W_gr_91_2 H, W_gr_91_3 H, W_gr_91_4 H, W_gr_91_5 H, W_gr_91_6 H, W_gr_91_7 H, W_gr_91_9 H, W_gr_91_10 H, W_gr_91_12 H, W_gr_91_22 H, W_gr_91_24 H, W_gr_91_25 H, W_gr_91_27 H, W_gr_91_28 H, W_gr_91_31 H, W_gr_91_32 H, W_gr_91_33 H, W_gr_91_35 H, W_gr_91_36 H, W_gr_91_37 H, W_gr_91_41 H, W_gr_91_42 H, W_gr_91_43 H, W_gr_91_44 H, W_gr_91_45 H, W_gr_91_46 H, W_gr_91_47 H, W_gr_91_48 H, W_gr_91_49 H, W_gr_91_55 H]
  refine c_X10_schools_11 (bb := (0, 0)) (b := (0, 0)) (Nat.le_of_ble_eq_true rfl) ⟨rfl, rfl⟩ (sp_in (fun q1 q2 => ?_) (fun q => ?_)) <;> refine t_X10_schools_14 _ _ _ ?_
  · rw [Int32.toInt_toInt64, tl_0] at q1
    rw [Int32.toInt_toInt64, show (1000000 : Int64).toInt = 1000000 by decide] at q2
    simp only [s_iadd, s_isub, s_imul, s_iand, s_ior, s_ixor, s_ishl, s_ishr, s_iushr, s_idiv, s_irem, s_ladd, s_lsub, s_lmul, s_ldiv, s_lrem, s_ineg, s_i2l, s_l2i, s_i2c, s_lcmp, s_ic, s_lc, s_nul, s_str, s_il, s_ll, s_al, s_dup, s_dup2, s_pop, s_ifne, s_icne, s_ifeq, s_iflt, s_ifge, s_ifgt, s_ifle, s_iceq, s_iclt, s_icge, s_icgt, s_icle, s_ifnull, s_ifnonnull, s_is, s_ls, s_as, s_ii, s_gi, s_gl, s_gr, s_pi, s_pz, s_pl, s_pr, s_iald, s_zald, s_lald, s_aald, s_alen, s_iast, s_zast, s_last, s_iret, s_zret, s_lret, s_aret, s_vret, s_sw, s_aast, mm_sw, mm_ld, mm_s1, mm_s2, mm_kl, Value.category, va_rf, List.nil_append, List.cons_append, Option.toList, true_and, and_true, and_self, true_or, or_true, eq_self, not_true_eq_false, false_implies, true_implies, not_false_eq_true, mm_10, mm_01, false_or, or_false, Nat.left_eq_add, Nat.add_eq_left, Nat.add_left_cancel_iff, Nat.reduceEqDiff, false_and, and_false, reduceIte, mm_kd_pi, mm_ln_pi, mm_gl_pi, mm_gr_pi, mm_sz_pi, mm_gi_pi, mm_kd_pl, mm_ln_pl, mm_gi_pl, mm_gr_pl, mm_sz_pl, mm_gl_pl, mm_kd_pr, mm_ln_pr, mm_gi_pr, mm_gl_pr, mm_sz_pr, mm_gr_pr, mm_kd_pa, mm_ln_pa, mm_gl_pa, mm_gr_pa, mm_sz_pa, mm_gi_pa, mm_10]
    refine c_X10_schools_23 (bb := (0, 0)) (b := (0, 0)) (Nat.le_of_ble_eq_true rfl) ⟨rfl, rfl⟩ (sp_in (fun q3 q4 => ?_) (fun q => ?_)) <;> refine t_X10_schools_26 _ _ _ ?_
    · rw [Int32.toInt_toInt64, tl_1] at q3
      rw [Int32.toInt_toInt64, show (60 : Int64).toInt = 60 by decide] at q4
      have e0 : mm_gi (mm_pi h 91 0 0) 93 0 = nI (S 0 0) := hm.1.1
      have e1 : mm_gi (mm_pi h 91 0 0) 93 1 = nI (S 0 1) := hm.1.2.1
      rw [mm_gi_pi, if_neg (by omega)] at e0 e1
      simp only [s_iadd, s_isub, s_imul, s_iand, s_ior, s_ixor, s_ishl, s_ishr, s_iushr, s_idiv, s_irem, s_ladd, s_lsub, s_lmul, s_ldiv, s_lrem, s_ineg, s_i2l, s_l2i, s_i2c, s_lcmp, s_ic, s_lc, s_nul, s_str, s_il, s_ll, s_al, s_dup, s_dup2, s_pop, s_ifne, s_icne, s_ifeq, s_iflt, s_ifge, s_ifgt, s_ifle, s_iceq, s_iclt, s_icge, s_icgt, s_icle, s_ifnull, s_ifnonnull, s_is, s_ls, s_as, s_ii, s_gi, s_gl, s_gr, s_pi, s_pz, s_pl, s_pr, s_iald, s_zald, s_lald, s_aald, s_alen, s_iast, s_zast, s_last, s_iret, s_zret, s_lret, s_aret, s_vret, s_sw, s_aast, mm_sw, mm_ld, mm_s1, mm_s2, mm_kl, Value.category, va_rf, List.nil_append, List.cons_append, Option.toList, true_and, and_true, and_self, true_or, or_true, eq_self, not_true_eq_false, false_implies, true_implies, not_false_eq_true, mm_10, mm_01, false_or, or_false, Nat.left_eq_add, Nat.add_eq_left, Nat.add_left_cancel_iff, Nat.reduceEqDiff, false_and, and_false, reduceIte, mm_kd_pi, mm_ln_pi, mm_gl_pi, mm_gr_pi, mm_sz_pi, mm_gi_pi, mm_kd_pl, mm_ln_pl, mm_gi_pl, mm_gr_pl, mm_sz_pl, mm_gl_pl, mm_kd_pr, mm_ln_pr, mm_gi_pr, mm_gl_pr, mm_sz_pr, mm_gr_pr, mm_kd_pa, mm_ln_pa, mm_gl_pa, mm_gr_pa, mm_sz_pa, mm_gi_pa, mm_10, W_kd_91 H, W_s_91 H, W_gr_91_2 H, W_gr_91_3 H, W_gr_91_4 H, W_gr_91_5 H, W_gr_91_6 H, W_gr_91_7 H, W_gr_91_9 H, W_gr_91_10 H, W_gr_91_12 H, W_gr_91_22 H, W_gr_91_24 H, W_gr_91_25 H, W_gr_91_27 H, W_gr_91_28 H, W_gr_91_31 H, W_gr_91_32 H, W_gr_91_33 H, W_gr_91_35 H, W_gr_91_36 H, W_gr_91_37 H, W_gr_91_41 H, W_gr_91_42 H, W_gr_91_43 H, W_gr_91_44 H, W_gr_91_45 H, W_gr_91_46 H, W_gr_91_47 H, W_gr_91_48 H, W_gr_91_49 H, W_gr_91_55 H, W_kd_93 H, W_s_93 H, W_ln_93 H, show (0 : Int32).toNatClampNeg = 0 from rfl, show vp_in (0 : Int32) 5475 from vp_in_nI (n := 0) (by decide) (by decide), show (1 : Int32).toNatClampNeg = 1 from rfl, show vp_in (1 : Int32) 5475 from vp_in_nI (n := 1) (by decide) (by decide), e0, e1, show (93 = 91) = False by decide, show (nI (S 0 0) = 0) = (S 0 0 = 0) from propext (nI_eq (b := 0) (by omega) (by decide)), show (nI (S 0 1) = 0) = (S 0 1 = 0) from propext (nI_eq (b := 0) (by omega) (by decide))]
      refine ⟨fun z => no3 ⟨q1, q2, q3, q4⟩ (by omega), fun y5 => ⟨fun y6 => ?_, fun z => no3 ⟨q1, q2, q3, q4⟩ (by omega)⟩⟩
      obtain ⟨s, hs, rfl⟩ := nI_of (x := x1) (by rw [Int32.lt_iff_toInt_lt, ti_0]; omega)
      obtain ⟨N, hN, rfl⟩ := nI_of (x := x2) (by rw [Int32.lt_iff_toInt_lt, ti_0]; omega)
      rw [nI_toInt hs] at q1 q2
      rw [nI_toInt hN] at q3 q4
      refine c_X10_schools_63 (bb := (0, 0)) (b := (0, 0)) (Nat.le_of_ble_eq_true rfl) ⟨rfl, rfl⟩ (W_kd_91 H0) (W_s_91 H0) (sp_keepAll (m := 16) H0 (by decide) ?_)
      have H1 : WS (mm_pa (mm_pi h 91 0 0) 96 (va_cpy (mm_gi (mm_pi h 91 0 0) 93) (mm_gi (mm_pi h 91 0 0) 96) 5 (23 * 16) 23)) := WS_pa H0
      refine t_X10_schools_66 _ _ _ ?_
      simp only [s_iadd, s_isub, s_imul, s_iand, s_ior, s_ixor, s_ishl, s_ishr, s_iushr, s_idiv, s_irem, s_ladd, s_lsub, s_lmul, s_ldiv, s_lrem, s_ineg, s_i2l, s_l2i, s_i2c, s_lcmp, s_ic, s_lc, s_nul, s_str, s_il, s_ll, s_al, s_dup, s_dup2, s_pop, s_ifne, s_icne, s_ifeq, s_iflt, s_ifge, s_ifgt, s_ifle, s_iceq, s_iclt, s_icge, s_icgt, s_icle, s_ifnull, s_ifnonnull, s_is, s_ls, s_as, s_ii, s_gi, s_gl, s_gr, s_pi, s_pz, s_pl, s_pr, s_iald, s_zald, s_lald, s_aald, s_alen, s_iast, s_zast, s_last, s_iret, s_zret, s_lret, s_aret, s_vret, s_sw, s_aast, mm_sw, mm_ld, mm_s1, mm_s2, mm_kl, Value.category, va_rf, List.nil_append, List.cons_append, Option.toList, true_and, and_true, and_self, true_or, or_true, eq_self, not_true_eq_false, false_implies, true_implies, not_false_eq_true, mm_10, mm_01, false_or, or_false, Nat.left_eq_add, Nat.add_eq_left, Nat.add_left_cancel_iff, Nat.reduceEqDiff, false_and, and_false, reduceIte, mm_kd_pi, mm_ln_pi, mm_gl_pi, mm_gr_pi, mm_sz_pi, mm_gi_pi, mm_kd_pl, mm_ln_pl, mm_gi_pl, mm_gr_pl, mm_sz_pl, mm_gl_pl, mm_kd_pr, mm_ln_pr, mm_gi_pr, mm_gl_pr, mm_sz_pr, mm_gr_pr, mm_kd_pa, mm_ln_pa, mm_gl_pa, mm_gr_pa, mm_sz_pa, mm_gi_pa, W_kd_91 H, W_s_91 H, W_gr_91_2 H, W_gr_91_3 H, W_gr_91_4 H, W_gr_91_5 H, W_gr_91_6 H, W_gr_91_7 H, W_gr_91_9 H, W_gr_91_10 H, W_gr_91_12 H, W_gr_91_22 H, W_gr_91_24 H, W_gr_91_25 H, W_gr_91_27 H, W_gr_91_28 H, W_gr_91_31 H, W_gr_91_32 H, W_gr_91_33 H, W_gr_91_35 H, W_gr_91_36 H, W_gr_91_37 H, W_gr_91_41 H, W_gr_91_42 H, W_gr_91_43 H, W_gr_91_44 H, W_gr_91_45 H, W_gr_91_46 H, W_gr_91_47 H, W_gr_91_48 H, W_gr_91_49 H, W_gr_91_55 H, nI_l hs]
      have e93 : mm_gi (mm_pa (mm_pi h 91 0 0) 96 (va_cpy (mm_gi (mm_pi h 91 0 0) 93) (mm_gi (mm_pi h 91 0 0) 96) 5 (23 * 16) 23)) 93 = mm_gi (mm_pi h 91 0 0) 93 := funext fun j => by rw [mm_gi_pa, if_neg (by decide)]
      refine lm_sch (h := mm_pa (mm_pi h 91 0 0) 96 (va_cpy (mm_gi (mm_pi h 91 0 0) 93) (mm_gi (mm_pi h 91 0 0) 96) 5 (23 * 16) 23)) (S0 := S) (L := S 0 0) (C := S 0 1) (N := N) (R := scF A N S s 0) H1 (by rw [mm_gi_pa, if_neg (by decide)]; exact h20) (by rw [e93]; exact hA) ⟨by omega, v1⟩ ⟨by omega, v2⟩ (by omega) (fun g s' v4 v5 v6 v7 F hmg vR cR r60 => ?_) N 0 S s 0 _ none none none (by omega) (by omega) v sameC_rf rfl rfl (by rw [show mm_gi (mm_pl (mm_pa (mm_pi h 91 0 0) 96 (va_cpy (mm_gi (mm_pi h 91 0 0) 93) (mm_gi (mm_pi h 91 0 0) 96) 5 (23 * 16) 23)) 91 54 (lN s)) 93 = mm_gi (mm_pi h 91 0 0) 93 from e93]; exact hm) fx_rf (by omega) rfl
      have Hg : WS g := fx_WS F (WS_pl H1)
      have g1 : mm_gi g 93 1 = nI (S 0 1) := by rw [← cR]; exact hmg.1.2.1
      refine t_X10_schools_181 _ _ _ ?_
      simp only [s_iadd, s_isub, s_imul, s_iand, s_ior, s_ixor, s_ishl, s_ishr, s_iushr, s_idiv, s_irem, s_ladd, s_lsub, s_lmul, s_ldiv, s_lrem, s_ineg, s_i2l, s_l2i, s_i2c, s_lcmp, s_ic, s_lc, s_nul, s_str, s_il, s_ll, s_al, s_dup, s_dup2, s_pop, s_ifne, s_icne, s_ifeq, s_iflt, s_ifge, s_ifgt, s_ifle, s_iceq, s_iclt, s_icge, s_icgt, s_icle, s_ifnull, s_ifnonnull, s_is, s_ls, s_as, s_ii, s_gi, s_gl, s_gr, s_pi, s_pz, s_pl, s_pr, s_iald, s_zald, s_lald, s_aald, s_alen, s_iast, s_zast, s_last, s_iret, s_zret, s_lret, s_aret, s_vret, s_sw, s_aast, mm_sw, mm_ld, mm_s1, mm_s2, mm_kl, Value.category, va_rf, List.nil_append, List.cons_append, Option.toList, true_and, and_true, and_self, true_or, or_true, eq_self, not_true_eq_false, false_implies, true_implies, not_false_eq_true, mm_10, mm_01, false_or, or_false, Nat.left_eq_add, Nat.add_eq_left, Nat.add_left_cancel_iff, Nat.reduceEqDiff, false_and, and_false, reduceIte, mm_kd_pi, mm_ln_pi, mm_gl_pi, mm_gr_pi, mm_sz_pi, mm_gi_pi, mm_kd_pl, mm_ln_pl, mm_gi_pl, mm_gr_pl, mm_sz_pl, mm_gl_pl, mm_kd_pr, mm_ln_pr, mm_gi_pr, mm_gl_pr, mm_sz_pr, mm_gr_pr, mm_kd_pa, mm_ln_pa, mm_gl_pa, mm_gr_pa, mm_sz_pa, mm_gi_pa, W_kd_91 Hg, W_s_91 Hg, W_gr_91_2 Hg, W_gr_91_3 Hg, W_gr_91_4 Hg, W_gr_91_5 Hg, W_gr_91_6 Hg, W_gr_91_7 Hg, W_gr_91_9 Hg, W_gr_91_10 Hg, W_gr_91_12 Hg, W_gr_91_22 Hg, W_gr_91_24 Hg, W_gr_91_25 Hg, W_gr_91_27 Hg, W_gr_91_28 Hg, W_gr_91_31 Hg, W_gr_91_32 Hg, W_gr_91_33 Hg, W_gr_91_35 Hg, W_gr_91_36 Hg, W_gr_91_37 Hg, W_gr_91_41 Hg, W_gr_91_42 Hg, W_gr_91_43 Hg, W_gr_91_44 Hg, W_gr_91_45 Hg, W_gr_91_46 Hg, W_gr_91_47 Hg, W_gr_91_48 Hg, W_gr_91_49 Hg, W_gr_91_55 Hg, W_kd_93 Hg, W_s_93 Hg, W_ln_93 Hg, show (1 : Int32).toNatClampNeg = 1 from rfl, show vp_in (1 : Int32) 5475 from vp_in_nI (n := 1) (by decide) (by decide), g1]
      refine lm_194 (h := mm_pi g 91 56 (nI (S 0 1))) (T := (scF A N S s 0).1) (C := S 0 1) (WS_pi Hg) v2 (by rw [mm_gi_pi, if_pos ⟨rfl, rfl⟩]) (fun c hc => ?_) (fun g2 F2 hd => ?_) (S 0 1) 0 _ (by omega) fx_rf (fun c hc => by omega)
      · rw [mm_gi_pi, if_neg (by omega), mm_gi_pi, if_neg (by omega)]
        obtain ⟨a1, a2, -⟩ := HM_c hmg (show c < (scF A N S s 0).1 0 1 by rw [cR]; exact hc)
        exact ⟨a1, a2⟩
      · have H2 : WS g2 := fx_WS F2 (WS_pi Hg)
        refine c_X10_schools_249 (bb := (0, 0)) (b := (0, 0)) (Nat.le_of_ble_eq_true rfl) ⟨rfl, rfl⟩ (W_kd_91 H2) (W_s_91 H2) (sp_putBack (m := 16) H2 (by decide) ?_)
        have H3 : WS (mm_pa g2 93 (va_cpy (mm_gi g2 96) (mm_gi g2 93) (23 * 16) 5 23)) := WS_pa H2
        refine t_X10_schools_252 _ _ _ ?_
        simp only [s_iadd, s_isub, s_imul, s_iand, s_ior, s_ixor, s_ishl, s_ishr, s_iushr, s_idiv, s_irem, s_ladd, s_lsub, s_lmul, s_ldiv, s_lrem, s_ineg, s_i2l, s_l2i, s_i2c, s_lcmp, s_ic, s_lc, s_nul, s_str, s_il, s_ll, s_al, s_dup, s_dup2, s_pop, s_ifne, s_icne, s_ifeq, s_iflt, s_ifge, s_ifgt, s_ifle, s_iceq, s_iclt, s_icge, s_icgt, s_icle, s_ifnull, s_ifnonnull, s_is, s_ls, s_as, s_ii, s_gi, s_gl, s_gr, s_pi, s_pz, s_pl, s_pr, s_iald, s_zald, s_lald, s_aald, s_alen, s_iast, s_zast, s_last, s_iret, s_zret, s_lret, s_aret, s_vret, s_sw, s_aast, mm_sw, mm_ld, mm_s1, mm_s2, mm_kl, Value.category, va_rf, List.nil_append, List.cons_append, Option.toList, true_and, and_true, and_self, true_or, or_true, eq_self, not_true_eq_false, false_implies, true_implies, not_false_eq_true, mm_10, mm_01, false_or, or_false, Nat.left_eq_add, Nat.add_eq_left, Nat.add_left_cancel_iff, Nat.reduceEqDiff, false_and, and_false, reduceIte, mm_kd_pi, mm_ln_pi, mm_gl_pi, mm_gr_pi, mm_sz_pi, mm_gi_pi, mm_kd_pl, mm_ln_pl, mm_gi_pl, mm_gr_pl, mm_sz_pl, mm_gl_pl, mm_kd_pr, mm_ln_pr, mm_gi_pr, mm_gl_pr, mm_sz_pr, mm_gr_pr, mm_kd_pa, mm_ln_pa, mm_gl_pa, mm_gr_pa, mm_sz_pa, mm_gi_pa]
        refine c_X10_schools_254 (bb := (0, 0)) (b := (0, 0)) (Nat.le_of_ble_eq_true rfl) ⟨rfl, rfl⟩ (W_kd_91 H3) (W_s_91 H3) (sp_tell_ok H3 (nI_pos' (by omega)) ?_)
        refine t_X10_schools_257 _ _ _ ?_
        simp only [s_iadd, s_isub, s_imul, s_iand, s_ior, s_ixor, s_ishl, s_ishr, s_iushr, s_idiv, s_irem, s_ladd, s_lsub, s_lmul, s_ldiv, s_lrem, s_ineg, s_i2l, s_l2i, s_i2c, s_lcmp, s_ic, s_lc, s_nul, s_str, s_il, s_ll, s_al, s_dup, s_dup2, s_pop, s_ifne, s_icne, s_ifeq, s_iflt, s_ifge, s_ifgt, s_ifle, s_iceq, s_iclt, s_icge, s_icgt, s_icle, s_ifnull, s_ifnonnull, s_is, s_ls, s_as, s_ii, s_gi, s_gl, s_gr, s_pi, s_pz, s_pl, s_pr, s_iald, s_zald, s_lald, s_aald, s_alen, s_iast, s_zast, s_last, s_iret, s_zret, s_lret, s_aret, s_vret, s_sw, s_aast, mm_sw, mm_ld, mm_s1, mm_s2, mm_kl, Value.category, va_rf, List.nil_append, List.cons_append, Option.toList, true_and, and_true, and_self, true_or, or_true, eq_self, not_true_eq_false, false_implies, true_implies, not_false_eq_true, mm_10, mm_01, false_or, or_false, Nat.left_eq_add, Nat.add_eq_left, Nat.add_left_cancel_iff, Nat.reduceEqDiff, false_and, and_false, reduceIte, mm_kd_pi, mm_ln_pi, mm_gl_pi, mm_gr_pi, mm_sz_pi, mm_gi_pi, mm_kd_pl, mm_ln_pl, mm_gi_pl, mm_gr_pl, mm_sz_pl, mm_gl_pl, mm_kd_pr, mm_ln_pr, mm_gi_pr, mm_gl_pr, mm_sz_pr, mm_gr_pr, mm_kd_pa, mm_ln_pa, mm_gl_pa, mm_gr_pa, mm_sz_pa, mm_gi_pa]
        exact k1 s N (by omega) (by omega) (by omega) rfl rfl (by omega) (by omega) _ (SCH_of F F2 hd)
    · rw [Int32.toInt_toInt64, tl_1, show (60 : Int64).toInt = 60 by decide] at q
      simp only [s_iadd, s_isub, s_imul, s_iand, s_ior, s_ixor, s_ishl, s_ishr, s_iushr, s_idiv, s_irem, s_ladd, s_lsub, s_lmul, s_ldiv, s_lrem, s_ineg, s_i2l, s_l2i, s_i2c, s_lcmp, s_ic, s_lc, s_nul, s_str, s_il, s_ll, s_al, s_dup, s_dup2, s_pop, s_ifne, s_icne, s_ifeq, s_iflt, s_ifge, s_ifgt, s_ifle, s_iceq, s_iclt, s_icge, s_icgt, s_icle, s_ifnull, s_ifnonnull, s_is, s_ls, s_as, s_ii, s_gi, s_gl, s_gr, s_pi, s_pz, s_pl, s_pr, s_iald, s_zald, s_lald, s_aald, s_alen, s_iast, s_zast, s_last, s_iret, s_zret, s_lret, s_aret, s_vret, s_sw, s_aast, mm_sw, mm_ld, mm_s1, mm_s2, mm_kl, Value.category, va_rf, List.nil_append, List.cons_append, Option.toList, true_and, and_true, and_self, true_or, or_true, eq_self, not_true_eq_false, false_implies, true_implies, not_false_eq_true, mm_10, mm_01, false_or, or_false, Nat.left_eq_add, Nat.add_eq_left, Nat.add_left_cancel_iff, Nat.reduceEqDiff, false_and, and_false, reduceIte, mm_kd_pi, mm_ln_pi, mm_gl_pi, mm_gr_pi, mm_sz_pi, mm_gi_pi, mm_kd_pl, mm_ln_pl, mm_gi_pl, mm_gr_pl, mm_sz_pl, mm_gl_pl, mm_kd_pr, mm_ln_pr, mm_gi_pr, mm_gl_pr, mm_sz_pr, mm_gr_pr, mm_kd_pa, mm_ln_pa, mm_gl_pa, mm_gr_pa, mm_sz_pa, mm_gi_pa]
      exact no (by omega)
  · rw [Int32.toInt_toInt64, tl_0, show (1000000 : Int64).toInt = 1000000 by decide] at q
    simp only [s_iadd, s_isub, s_imul, s_iand, s_ior, s_ixor, s_ishl, s_ishr, s_iushr, s_idiv, s_irem, s_ladd, s_lsub, s_lmul, s_ldiv, s_lrem, s_ineg, s_i2l, s_l2i, s_i2c, s_lcmp, s_ic, s_lc, s_nul, s_str, s_il, s_ll, s_al, s_dup, s_dup2, s_pop, s_ifne, s_icne, s_ifeq, s_iflt, s_ifge, s_ifgt, s_ifle, s_iceq, s_iclt, s_icge, s_icgt, s_icle, s_ifnull, s_ifnonnull, s_is, s_ls, s_as, s_ii, s_gi, s_gl, s_gr, s_pi, s_pz, s_pl, s_pr, s_iald, s_zald, s_lald, s_aald, s_alen, s_iast, s_zast, s_last, s_iret, s_zret, s_lret, s_aret, s_vret, s_sw, s_aast, mm_sw, mm_ld, mm_s1, mm_s2, mm_kl, Value.category, va_rf, List.nil_append, List.cons_append, Option.toList, true_and, and_true, and_self, true_or, or_true, eq_self, not_true_eq_false, false_implies, true_implies, not_false_eq_true, mm_10, mm_01, false_or, or_false, Nat.left_eq_add, Nat.add_eq_left, Nat.add_left_cancel_iff, Nat.reduceEqDiff, false_and, and_false, reduceIte, mm_kd_pi, mm_ln_pi, mm_gl_pi, mm_gr_pi, mm_sz_pi, mm_gi_pi, mm_kd_pl, mm_ln_pl, mm_gi_pl, mm_gr_pl, mm_sz_pl, mm_gl_pl, mm_kd_pr, mm_ln_pr, mm_gi_pr, mm_gl_pr, mm_sz_pr, mm_gr_pr, mm_kd_pa, mm_ln_pa, mm_gl_pa, mm_gr_pa, mm_sz_pa, mm_gi_pa]
    exact no (by omega)
end
section
variable {LR : mmH → Nat → (Nat → Int32) → Nat → Prop}
theorem Inv_sch (FR : LRf LR) {h g : mmH} (hI : Inv LR h) (ek : mm_kd g = mm_kd h) (el : mm_ln g = mm_ln h) (es : mm_sz g = mm_sz h) (er : ∀ c j, c ≠ 89 → mm_gr g c j = mm_gr h c j) (hr : Lref g 79) (e : ∀ c j, ¬ scr c j → ¬ (79 ≤ c ∧ c ≤ 88) → c ≠ 121 → ¬ (c = 91 ∧ (j = 56 ∨ j = 1)) → ¬ (c = 0 ∧ j = 12) → mm_gi g c j = mm_gi h c j) (eg : ∀ c, c = 106 ∨ c = 107 ∨ c = 108 ∨ c = 118 ∨ c = 119 → mm_gl g c = mm_gl h c) (hs : I_school g) (e12 : mm_gi g 0 12 = mm_gi g 91 1) : Inv LR g := by
  obtain ⟨hw, ⟨⟨a1, a2, a3, a4⟩, a5, a6, a7, a8, a9⟩, ⟨n, t1, t2, t3, t4⟩, ⟨S, v, hc, hm, hl, tr⟩, i0, i1, -, ⟨lr1, lr2⟩, c1, c2, c3, c4, c5, c6⟩ := hI
  have E : ∀ c j, ¬ scr c j → c < 79 ∨ 89 ≤ c → c ≠ 121 → c ≠ 91 → c ≠ 0 → mm_gi g c j = mm_gi h c j := fun c j q1 q2 q3 q4 q5 => e c j q1 (by omega) q3 (by omega) (by omega)
  have E93 : mm_gi g 93 = mm_gi h 93 := funext fun j => E 93 j (by unfold scr; omega) (by omega) (by omega) (by omega) (by omega)
  have E94 : ∀ j, mm_gi g 94 j = mm_gi h 94 j := fun j => E 94 j (by unfold scr; omega) (by omega) (by omega) (by omega) (by omega)
  have tx : ∀ c, 122 ≤ c → mm_kd g c = mm_kd h c ∧ mm_ln g c = mm_ln h c ∧ (∀ j, mm_gi g c j = mm_gi h c j) ∧ ∀ j, mm_gr g c j = mm_gr h c j := fun c hc => ⟨by rw [ek], by rw [el], fun j => E c j (by unfold scr; omega) (by omega) (by omega) (by omega) (by omega), fun j => er c j (by omega)⟩
  have v1 := v.1.1
  have v2 := v.1.2.1
  have img : ∀ k a, k < 2 → (a = 27 ∨ a = 38) → I_img LR h k a → I_img LR g k a := fun k a hk ha H => I_img_cg2 FR ek el es (fun c j hc => er c j (by omega)) (fun c j hc => E c j (by unfold scr; omega) (by omega) (by omega) (by omega) (by omega)) (E 49 k (by unfold scr; omega) (by omega) (by omega) (by omega) (by omega)) (E 95 k (by unfold scr; omega) (by omega) (by omega) (by omega) (by omega)) (fun j _ _ => E94 j) H
  refine ⟨WS_cg ek el es (fun c j _ _ _ _ q => er c j q) hw, ⟨⟨e12, ?_, ?_, ?_⟩, ?_, ?_, ?_, ?_, ?_⟩, ⟨n, t1, ?_, ?_, fun i hi => ?_⟩, ⟨S, v, HC_cg (fun c j c1 c2 => E c j (by unfold scr; omega) (by omega) (by omega) (by omega) (by omega)) hc, by rw [E93]; exact hm, ?_, ?_⟩, img 0 27 (by decide) (by decide) i0, img 1 38 (by decide) (by decide) i1, hs, ⟨?_, hr⟩, ?_, ?_, ?_, ?_, ?_, ?_⟩
  · rw [e 0 13 (by unfold scr; omega) (by omega) (by omega) (by omega) (by omega), e 91 52 (by unfold scr; omega) (by omega) (by omega) (by omega) (by omega)]; exact a2
  · rw [e 0 14 (by unfold scr; omega) (by omega) (by omega) (by omega) (by omega), e 91 11 (by unfold scr; omega) (by omega) (by omega) (by omega) (by omega)]; exact a3
  · rw [e 56 4 (by unfold scr; omega) (by omega) (by omega) (by omega) (by omega), e 91 18 (by unfold scr; omega) (by omega) (by omega) (by omega) (by omega)]; exact a4
  · rw [E 90 0 (by unfold scr; omega) (by omega) (by omega) (by omega) (by omega), E 92 1 (by unfold scr; omega) (by omega) (by omega) (by omega) (by omega)]; exact a5
  · rw [E 90 1 (by unfold scr; omega) (by omega) (by omega) (by omega) (by omega), E 92 2 (by unfold scr; omega) (by omega) (by omega) (by omega) (by omega)]; exact a6
  · rw [E 90 2 (by unfold scr; omega) (by omega) (by omega) (by omega) (by omega), E 92 3 (by unfold scr; omega) (by omega) (by omega) (by omega) (by omega)]; exact a7
  · rw [E 90 3 (by unfold scr; omega) (by omega) (by omega) (by omega) (by omega), E 92 5 (by unfold scr; omega) (by omega) (by omega) (by omega) (by omega)]; exact a8
  · rw [E 90 4 (by unfold scr; omega) (by omega) (by omega) (by omega) (by omega), E 92 6 (by unfold scr; omega) (by omega) (by omega) (by omega) (by omega)]; exact a9
  · rw [E 54 1 (by unfold scr; omega) (by omega) (by omega) (by omega) (by omega)]; exact t2
  · rw [e 91 13 (by unfold scr; omega) (by omega) (by omega) (by omega) (by omega)]; exact t3
  · rw [E 55 i (by unfold scr; omega) (by omega) (by omega) (by omega) (by omega), E 100 i (by unfold scr; omega) (by omega) (by omega) (by omega) (by omega)]; exact t4 i hi
  · rw [E93]
    exact HLw_cg FR v.1.2.2.2.1 tx (by rw [es]; exact Nat.le_refl _) (fun w => er _ w (by omega)) (fun j _ _ => rfl) hl
  · obtain ⟨n, te, w1, w2, w3⟩ := trail_of tr
    refine trail_to w1 ⟨by rw [E 50 1 (by unfold scr; omega) (by omega) (by omega) (by omega) (by omega)]; exact w2.1, ?_⟩ ⟨by rw [e 91 8 (by unfold scr; omega) (by omega) (by omega) (by omega) (by omega)]; exact w3.1, fun k hk => ?_⟩
    · rw [show mm_gi g 51 = mm_gi h 51 from funext fun j => E 51 j (by unfold scr; omega) (by omega) (by omega) (by omega) (by omega)]
      exact w2.2
    · have := w1.1
      exact MTe_mv (HV_x v) (E 97 k (by unfold scr; omega) (by omega) (by omega) (by omega) (by omega)) (fun i hi => E 96 _ (by unfold scr; omega) (by omega) (by omega) (by omega) (by omega)) (w3.2 k hk)
  · exact Lref_cg ek es (fun j => er _ j (by omega)) lr1
  · rw [eg 106 (by omega)]; exact c1
  · rw [eg 107 (by omega)]; exact c2
  · rw [eg 108 (by omega)]; exact c3
  · rw [eg 118 (by omega)]; exact c4
  · rw [eg 119 (by omega)]; exact c5
  · rw [e 91 20 (by unfold scr; omega) (by omega) (by omega) (by omega) (by omega)]; exact c6
end
theorem op_33 : OP_33 (Inv LRw) := by
  intro x1 x2 h hI
  obtain ⟨S, A, Q⟩ := QI_of hI
  obtain ⟨hw, v, hc, hA, hm, hMA, h20⟩ := id Q
  have hr : Lref h 4 := by
    obtain ⟨-, -, -, ⟨S', -, -, -, hl, -⟩, -⟩ := hI
    exact hl.2
  refine sp_schools (d := 994) hw v hc hA hr (fun z => ?_) (fun y z => ?_) (fun s N s1 N1 N2 e1 e2 hL hC g g2 G Hg F2 hc2 v2 c2 => ?_)
  · have Qr : QI (rfH h (-1) 0) S A := by
      have F : fx (fun c j => (c = 0 ∧ j = 12) ∨ c = 90) y0 h (rfH h (-1) 0) := fx_pi (Or.inr rfl) (fx_pi (Or.inl ⟨rfl, rfl⟩) fx_rf)
      have e : mm_gi (rfH h (-1) 0) 93 = mm_gi h 93 := funext fun j => F.2.1 93 j (by omega)
      exact ⟨fx_WS F hw, v, HC_cg (fun c j c1 c2 => F.2.1 c j (by omega)) hc, CAL_x F (fun c j hc => by omega) rfl rfl hA, by rw [e]; exact hm, by rw [e]; exact hMA, by rw [F.2.1 91 20 (by omega)]; exact h20⟩
    exact no_pr (h := h) Qr.1 (ms_schools (d := 991) Qr (fun _ => ⟨rfl, Inv_rf FRw (by simp) hI⟩) (fun y _ => absurd y z) (fun s N s1 N1 N2 e1 e2 _ _ g G => absurd ⟨by rw [e1, nI_toInt (by omega)]; omega, by rw [e1, nI_toInt (by omega)]; omega, by rw [e2, nI_toInt (by omega)]; omega, by rw [e2, nI_toInt (by omega)]; omega⟩ z))
  · have Qr : QI (rfH h (-3) 2) S A := by
      have F : fx (fun c j => (c = 0 ∧ j = 12) ∨ c = 90) y0 h (rfH h (-3) 2) := fx_pi (Or.inr rfl) (fx_pi (Or.inl ⟨rfl, rfl⟩) fx_rf)
      have e : mm_gi (rfH h (-3) 2) 93 = mm_gi h 93 := funext fun j => F.2.1 93 j (by omega)
      exact ⟨fx_WS F hw, v, HC_cg (fun c j c1 c2 => F.2.1 c j (by omega)) hc, CAL_x F (fun c j hc => by omega) rfl rfl hA, by rw [e]; exact hm, by rw [e]; exact hMA, by rw [F.2.1 91 20 (by omega)]; exact h20⟩
    exact no_pr (h := h) Qr.1 (ms_schools (d := 991) Qr (fun w => absurd y w) (fun _ _ => ⟨rfl, Inv_rf FRw (by simp) hI⟩) (fun s N s1 N1 N2 e1 e2 hL hC g G => absurd ⟨hL, hC⟩ z))
  · have H2 : WS g2 := fx_WS F2 (WS_pl Hg)
    have e1g : ∀ c j, c < 79 ∨ 88 < c → c ≠ 2 → c ≠ 3 → ¬ (c = 0 ∧ j = 12) → mm_gi (acH g2) c j = mm_gi h c j := fun c j a1 a2 a3 a4 => by
      rw [acH, mm_gi_pi, if_neg a4, F2.2.1 c j (by unfold xhs; omega), mm_gi_pl, G.2.1 c j (by omega)]
    have er : ∀ c j, c ≠ 89 → mm_gr (acH g2) c j = mm_gr h c j := fun c j a => by
      show mm_gr g2 c j = _
      rw [F2.1.2.2.1]
      exact G.2.2.2.2.1 c j a
    have ekd : mm_kd (acH g2) = mm_kd h := F2.1.1.trans G.1.1
    have eln : mm_ln (acH g2) = mm_ln h := F2.1.2.1.trans G.1.2.1
    have esz : mm_sz (acH g2) = mm_sz h := F2.1.2.2.2.trans G.1.2.2.2
    have e93 : mm_gi (acH g2) 93 = mm_gi h 93 := funext fun j => e1g 93 j (by omega) (by omega) (by omega) (by omega)
    have Qg : QI (acH g2) S A := by
      refine ⟨H2, v, HC_cg (fun c j c1 c2 => e1g c j (by omega) (by omega) (by omega) (by omega)) hc, ⟨fun j hj => by rw [er _ _ (by omega)]; exact hA.1 j hj, ?_⟩, by rw [e93]; exact hm, by rw [e93]; exact hMA, by rw [e1g 91 20 (by omega) (by omega) (by omega) (by omega)]; exact h20⟩
      rcases hA.2 with z | ⟨t, L, z1, z2, z3, z4, z5, z6⟩
      · exact Or.inl z
      · exact Or.inr ⟨t, L, z1, by rw [er _ _ (by omega)]; exact z2, z3, CLW_cg (fun c c1 c2 c3 => ⟨by rw [ekd], by rw [eln], fun j => e1g c j (by omega) (by omega) (by omega) (by omega), fun j => er c j (by omega)⟩) (Nat.le_of_eq esz.symm) z4, z5, z6⟩
    have hin : 0 ≤ x1.toInt ∧ x1.toInt ≤ 1000000 ∧ 1 ≤ x2.toInt ∧ x2.toInt ≤ 60 := ⟨by rw [e1, nI_toInt (by omega)]; omega, by rw [e1, nI_toInt (by omega)]; omega, by rw [e2, nI_toInt (by omega)]; omega, by rw [e2, nI_toInt (by omega)]; omega⟩
    refine no_pr (h := h) H2 (ms_schools (d := 991) Qg (fun z => absurd hin z) (fun _ z => absurd ⟨hL, hC⟩ z) (fun s' N' s1' N1' N2' e1' e2' _ _ k X => ?_))
    obtain rfl : s' = s := (nI_eq (by omega) (by omega)).mp (e1'.symm.trans e1)
    obtain rfl : N' = N := (nI_eq (by omega) (by omega)).mp (e2'.symm.trans e2)
    refine ⟨rfl, ?_⟩
    obtain ⟨⟨x1', x2', x3', x4'⟩, x5, x6, x7, x8⟩ := X
    have ke : ∀ c j, ¬ (xpp c j ∨ c = 121 ∨ (c = 91 ∧ (j = 0 ∨ j = 56 ∨ j = 1))) → mm_gi (mm_pi k 91 1 0) c j = mm_gi (acH g2) c j := fun c j z => by rw [mm_gi_pi, if_neg (by omega), x5 c j (fun w => z (by rcases w with w | w | ⟨w1, w2⟩; exact Or.inl w; exact Or.inr (Or.inl w); exact Or.inr (Or.inr ⟨w1, by omega⟩)))]
    have k79 : ∀ c j, 79 ≤ c → c ≤ 88 → mm_gi (mm_pi k 91 1 0) c j = mm_gi g2 c j := fun c j a1 a2 => by rw [ke c j (by unfold xpp; omega), acH, mm_gi_pi, if_neg (by omega)]
    refine Inv_sch FRw hI (x1'.trans ekd) (x2'.trans eln) (x4'.trans esz) (fun c j hc => by show mm_gr k c j = _; rw [x3']; exact er c j hc) ?_ (fun c j q1 q2 q3 q4 q5 => ?_) (fun c hc => ?_) ?_ ?_
    · intro w hw' t ht
      have ht : mm_gr k 89 w = some t := ht
      rw [x3'] at ht
      have ht : mm_gr g2 89 w = some t := ht
      rw [F2.1.2.2.1] at ht
      have ht : mm_gr g (79 + 10) w = some t := ht
      rw [G.2.2.2.2.2 w hw'] at ht
      obtain ⟨r1, r2, r3⟩ := hr w hw' t ht
      refine ⟨r1, ?_, ?_⟩
      · show mm_kd k t = 6
        rw [x1', ekd]; exact r2
      · show t < mm_sz k
        rw [x4', esz]; exact r3
    · rw [ke c j (by unfold xpp scr at *; omega), e1g c j (by unfold scr at q1; omega) (by unfold scr at q1; omega) (by unfold scr at q1; omega) q5]
    · show mm_gl k c = mm_gl h c
      rw [x6 c (by unfold yL; omega)]
      show mm_gl g2 c = mm_gl h c
      rw [F2.2.2.1 c (by unfold y78; omega), ← G.1.2.2.1]
      funext j
      rw [mm_gl_pl, if_neg (by omega)]
    · refine ⟨S 0 1, v.1.2.1, ?_, Or.inl ?_, fun i hi => ?_⟩
      · rw [k79 79 6 (by omega) (by omega), ← c2]; exact hc2.1.2.1
      · rw [mm_gi_pi, if_neg (by omega)]; exact x7
      · obtain ⟨b1, b2, -⟩ := hc2.2.1 i (by rw [c2]; exact hi)
        obtain ⟨d1, d2⟩ := x8 i hi
        rw [k79 83 i (by omega) (by omega), k79 85 i (by omega) (by omega), mm_gi_pi, if_neg (by omega), mm_gi_pi, if_neg (by omega), d1, d2]
        exact ⟨b1, b2⟩
    · rw [ke 0 12 (by unfold xpp; omega), acH, mm_gi_pi, if_pos ⟨rfl, rfl⟩, mm_gi_pi, if_pos ⟨rfl, rfl⟩]
