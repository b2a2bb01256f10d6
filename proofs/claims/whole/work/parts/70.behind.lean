/-! what is known behind the letters: layBehind of the model, and sets of letters -/
theorem tkS_up1 {S : HSt} {A : Option lwD} {c l v k : Nat} : ∀ t, tkS (upS S 1 c k) A c l v t = tkS S A c l v t
  | 0 => rfl
  | t + 1 => by
    have ih := tkS_up1 (S := S) (A := A) (c := c) (l := l) (v := v) (k := k) t
    have hP : ((upS S 1 c k 4 l / 2 ^ t % 2 = 1 ∧ ¬ tkS (upS S 1 c k) A c l v t / 2 ^ t % 2 = 1) ∧ pop (tkS (upS S 1 c k) A c l v t) < upS S 1 c k 3 c ∧ ¬ aH A 1 (lE (upS S 1 c k) c (some l) (t : Int) (tkS (upS S 1 c k) A c l v t) (upS S 1 c k 9 0))) ↔ ((S 4 l / 2 ^ t % 2 = 1 ∧ ¬ tkS S A c l v t / 2 ^ t % 2 = 1) ∧ pop (tkS S A c l v t) < S 3 c ∧ ¬ aH A 1 (lE S c (some l) (t : Int) (tkS S A c l v t) (S 9 0))) := by
      rw [ih, lE_up1]
      exact Iff.rfl
    rw [tkS, tkS]
    by_cases z : (S 4 l / 2 ^ t % 2 = 1 ∧ ¬ tkS S A c l v t / 2 ^ t % 2 = 1) ∧ pop (tkS S A c l v t) < S 3 c ∧ ¬ aH A 1 (lE S c (some l) (t : Int) (tkS S A c l v t) (S 9 0))
    · rw [if_pos (hP.mpr z), if_pos z, ih]
    · rw [if_neg (fun y => z (hP.mp y)), if_neg z, ih]
theorem l_256 : (256 : Int32) = nI 256 := rfl
def xlb (c0 c j : Nat) : Prop := xH c0 c j ∨ c = 112
section
variable {d : Nat} {h : mmH} {S : HSt} {K : Option Value → mmH → Prop} {A : Option lwD} {c : Nat}
theorem lb_25 {x2 : Int32} {l : Nat} (H : WS h) (h20 : mm_gi h 91 20 = 0) (v : HVx S) (hm : HM (mm_gi h 93) 0 S) (hA : MAL (mm_gi h 93) S A) (hcc : c < S 0 1) (hl : l < S 0 0)
    (k : ∀ g, fx (xlb c) yL h g → (∀ i u, i < l + 1 → u < 256 → mm_gi g 112 (256 * i + u) = nI (tkS S A c i u 8)) → mm_V q_X10_layBehind (d + 7) (0, 0) K 12 [some (.ref 91), some (.int (nI c)), some (.int x2), some (.int (nI (l + 1))), some (.int (nI 256))] [] g) :
    ∀ n u g, u + n = 256 → fx (xlb c) yL h g → (∀ i w, i < l → w < 256 → mm_gi g 112 (256 * i + w) = nI (tkS S A c i w 8)) → (∀ w, w < u → mm_gi g 112 (256 * l + w) = nI (tkS S A c l w 8)) → mm_V q_X10_layBehind (d + 7) (0, 0) K 25 [some (.ref 91), some (.int (nI c)), some (.int x2), some (.int (nI l)), some (.int (nI u))] [] g := by
  have c6 : c < 6 := by have := v.1.2.1; omega
  have l8 : l < 8 := by have := v.1.1; omega
  have v8 := vp_in_nI (show 8 + c < 5475 by omega) (show 5475 < 2 ^ 31 by decide)
  have c8 := nI_clamp (show 8 + c < 2 ^ 31 by omega)
  have f8 : (8 : Int32) + nI c = nI (8 + c) := nI_add 8 c
  intro n
  induction n with
  | zero =>
    intro u g hu F h1 h2
    obtain rfl : u = 256 := by omega
    refine t_X10_layBehind_25 _ _ _ ?_
    simp only [s_iadd, s_isub, s_imul, s_iand, s_ior, s_ixor, s_ishl, s_ishr, s_iushr, s_idiv, s_irem, s_ladd, s_lsub, s_lmul, s_ldiv, s_lrem, s_ineg, s_i2l, s_l2i, s_i2c, s_lcmp, s_ic, s_lc, s_nul, s_str, s_il, s_ll, s_al, s_dup, s_dup2, s_pop, s_ifne, s_icne, s_ifeq, s_iflt, s_ifge, s_ifgt, s_ifle, s_iceq, s_iclt, s_icge, s_icgt, s_icle, s_ifnull, s_ifnonnull, s_is, s_ls, s_as, s_ii, s_gi, s_gl, s_gr, s_pi, s_pz, s_pl, s_pr, s_iald, s_zald, s_lald, s_aald, s_alen, s_iast, s_zast, s_last, s_iret, s_zret, s_lret, s_aret, s_vret, s_sw, s_aast, mm_sw, mm_ld, mm_s1, mm_s2, mm_kl, Value.category, va_rf, List.nil_append, List.cons_append, Option.toList, true_and, and_true, and_self, true_or, or_true, eq_self, not_true_eq_false, false_implies, true_implies, not_false_eq_true, mm_10, mm_01, false_or, or_false, Nat.left_eq_add, Nat.add_eq_left, Nat.add_left_cancel_iff, Nat.reduceEqDiff, false_and, and_false, reduceIte, mm_kd_pi, mm_ln_pi, mm_gl_pi, mm_gr_pi, mm_sz_pi, mm_gi_pi, mm_kd_pl, mm_ln_pl, mm_gi_pl, mm_gr_pl, mm_sz_pl, mm_gl_pl, mm_kd_pr, mm_ln_pr, mm_gi_pr, mm_gl_pr, mm_sz_pr, mm_gr_pr, mm_kd_pa, mm_ln_pa, mm_gl_pa, mm_gr_pa, mm_sz_pa, mm_gi_pa, show ((256 : Int32) ≤ nI 256) = True by decide, nI_1]
    refine k g F (fun i w hi hw => ?_)
    by_cases z : i = l
    · subst z; exact h2 w hw
    · exact h1 i w (by omega) hw
  | succ n ih =>
    intro u g hu F h1 h2
    have Hg := fx_WS F H
    have hu' : u < 256 := by omega
    refine t_X10_layBehind_25 _ _ _ ?_
    simp only [s_iadd, s_isub, s_imul, s_iand, s_ior, s_ixor, s_ishl, s_ishr, s_iushr, s_idiv, s_irem, s_ladd, s_lsub, s_lmul, s_ldiv, s_lrem, s_ineg, s_i2l, s_l2i, s_i2c, s_lcmp, s_ic, s_lc, s_nul, s_str, s_il, s_ll, s_al, s_dup, s_dup2, s_pop, s_ifne, s_icne, s_ifeq, s_iflt, s_ifge, s_ifgt, s_ifle, s_iceq, s_iclt, s_icge, s_icgt, s_icle, s_ifnull, s_ifnonnull, s_is, s_ls, s_as, s_ii, s_gi, s_gl, s_gr, s_pi, s_pz, s_pl, s_pr, s_iald, s_zald, s_lald, s_aald, s_alen, s_iast, s_zast, s_last, s_iret, s_zret, s_lret, s_aret, s_vret, s_sw, s_aast, mm_sw, mm_ld, mm_s1, mm_s2, mm_kl, Value.category, va_rf, List.nil_append, List.cons_append, Option.toList, true_and, and_true, and_self, true_or, or_true, eq_self, not_true_eq_false, false_implies, true_implies, not_false_eq_true, mm_10, mm_01, false_or, or_false, Nat.left_eq_add, Nat.add_eq_left, Nat.add_left_cancel_iff, Nat.reduceEqDiff, false_and, and_false, reduceIte, mm_kd_pi, mm_ln_pi, mm_gl_pi, mm_gr_pi, mm_sz_pi, mm_gi_pi, mm_kd_pl, mm_ln_pl, mm_gi_pl, mm_gr_pl, mm_sz_pl, mm_gl_pl, mm_kd_pr, mm_ln_pr, mm_gi_pr, mm_gl_pr, mm_sz_pr, mm_gr_pr, mm_kd_pa, mm_ln_pa, mm_gl_pa, mm_gr_pa, mm_sz_pa, mm_gi_pa, W_kd_91 Hg, W_s_91 Hg, W_gr_91_2 Hg, W_gr_91_3 Hg, W_gr_91_4 Hg, W_gr_91_5 Hg, W_gr_91_6 Hg, W_gr_91_7 Hg, W_gr_91_9 Hg, W_gr_91_10 Hg, W_gr_91_12 Hg, W_gr_91_22 Hg, W_gr_91_24 Hg, W_gr_91_25 Hg, W_gr_91_27 Hg, W_gr_91_28 Hg, W_gr_91_31 Hg, W_gr_91_32 Hg, W_gr_91_33 Hg, W_gr_91_35 Hg, W_gr_91_36 Hg, W_gr_91_37 Hg, W_gr_91_41 Hg, W_gr_91_42 Hg, W_gr_91_43 Hg, W_gr_91_44 Hg, W_gr_91_45 Hg, W_gr_91_46 Hg, W_gr_91_47 Hg, W_gr_91_48 Hg, W_gr_91_49 Hg, W_gr_91_55 Hg, W_kd_93 Hg, W_s_93 Hg, W_ln_93 Hg, eq_false (show ¬ (256 : Int32) ≤ nI u from nI_ge (b := 256) hu' (by decide)), f8, v8, c8]
    have F1 : fx (xlb c) yL h (mm_pi g 93 (8 + c) (nI u)) := fx_pi (Or.inl (Or.inr ⟨rfl, rfl⟩)) F
    have H1 := fx_WS F1 H
    have hm1 : HM (mm_gi (mm_pi g 93 (8 + c) (nI u)) 93) 0 (upS S 1 c u) := HM_up1 hcc v.1.2.1 hm (fun j hj => F1.2.1 93 j (by unfold xlb xH xL; omega) |>.trans rfl) (by rw [mm_gi_pi, if_pos ⟨rfl, rfl⟩])
    have hA1 : MAL (mm_gi (mm_pi g 93 (8 + c) (nI u)) 93) (upS S 1 c u) A := MAL_cg (fun j hj => F1.2.1 93 j (by unfold xlb xH xL; omega)) rfl hA
    refine c_X10_layBehind_47 (bb := (0, 0)) (b := (0, 0)) (Nat.le_of_ble_eq_true rfl) ⟨rfl, rfl⟩ (W_kd_91 H1) (W_s_91 H1) (sp_hear (S := upS S 1 c u) H1 (by rw [F1.2.1 91 20 (by unfold xlb xH xL; omega)]; exact h20) (HVx_up1 hu' v) hm1 hA1 hcc hl (fun g' F' et => ?_))
    have H2 := fx_WS F' H1
    have F2 : fx (xlb c) yL h g' := fx_tr F1 (fx_mo (fun c j z => Or.inl z) (fun c z => z) F')
    have ku : upS S 1 c u 1 c = u := by simp [upS]
    rw [ku, tkS_up1] at et
    refine t_X10_layBehind_50 _ _ _ ?_
    simp only [s_iadd, s_isub, s_imul, s_iand, s_ior, s_ixor, s_ishl, s_ishr, s_iushr, s_idiv, s_irem, s_ladd, s_lsub, s_lmul, s_ldiv, s_lrem, s_ineg, s_i2l, s_l2i, s_i2c, s_lcmp, s_ic, s_lc, s_nul, s_str, s_il, s_ll, s_al, s_dup, s_dup2, s_pop, s_ifne, s_icne, s_ifeq, s_iflt, s_ifge, s_ifgt, s_ifle, s_iceq, s_iclt, s_icge, s_icgt, s_icle, s_ifnull, s_ifnonnull, s_is, s_ls, s_as, s_ii, s_gi, s_gl, s_gr, s_pi, s_pz, s_pl, s_pr, s_iald, s_zald, s_lald, s_aald, s_alen, s_iast, s_zast, s_last, s_iret, s_zret, s_lret, s_aret, s_vret, s_sw, s_aast, mm_sw, mm_ld, mm_s1, mm_s2, mm_kl, Value.category, va_rf, List.nil_append, List.cons_append, Option.toList, true_and, and_true, and_self, true_or, or_true, eq_self, not_true_eq_false, false_implies, true_implies, not_false_eq_true, mm_10, mm_01, false_or, or_false, Nat.left_eq_add, Nat.add_eq_left, Nat.add_left_cancel_iff, Nat.reduceEqDiff, false_and, and_false, reduceIte, mm_kd_pi, mm_ln_pi, mm_gl_pi, mm_gr_pi, mm_sz_pi, mm_gi_pi, mm_kd_pl, mm_ln_pl, mm_gi_pl, mm_gr_pl, mm_sz_pl, mm_gl_pl, mm_kd_pr, mm_ln_pr, mm_gi_pr, mm_gl_pr, mm_sz_pr, mm_gr_pr, mm_kd_pa, mm_ln_pa, mm_gl_pa, mm_gr_pa, mm_sz_pa, mm_gi_pa, W_kd_91 H2, W_s_91 H2, W_gr_91_2 H2, W_gr_91_3 H2, W_gr_91_4 H2, W_gr_91_5 H2, W_gr_91_6 H2, W_gr_91_7 H2, W_gr_91_9 H2, W_gr_91_10 H2, W_gr_91_12 H2, W_gr_91_22 H2, W_gr_91_24 H2, W_gr_91_25 H2, W_gr_91_27 H2, W_gr_91_28 H2, W_gr_91_31 H2, W_gr_91_32 H2, W_gr_91_33 H2, W_gr_91_35 H2, W_gr_91_36 H2, W_gr_91_37 H2, W_gr_91_41 H2, W_gr_91_42 H2, W_gr_91_43 H2, W_gr_91_44 H2, W_gr_91_45 H2, W_gr_91_46 H2, W_gr_91_47 H2, W_gr_91_48 H2, W_gr_91_49 H2, W_gr_91_55 H2, W_kd_93 H2, W_s_93 H2, W_ln_93 H2, W_kd_112 H2, W_s_112 H2, W_ln_112 H2, l_256, pk_mul, nI_add, f8, v8, c8, et, nI_clamp (show 256 * l + u < 2 ^ 31 by omega), vp_in_nI (show 256 * l + u < 2048 by omega) (show 2048 < 2 ^ 31 by decide), nI_1]
    refine ih (u + 1) _ (by omega) (fx_pi (Or.inr rfl) F2) (fun i w hi hw => ?_) (fun w hw => ?_)
    · rw [mm_gi_pi, if_neg (by omega), F'.2.1 112 _ (by unfold xH xL; omega), mm_gi_pi, if_neg (by omega)]; exact h1 i w hi hw
    · by_cases z : w = u
      · subst z; rw [mm_gi_pi, if_pos ⟨rfl, rfl⟩]
      · rw [mm_gi_pi, if_neg (by omega), F'.2.1 112 _ (by unfold xH xL; omega), mm_gi_pi, if_neg (by omega)]; exact h2 w (by omega)
theorem lb_12 {v4 : Option Value} (H : WS h) (h20 : mm_gi h 91 20 = 0) (v : HVx S) (hm : HM (mm_gi h 93) 0 S) (hA : MAL (mm_gi h 93) S A) (hcc : c < S 0 1)
    (k : ∀ g, fx (xlb c) yL h g → (∀ i u, i < S 0 0 → u < 256 → mm_gi g 112 (256 * i + u) = nI (tkS S A c i u 8)) → K none (mm_pi g 93 (8 + c) (nI (S 1 c)))) :
    ∀ n l g v4, l + n = S 0 0 → fx (xlb c) yL h g → (∀ i w, i < l → w < 256 → mm_gi g 112 (256 * i + w) = nI (tkS S A c i w 8)) → mm_V q_X10_layBehind (d + 7) (0, 0) K 12 [some (.ref 91), some (.int (nI c)), some (.int (nI (S 1 c))), some (.int (nI l)), v4] [] g := by
  have c6 : c < 6 := by have := v.1.2.1; omega
  have v1 := v.1.1
  have v8 := vp_in_nI (show 8 + c < 5475 by omega) (show 5475 < 2 ^ 31 by decide)
  have c8 := nI_clamp (show 8 + c < 2 ^ 31 by omega)
  have f8 : (8 : Int32) + nI c = nI (8 + c) := nI_add 8 c
  intro n
  induction n with
  | zero =>
    intro l g v4 hl F h1
    obtain rfl : l = S 0 0 := by omega
    have Hg := fx_WS F H
    have e0 : mm_gi g 93 0 = nI (S 0 0) := by rw [F.2.1 93 0 (by unfold xlb xH xL; omega)]; exact hm.1.1
    refine t_X10_layBehind_12 _ _ _ ?_
    simp only [s_iadd, s_isub, s_imul, s_iand, s_ior, s_ixor, s_ishl, s_ishr, s_iushr, s_idiv, s_irem, s_ladd, s_lsub, s_lmul, s_ldiv, s_lrem, s_ineg, s_i2l, s_l2i, s_i2c, s_lcmp, s_ic, s_lc, s_nul, s_str, s_il, s_ll, s_al, s_dup, s_dup2, s_pop, s_ifne, s_icne, s_ifeq, s_iflt, s_ifge, s_ifgt, s_ifle, s_iceq, s_iclt, s_icge, s_icgt, s_icle, s_ifnull, s_ifnonnull, s_is, s_ls, s_as, s_ii, s_gi, s_gl, s_gr, s_pi, s_pz, s_pl, s_pr, s_iald, s_zald, s_lald, s_aald, s_alen, s_iast, s_zast, s_last, s_iret, s_zret, s_lret, s_aret, s_vret, s_sw, s_aast, mm_sw, mm_ld, mm_s1, mm_s2, mm_kl, Value.category, va_rf, List.nil_append, List.cons_append, Option.toList, true_and, and_true, and_self, true_or, or_true, eq_self, not_true_eq_false, false_implies, true_implies, not_false_eq_true, mm_10, mm_01, false_or, or_false, Nat.left_eq_add, Nat.add_eq_left, Nat.add_left_cancel_iff, Nat.reduceEqDiff, false_and, and_false, reduceIte, mm_kd_pi, mm_ln_pi, mm_gl_pi, mm_gr_pi, mm_sz_pi, mm_gi_pi, mm_kd_pl, mm_ln_pl, mm_gi_pl, mm_gr_pl, mm_sz_pl, mm_gl_pl, mm_kd_pr, mm_ln_pr, mm_gi_pr, mm_gl_pr, mm_sz_pr, mm_gr_pr, mm_kd_pa, mm_ln_pa, mm_gl_pa, mm_gr_pa, mm_sz_pa, mm_gi_pa, W_kd_91 Hg, W_s_91 Hg, W_gr_91_2 Hg, W_gr_91_3 Hg, W_gr_91_4 Hg, W_gr_91_5 Hg, W_gr_91_6 Hg, W_gr_91_7 Hg, W_gr_91_9 Hg, W_gr_91_10 Hg, W_gr_91_12 Hg, W_gr_91_22 Hg, W_gr_91_24 Hg, W_gr_91_25 Hg, W_gr_91_27 Hg, W_gr_91_28 Hg, W_gr_91_31 Hg, W_gr_91_32 Hg, W_gr_91_33 Hg, W_gr_91_35 Hg, W_gr_91_36 Hg, W_gr_91_37 Hg, W_gr_91_41 Hg, W_gr_91_42 Hg, W_gr_91_43 Hg, W_gr_91_44 Hg, W_gr_91_45 Hg, W_gr_91_46 Hg, W_gr_91_47 Hg, W_gr_91_48 Hg, W_gr_91_49 Hg, W_gr_91_55 Hg, W_kd_93 Hg, W_s_93 Hg, W_ln_93 Hg, show (0 : Int32).toNatClampNeg = 0 from rfl, show vp_in (0 : Int32) 5475 from vp_in_nI (n := 0) (by decide) (by decide), e0, eq_true (nI_le (Nat.le_refl (S 0 0)) (show S 0 0 < 2 ^ 31 by omega)), f8, v8, c8]
    exact k g F h1
  | succ n ih =>
    intro l g v4 hl F h1
    have Hg := fx_WS F H
    have e0 : mm_gi g 93 0 = nI (S 0 0) := by rw [F.2.1 93 0 (by unfold xlb xH xL; omega)]; exact hm.1.1
    refine t_X10_layBehind_12 _ _ _ ?_
    simp only [s_iadd, s_isub, s_imul, s_iand, s_ior, s_ixor, s_ishl, s_ishr, s_iushr, s_idiv, s_irem, s_ladd, s_lsub, s_lmul, s_ldiv, s_lrem, s_ineg, s_i2l, s_l2i, s_i2c, s_lcmp, s_ic, s_lc, s_nul, s_str, s_il, s_ll, s_al, s_dup, s_dup2, s_pop, s_ifne, s_icne, s_ifeq, s_iflt, s_ifge, s_ifgt, s_ifle, s_iceq, s_iclt, s_icge, s_icgt, s_icle, s_ifnull, s_ifnonnull, s_is, s_ls, s_as, s_ii, s_gi, s_gl, s_gr, s_pi, s_pz, s_pl, s_pr, s_iald, s_zald, s_lald, s_aald, s_alen, s_iast, s_zast, s_last, s_iret, s_zret, s_lret, s_aret, s_vret, s_sw, s_aast, mm_sw, mm_ld, mm_s1, mm_s2, mm_kl, Value.category, va_rf, List.nil_append, List.cons_append, Option.toList, true_and, and_true, and_self, true_or, or_true, eq_self, not_true_eq_false, false_implies, true_implies, not_false_eq_true, mm_10, mm_01, false_or, or_false, Nat.left_eq_add, Nat.add_eq_left, Nat.add_left_cancel_iff, Nat.reduceEqDiff, false_and, and_false, reduceIte, mm_kd_pi, mm_ln_pi, mm_gl_pi, mm_gr_pi, mm_sz_pi, mm_gi_pi, mm_kd_pl, mm_ln_pl, mm_gi_pl, mm_gr_pl, mm_sz_pl, mm_gl_pl, mm_kd_pr, mm_ln_pr, mm_gi_pr, mm_gl_pr, mm_sz_pr, mm_gr_pr, mm_kd_pa, mm_ln_pa, mm_gl_pa, mm_gr_pa, mm_sz_pa, mm_gi_pa, W_kd_91 Hg, W_s_91 Hg, W_gr_91_2 Hg, W_gr_91_3 Hg, W_gr_91_4 Hg, W_gr_91_5 Hg, W_gr_91_6 Hg, W_gr_91_7 Hg, W_gr_91_9 Hg, W_gr_91_10 Hg, W_gr_91_12 Hg, W_gr_91_22 Hg, W_gr_91_24 Hg, W_gr_91_25 Hg, W_gr_91_27 Hg, W_gr_91_28 Hg, W_gr_91_31 Hg, W_gr_91_32 Hg, W_gr_91_33 Hg, W_gr_91_35 Hg, W_gr_91_36 Hg, W_gr_91_37 Hg, W_gr_91_41 Hg, W_gr_91_42 Hg, W_gr_91_43 Hg, W_gr_91_44 Hg, W_gr_91_45 Hg, W_gr_91_46 Hg, W_gr_91_47 Hg, W_gr_91_48 Hg, W_gr_91_49 Hg, W_gr_91_55 Hg, W_kd_93 Hg, W_s_93 Hg, W_ln_93 Hg, show (0 : Int32).toNatClampNeg = 0 from rfl, show vp_in (0 : Int32) 5475 from vp_in_nI (n := 0) (by decide) (by decide), e0, eq_false (nI_ge (show l < S 0 0 by omega) (show S 0 0 < 2 ^ 31 by omega)), f8, v8, c8]
    exact lb_25 H h20 v hm hA hcc (by omega) (fun g' F' h1' => ih (l + 1) g' _ (by omega) F' h1') 256 0 g (by omega) F h1 (fun w hw => by omega)
def x112 (c j : Nat) : Prop := xL c j ∨ c = 112
theorem sp_layBehind (H : WS h) (h20 : mm_gi h 91 20 = 0) (v : HVx S) (hm : HM (mm_gi h 93) 0 S) (hA : MAL (mm_gi h 93) S A) (hcc : c < S 0 1)
    (k : ∀ g, fx x112 yL h g → (∀ i u, i < S 0 0 → u < 256 → mm_gi g 112 (256 * i + u) = nI (tkS S A c i u 8)) → K none g) : mm_MV q_X10_layBehind (d + 7) (0, 0) [.ref 91, .int (nI c)] h K := by
  have c6 : c < 6 := by have := v.1.2.1; omega
  have v8 := vp_in_nI (show 8 + c < 5475 by omega) (show 5475 < 2 ^ 31 by decide)
  have c8 := nI_clamp (show 8 + c < 2 ^ 31 by omega)
  have f8 : (8 : Int32) + nI c = nI (8 + c) := nI_add 8 c
  refine e_X10_layBehind (t_X10_layBehind_0 _ _ _ ?_)
  simp only [s_iadd, s_isub, s_imul, s_iand, s_ior, s_ixor, s_ishl, s_ishr, s_iushr, s_idiv, s_irem, s_ladd, s_lsub, s_lmul, s_ldiv, s_lrem, s_ineg, s_i2l, s_l2i, s_i2c, s_lcmp, s_ic, s_lc, s_nul, s_str, s_il, s_ll, s_al, s_dup, s_dup2, s_pop, s_ifne, s_icne, s_ifeq, s_iflt, s_ifge, s_ifgt, s_ifle, s_iceq, s_iclt, s_icge, s_icgt, s_icle, s_ifnull, s_ifnonnull, s_is, s_ls, s_as, s_ii, s_gi, s_gl, s_gr, s_pi, s_pz, s_pl, s_pr, s_iald, s_zald, s_lald, s_aald, s_alen, s_iast, s_zast, s_last, s_iret, s_zret, s_lret, s_aret, s_vret, s_sw, s_aast, mm_sw, mm_ld, mm_s1, mm_s2, mm_kl, Value.category, va_rf, List.nil_append, List.cons_append, Option.toList, true_and, and_true, and_self, true_or, or_true, eq_self, not_true_eq_false, false_implies, true_implies, not_false_eq_true, mm_10, mm_01, false_or, or_false, Nat.left_eq_add, Nat.add_eq_left, Nat.add_left_cancel_iff, Nat.reduceEqDiff, false_and, and_false, reduceIte, mm_kd_pi, mm_ln_pi, mm_gl_pi, mm_gr_pi, mm_sz_pi, mm_gi_pi, mm_kd_pl, mm_ln_pl, mm_gi_pl, mm_gr_pl, mm_sz_pl, mm_gl_pl, mm_kd_pr, mm_ln_pr, mm_gi_pr, mm_gl_pr, mm_sz_pr, mm_gr_pr, mm_kd_pa, mm_ln_pa, mm_gl_pa, mm_gr_pa, mm_sz_pa, mm_gi_pa, W_kd_91 H, W_s_91 H, W_gr_91_2 H, W_gr_91_3 H, W_gr_91_4 H, W_gr_91_5 H, W_gr_91_6 H, W_gr_91_7 H, W_gr_91_9 H, W_gr_91_10 H, W_gr_91_12 H, W_gr_91_22 H, W_gr_91_24 H, W_gr_91_25 H, W_gr_91_27 H, W_gr_91_28 H, W_gr_91_31 H, W_gr_91_32 H, W_gr_91_33 H, W_gr_91_35 H, W_gr_91_36 H, W_gr_91_37 H, W_gr_91_41 H, W_gr_91_42 H, W_gr_91_43 H, W_gr_91_44 H, W_gr_91_45 H, W_gr_91_46 H, W_gr_91_47 H, W_gr_91_48 H, W_gr_91_49 H, W_gr_91_55 H, W_kd_93 H, W_s_93 H, W_ln_93 H, f8, v8, c8, (HM_c hm hcc).1]
  refine lb_12 (v4 := none) H h20 v hm hA hcc (fun g F h1 => k _ ⟨F.1, fun c' j z => ?_, F.2.2⟩ (fun i u hi hu => by rw [mm_gi_pi, if_neg (by omega)]; exact h1 i u hi hu)) (S 0 0) 0 h none (by omega) fx_rf (fun i w hi => by omega)
  rw [mm_gi_pi]
  by_cases y : c' = 93 ∧ j = 8 + c
  · rw [if_pos y, y.1, y.2]; exact (HM_c hm hcc).1.symm
  · rw [if_neg y, F.2.1 c' j (by unfold x112 xL at z; unfold xlb xH xL; omega)]
end
/-! sets of letters -/
noncomputable def kbF (S : HSt) (A : Option lwD) (c s : Nat) : Nat → Nat
  | 0 => 0
  | l + 1 => if s / 2 ^ l % 2 = 1 then tkS S A c l (kbF S A c s l) 8 else kbF S A c s l
theorem kbF_lt {S : HSt} {A : Option lwD} {c s : Nat} : ∀ l, kbF S A c s l < 256
  | 0 => show (0 : Nat) < 256 by decide
  | l + 1 => by
    rw [kbF]
    split
    · exact tkS_lt (kbF_lt l) 8 (by decide)
    · exact kbF_lt l
theorem kbF_cg {S : HSt} {A : Option lwD} {c s s' : Nat} : ∀ l, (∀ j, j < l → s' / 2 ^ j % 2 = s / 2 ^ j % 2) → kbF S A c s' l = kbF S A c s l
  | 0, _ => rfl
  | l + 1, e => by rw [kbF, kbF, kbF_cg l (fun j hj => e j (by omega)), e l (by omega)]
theorem kbF_up {S : HSt} {A : Option lwD} {c s m : Nat} (hs : s < 2 ^ m) : ∀ k, kbF S A c s (m + k) = kbF S A c s m
  | 0 => rfl
  | k + 1 => by
    rw [show m + (k + 1) = (m + k) + 1 by omega, kbF, if_neg, kbF_up hs k]
    rw [Nat.div_eq_of_lt (Nat.lt_of_lt_of_le hs (Nat.pow_le_pow_right (by decide) (by omega)))]
    decide
/-- a set's highest letter read last -/
theorem kbF_hi {S : HSt} {A : Option lwD} {c s hb L : Nat} (h1 : 2 ^ hb ≤ s) (h2 : s < 2 ^ (hb + 1)) (hL : hb < L) : kbF S A c s L = tkS S A c hb (kbF S A c (s - 2 ^ hb) L) 8 := by
  have e1 : kbF S A c s L = kbF S A c s (hb + 1) := by
    have := kbF_up (S := S) (A := A) (c := c) h2 (L - (hb + 1))
    rwa [show hb + 1 + (L - (hb + 1)) = L by omega] at this
  have lt : s - 2 ^ hb < 2 ^ hb := by rw [Nat.pow_succ] at h2; omega
  have e2 : kbF S A c (s - 2 ^ hb) L = kbF S A c (s - 2 ^ hb) hb := by
    have := kbF_up (S := S) (A := A) (c := c) lt (L - hb)
    rwa [show hb + (L - hb) = L by omega] at this
  have e3 : kbF S A c (s - 2 ^ hb) hb = kbF S A c s hb := kbF_cg hb (fun j hj => by
    have e : s = s - 2 ^ hb + 2 ^ j * 2 ^ (hb - j) := by rw [← Nat.pow_add, show j + (hb - j) = hb by omega]; omega
    have ev : 2 ^ (hb - j) = 2 * 2 ^ (hb - j - 1) := by rw [← Nat.pow_succ']; congr 1; omega
    have : s / 2 ^ j = (s - 2 ^ hb) / 2 ^ j + 2 ^ (hb - j) := by
      conv => lhs; rw [e]
      rw [Nat.add_mul_div_left _ _ (Nat.two_pow_pos j)]
    rw [this, ev]
    omega)
  have bit : s / 2 ^ hb % 2 = 1 := by
    have : s / 2 ^ hb = 1 := Nat.div_eq_of_lt_le (by omega) (by rw [Nat.pow_succ] at h2; omega)
    rw [this]
  rw [e1, kbF, if_pos bit, e2, e3]
/-- all told is so -/
def tdO (S : HSt) (kn : Nat) : Prop := ∀ k, k < S 0 2 → kn / 2 ^ S 7 k % 2 = S 8 k
def tbN (S : HSt) (b : Nat) : Nat → Nat
  | 0 => 0
  | i + 1 => if S 8 i = b then tbN S b i ||| 2 ^ S 7 i else tbN S b i
theorem tbN_lt {S : HSt} {b : Nat} (h : ∀ k, k < S 0 2 → S 7 k < 8) : ∀ i, i ≤ S 0 2 → tbN S b i < 256
  | 0, _ => show (0 : Nat) < 256 by decide
  | i + 1, hi => by
    rw [tbN]
    split
    · exact or_lt (tbN_lt h i (by omega)) (pw_lt (h i (by omega)))
    · exact tbN_lt h i (by omega)
theorem or_and1 (x t kn : Nat) : ((x ||| 2 ^ t) &&& kn = x ||| 2 ^ t) ↔ (x &&& kn = x ∧ kn / 2 ^ t % 2 = 1) := by
  have tb : ∀ y j, Nat.testBit y j = decide (y / 2 ^ j % 2 = 1) := fun y j => Nat.testBit_eq_decide_div_mod_eq
  constructor
  · intro h
    refine ⟨Nat.eq_of_testBit_eq (fun j => ?_), ?_⟩
    · have := congrArg (fun y => Nat.testBit y j) h
      simp only [Nat.testBit_and, Nat.testBit_or] at this ⊢
      cases e : Nat.testBit x j <;> simp [e] at this ⊢
      exact this
    · have := congrArg (fun y => Nat.testBit y t) h
      simp only [Nat.testBit_and, Nat.testBit_or, Nat.testBit_two_pow_self, Bool.or_true, Bool.true_and] at this
      rw [tb] at this
      simpa using this
  · rintro ⟨h1, h2⟩
    refine Nat.eq_of_testBit_eq (fun j => ?_)
    have a := congrArg (fun y => Nat.testBit y j) h1
    simp only [Nat.testBit_and, Nat.testBit_or, Nat.testBit_two_pow] at a ⊢
    by_cases z : t = j
    · subst z
      simp [tb kn, h2]
    · cases e : Nat.testBit x j <;> simp [e, z] at a ⊢
      exact a
theorem or_and0 (x t kn : Nat) : ((x ||| 2 ^ t) &&& kn = 0) ↔ (x &&& kn = 0 ∧ kn / 2 ^ t % 2 = 0) := by
  have tb : ∀ y j, Nat.testBit y j = decide (y / 2 ^ j % 2 = 1) := fun y j => Nat.testBit_eq_decide_div_mod_eq
  constructor
  · intro h
    refine ⟨Nat.eq_of_testBit_eq (fun j => ?_), ?_⟩
    · have := congrArg (fun y => Nat.testBit y j) h
      simp only [Nat.testBit_and, Nat.testBit_or, Nat.zero_testBit] at this ⊢
      cases e : Nat.testBit x j <;> simp [e] at this ⊢
      exact this
    · have := congrArg (fun y => Nat.testBit y t) h
      simp only [Nat.testBit_and, Nat.testBit_or, Nat.testBit_two_pow_self, Bool.or_true, Bool.true_and, Nat.zero_testBit] at this
      rw [tb] at this
      simp at this
      exact this
  · rintro ⟨h1, h2⟩
    refine Nat.eq_of_testBit_eq (fun j => ?_)
    have a := congrArg (fun y => Nat.testBit y j) h1
    simp only [Nat.testBit_and, Nat.testBit_or, Nat.testBit_two_pow, Nat.zero_testBit] at a ⊢
    by_cases z : t = j
    · subst z
      simp [tb kn, h2]
    · cases e : Nat.testBit x j <;> simp [e, z] at a ⊢
      exact a
theorem tdO_iff {S : HSt} {kn : Nat} (h : ∀ k, k < S 0 2 → S 8 k < 2) : ∀ i, i ≤ S 0 2 → ((∀ k, k < i → kn / 2 ^ S 7 k % 2 = S 8 k) ↔ (tbN S 1 i &&& kn = tbN S 1 i ∧ tbN S 0 i &&& kn = 0))
  | 0, _ => by simp [tbN]
  | i + 1, hi => by
    have ih := tdO_iff (kn := kn) h i (by omega)
    have h2 := h i (by omega)
    have sp : (∀ k, k < i + 1 → kn / 2 ^ S 7 k % 2 = S 8 k) ↔ ((∀ k, k < i → kn / 2 ^ S 7 k % 2 = S 8 k) ∧ kn / 2 ^ S 7 i % 2 = S 8 i) := by
      constructor
      · intro q
        exact ⟨fun k hk => q k (by omega), q i (by omega)⟩
      · rintro ⟨q1, q2⟩ k hk
        by_cases z : k = i
        · rw [z]; exact q2
        · exact q1 k (by omega)
    rw [sp, ih, tbN, tbN]
    rcases (show S 8 i = 0 ∨ S 8 i = 1 by omega) with z | z
    · rw [z, if_neg (by decide), if_pos rfl, or_and0]
      exact ⟨fun q => ⟨q.1.1, q.1.2, q.2⟩, fun q => ⟨⟨q.1, q.2.1⟩, q.2.2⟩⟩
    · rw [z, if_pos rfl, if_neg (by decide), or_and1]
      exact ⟨fun q => ⟨⟨q.1.1, q.2⟩, q.1.2⟩, fun q => ⟨⟨q.1.1, q.2⟩, q.1.2⟩⟩
