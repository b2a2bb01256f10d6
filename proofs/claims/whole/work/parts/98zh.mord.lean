/-! orders: the model, all of it -/
def xMz (c j : Nat) : Prop := xMw c j ∨ xMo c j
theorem xMz_or {c j : Nat} (q : xMz c j) : xOr c j := by
  unfold xMz xMw xMt xMd xMo xMr xMa xrw xL xrm at q
  unfold xOr
  omega
section
variable {d : Nat} {h g h0 : mmH} {K : Option Value → mmH → Prop} {A : Option lwD} {S : HSt} {nu : Nat} {te : Nat → tEn} {n : Nat} {t : Nat → Nat}
theorem mw_z (F : fx xMw yMd h g) : fx xMz yMr h g := fx_mo (fun _ _ q => Or.inl q) (fun c q => by unfold yMd at q; unfold yMr; omega) F
theorem mr_z (F : fx xMr yMr h g) : fx xMz yMr h g := fx_mo (fun _ _ q => Or.inr (Or.inl q)) (fun _ q => q) F
theorem sp_morders {r : tRs} {ro : Nat ⊕ oS} (T : TPM h n t) (w : KW h) (M : MI h S A nu te) (R : TRx true n t 12 0 0 0 cl0 r) (RR : ∀ N cl, r = .inr (N, cl) → ORc A cl N 0 (S, nu, te, 0, -1) ro ∧ (∀ i, i < N → WFo (cl i)) ∧ ∀ i, i < N → ∀ D, (cl i).2.2.2.2 = some D → xT 16 D) (k0 : ∀ f, r = .inl f → ∀ g, fx xMz yMr h g → mm_gi g 91 18 = nI f → mm_gi g 91 13 = 0 → mm_gi g 91 20 = 0 → mm_gi g 91 52 = -1 → MI g S A nu te → K (some (.int (-6))) (tlH g (-6) 6)) (k1 : ∀ N cl s', r = .inr (N, cl) → ro = .inr s' → ∀ g, fx xMz yMr h g → mm_gi g 91 18 = -1 → mm_gi g 91 13 = 0 → mm_gi g 91 52 = -1 → MOr A g s' → K (some (.int (nI s'.2.2.2.1))) (mm_pi g 91 1 0)) (k2 : ∀ N cl i, r = .inr (N, cl) → ro = .inl i → i < N → ∀ g, fx xMz yMr h g → mm_gi g 91 18 = -1 → mm_gi g 91 13 = 0 → mm_gi g 91 52 = nI i → MI g S A nu te → K (some (.int (-3))) (tlH g (-3) 3)) : mm_MV q_X10_orders (d + 11) (0, 0) [.ref 91] h K := by
  have H := M.1
  obtain ⟨g0, eg0⟩ : ∃ g0 : mmH, g0 = mm_pi h 91 0 0 := ⟨_, rfl⟩
  obtain ⟨g1, eg1⟩ : ∃ g1 : mmH, g1 = mm_pi g0 91 52 (-1) := ⟨_, rfl⟩
  have F0 : fx xMz yMr h g0 := by rw [eg0]; exact fx_pi (Or.inl (by unfold xMw; omega)) fx_rf
  have F1 : fx xMz yMr h g1 := by rw [eg1]; exact fx_pi (Or.inr (by unfold xMo; omega)) F0
  have H0 := fx_WS F0 H
  have H1 := fx_WS F1 H
  have e1 : ∀ c j, ¬ (c = 91 ∧ (j = 0 ∨ j = 52)) → mm_gi g1 c j = mm_gi h c j := fun c j q => by rw [eg1, mm_gi_pi, if_neg (by omega), eg0, mm_gi_pi, if_neg (by omega)]
  have s1 : mm_gi g1 91 52 = -1 := by rw [eg1, mm_gi_pi, if_pos ⟨rfl, rfl⟩]
  have T1 : TPM g1 n t := ⟨T.1, (e1 91 13 (by omega)).trans T.2.1, fun i hi => ⟨(T.2.2 i hi).1, (e1 100 i (by omega)).trans (T.2.2 i hi).2⟩⟩
  have w1 : KW g1 := by rw [eg1, eg0]; exact w
  refine e_X10_orders (t_X10_orders_0 _ _ _ ?_)
  simp only [s_iadd, s_isub, s_imul, s_iand, s_ior, s_ixor, s_ishl, s_ishr, s_iushr, s_idiv, s_irem, s_ladd, s_lsub, s_lmul, s_ldiv, s_lrem, s_ineg, s_i2l, s_l2i, s_i2c, s_lcmp, s_ic, s_lc, s_nul, s_str, s_il, s_ll, s_al, s_dup, s_dup2, s_pop, s_ifne, s_icne, s_ifeq, s_iflt, s_ifge, s_ifgt, s_ifle, s_iceq, s_iclt, s_icge, s_icgt, s_icle, s_ifnull, s_ifnonnull, s_is, s_ls, s_as, s_ii, s_gi, s_gl, s_gr, s_pi, s_pz, s_pl, s_pr, s_iald, s_zald, s_lald, s_aald, s_alen, s_iast, s_zast, s_last, s_iret, s_zret, s_lret, s_aret, s_vret, s_sw, s_aast, mm_sw, mm_ld, mm_s1, mm_s2, mm_kl, Value.category, va_rf, List.nil_append, List.cons_append, Option.toList, true_and, and_true, and_self, true_or, or_true, eq_self, not_true_eq_false, false_implies, true_implies, not_false_eq_true, mm_10, mm_01, false_or, or_false, Nat.left_eq_add, Nat.add_eq_left, Nat.add_left_cancel_iff, Nat.reduceEqDiff, false_and, and_false, reduceIte, mm_kd_pi, mm_ln_pi, mm_gl_pi, mm_gr_pi, mm_sz_pi, mm_gi_pi, mm_kd_pl, mm_ln_pl, mm_gi_pl, mm_gr_pl, mm_sz_pl, mm_gl_pl, mm_kd_pr, mm_ln_pr, mm_gi_pr, mm_gl_pr, mm_sz_pr, mm_gr_pr, mm_kd_pa, mm_ln_pa, mm_gl_pa, mm_gr_pa, mm_sz_pa, mm_gi_pa, W_kd_91 H, W_s_91 H, W_gr_91_2 H, W_gr_91_3 H, W_gr_91_4 H, W_gr_91_5 H, W_gr_91_6 H, W_gr_91_7 H, W_gr_91_9 H, W_gr_91_10 H, W_gr_91_12 H, W_gr_91_22 H, W_gr_91_24 H, W_gr_91_25 H, W_gr_91_27 H, W_gr_91_28 H, W_gr_91_31 H, W_gr_91_32 H, W_gr_91_33 H, W_gr_91_35 H, W_gr_91_36 H, W_gr_91_37 H, W_gr_91_41 H, W_gr_91_42 H, W_gr_91_43 H, W_gr_91_44 H, W_gr_91_45 H, W_gr_91_46 H, W_gr_91_47 H, W_gr_91_48 H, W_gr_91_49 H, W_gr_91_55 H, ← eg0, W_kd_91 H0, W_s_91 H0, W_gr_91_2 H0, W_gr_91_3 H0, W_gr_91_4 H0, W_gr_91_5 H0, W_gr_91_6 H0, W_gr_91_7 H0, W_gr_91_9 H0, W_gr_91_10 H0, W_gr_91_12 H0, W_gr_91_22 H0, W_gr_91_24 H0, W_gr_91_25 H0, W_gr_91_27 H0, W_gr_91_28 H0, W_gr_91_31 H0, W_gr_91_32 H0, W_gr_91_33 H0, W_gr_91_35 H0, W_gr_91_36 H0, W_gr_91_37 H0, W_gr_91_41 H0, W_gr_91_42 H0, W_gr_91_43 H0, W_gr_91_44 H0, W_gr_91_45 H0, W_gr_91_46 H0, W_gr_91_47 H0, W_gr_91_48 H0, W_gr_91_49 H0, W_gr_91_55 H0, ← eg1]
  refine c_X10_orders_12 (bb := (0, 0)) (b := (0, 0)) (Nat.le_of_ble_eq_true rfl) ⟨rfl, rfl⟩ (W_kd_91 H1) (W_s_91 H1) (sp_mbegin (d := d + 7) (o := true) H1 T1 w1 (fun g2 F2 a0 M2 b2 n2 => ?_))
  have H2 := M2.1.1
  have F02 : fx xMz yMr h g2 := fx_tr F1 (mw_z F2)
  have s2 : mm_gi g2 91 52 = -1 := (F2.2.1 91 52 (by unfold xMw xMt xMd; omega)).trans s1
  refine t_X10_orders_15 _ _ _ ?_
  simp only [s_iadd, s_isub, s_imul, s_iand, s_ior, s_ixor, s_ishl, s_ishr, s_iushr, s_idiv, s_irem, s_ladd, s_lsub, s_lmul, s_ldiv, s_lrem, s_ineg, s_i2l, s_l2i, s_i2c, s_lcmp, s_ic, s_lc, s_nul, s_str, s_il, s_ll, s_al, s_dup, s_dup2, s_pop, s_ifne, s_icne, s_ifeq, s_iflt, s_ifge, s_ifgt, s_ifle, s_iceq, s_iclt, s_icge, s_icgt, s_icle, s_ifnull, s_ifnonnull, s_is, s_ls, s_as, s_ii, s_gi, s_gl, s_gr, s_pi, s_pz, s_pl, s_pr, s_iald, s_zald, s_lald, s_aald, s_alen, s_iast, s_zast, s_last, s_iret, s_zret, s_lret, s_aret, s_vret, s_sw, s_aast, mm_sw, mm_ld, mm_s1, mm_s2, mm_kl, Value.category, va_rf, List.nil_append, List.cons_append, Option.toList, true_and, and_true, and_self, true_or, or_true, eq_self, not_true_eq_false, false_implies, true_implies, not_false_eq_true, mm_10, mm_01, false_or, or_false, Nat.left_eq_add, Nat.add_eq_left, Nat.add_left_cancel_iff, Nat.reduceEqDiff, false_and, and_false, reduceIte, mm_kd_pi, mm_ln_pi, mm_gl_pi, mm_gr_pi, mm_sz_pi, mm_gi_pi, mm_kd_pl, mm_ln_pl, mm_gi_pl, mm_gr_pl, mm_sz_pl, mm_gl_pl, mm_kd_pr, mm_ln_pr, mm_gi_pr, mm_gl_pr, mm_sz_pr, mm_gr_pr, mm_kd_pa, mm_ln_pa, mm_gl_pa, mm_gr_pa, mm_sz_pa, mm_gi_pa]
  have MT : MTo n t g2 0 0 0 (fun _ => (0, 0)) 0 cl0 := ⟨M2, b2, Nat.le_refl _, fun i hi => by omega, ⟨n2, by decide⟩, fun k hk => by omega⟩
  -- the state behind the text
  have mi : ∀ g, fx xMt yMd g2 g → MI (xEd g) S A nu te ∧ fx xMz yMr h (xEd g) ∧ mm_gi (xEd g) 91 52 = -1 ∧ mm_gi (xEd g) 91 13 = 0 := by
    intro g F
    have Fx : fx xMw yMd g1 (xEd g) := by unfold xEd; exact fx_pi (by unfold xMw; omega) (fx_pi (by unfold xMw; omega) (fx_tr F2 (mt_mw F)))
    have Fz : fx xMz yMr h (xEd g) := fx_tr F1 (mw_z Fx)
    have ee : ∀ c j, ¬ xMw c j → ¬ (c = 91 ∧ (j = 0 ∨ j = 52)) → mm_gi (xEd g) c j = mm_gi h c j := fun c j q1 q2 => (Fx.2.1 c j q1).trans (e1 c j q2)
    refine ⟨MI_q (OQ_fx Fz (fun c j q => xMz_or q) (fun c q => by unfold yMr at q; omega)) (fun j => ee 93 j (by unfold xMw xMt xMd; omega) (by omega)) (by rw [xEd_gi, if_neg (by omega), if_pos ⟨rfl, rfl⟩]) (ee 91 8 (by unfold xMw xMt xMd; omega) (by omega)) (fun j _ => ee 96 j (by unfold xMw xMt xMd; omega) (by omega)) (fun j => ee 97 j (by unfold xMw xMt xMd; omega) (by omega)) M, Fz, ?_, by rw [xEd_gi, if_pos ⟨rfl, rfl⟩]⟩
    rw [Fx.2.1 91 52 (by unfold xMw xMt xMd; omega)]
    exact s1
  refine c_X10_orders_16 (bb := (0, 0)) (b := (0, 0)) (Nat.le_of_ble_eq_true rfl) ⟨rfl, rfl⟩ (W_kd_91 H2) (W_s_91 H2) (mm_MV.mono (fun v g q => ?_) (lo_run (d := d + 1) (h0 := g2) (r := r) (K := K) ?_ ?_ 11 0 g2 0 0 0 _ cl0 rfl MT fx_rf R))
  · obtain ⟨rfl, q⟩ := q
    exact q
  · intro f er g F b f'
    obtain ⟨Mx, Fx, x52, x13⟩ := mi g F
    have Hx := Mx.1
    have bx : mm_gi (xEd g) 91 19 = 1 := by rw [xEd_gi, if_neg (by omega), if_neg (by omega)]; exact b
    refine t_X10_orders_50 _ _ _ ?_
    simp only [s_iadd, s_isub, s_imul, s_iand, s_ior, s_ixor, s_ishl, s_ishr, s_iushr, s_idiv, s_irem, s_ladd, s_lsub, s_lmul, s_ldiv, s_lrem, s_ineg, s_i2l, s_l2i, s_i2c, s_lcmp, s_ic, s_lc, s_nul, s_str, s_il, s_ll, s_al, s_dup, s_dup2, s_pop, s_ifne, s_icne, s_ifeq, s_iflt, s_ifge, s_ifgt, s_ifle, s_iceq, s_iclt, s_icge, s_icgt, s_icle, s_ifnull, s_ifnonnull, s_is, s_ls, s_as, s_ii, s_gi, s_gl, s_gr, s_pi, s_pz, s_pl, s_pr, s_iald, s_zald, s_lald, s_aald, s_alen, s_iast, s_zast, s_last, s_iret, s_zret, s_lret, s_aret, s_vret, s_sw, s_aast, mm_sw, mm_ld, mm_s1, mm_s2, mm_kl, Value.category, va_rf, List.nil_append, List.cons_append, Option.toList, true_and, and_true, and_self, true_or, or_true, eq_self, not_true_eq_false, false_implies, true_implies, not_false_eq_true, mm_10, mm_01, false_or, or_false, Nat.left_eq_add, Nat.add_eq_left, Nat.add_left_cancel_iff, Nat.reduceEqDiff, false_and, and_false, reduceIte, mm_kd_pi, mm_ln_pi, mm_gl_pi, mm_gr_pi, mm_sz_pi, mm_gi_pi, mm_kd_pl, mm_ln_pl, mm_gi_pl, mm_gr_pl, mm_sz_pl, mm_gl_pl, mm_kd_pr, mm_ln_pr, mm_gi_pr, mm_gl_pr, mm_sz_pr, mm_gr_pr, mm_kd_pa, mm_ln_pa, mm_gl_pa, mm_gr_pa, mm_sz_pa, mm_gi_pa, W_kd_91 Hx, W_s_91 Hx, W_gr_91_2 Hx, W_gr_91_3 Hx, W_gr_91_4 Hx, W_gr_91_5 Hx, W_gr_91_6 Hx, W_gr_91_7 Hx, W_gr_91_9 Hx, W_gr_91_10 Hx, W_gr_91_12 Hx, W_gr_91_22 Hx, W_gr_91_24 Hx, W_gr_91_25 Hx, W_gr_91_27 Hx, W_gr_91_28 Hx, W_gr_91_31 Hx, W_gr_91_32 Hx, W_gr_91_33 Hx, W_gr_91_35 Hx, W_gr_91_36 Hx, W_gr_91_37 Hx, W_gr_91_41 Hx, W_gr_91_42 Hx, W_gr_91_43 Hx, W_gr_91_44 Hx, W_gr_91_45 Hx, W_gr_91_46 Hx, W_gr_91_47 Hx, W_gr_91_48 Hx, W_gr_91_49 Hx, W_gr_91_55 Hx, bx, show ((1 : Int32) = 0) = False by decide]
    refine c_X10_orders_60 (bb := (0, 0)) (b := (0, 0)) (Nat.le_of_ble_eq_true rfl) ⟨rfl, rfl⟩ (W_kd_91 Hx) (W_s_91 Hx) (sp_tell_no (r := -6) (p := 6) Hx (by simp) ?_)
    refine t_X10_orders_63 _ _ _ ?_
    simp only [s_iadd, s_isub, s_imul, s_iand, s_ior, s_ixor, s_ishl, s_ishr, s_iushr, s_idiv, s_irem, s_ladd, s_lsub, s_lmul, s_ldiv, s_lrem, s_ineg, s_i2l, s_l2i, s_i2c, s_lcmp, s_ic, s_lc, s_nul, s_str, s_il, s_ll, s_al, s_dup, s_dup2, s_pop, s_ifne, s_icne, s_ifeq, s_iflt, s_ifge, s_ifgt, s_ifle, s_iceq, s_iclt, s_icge, s_icgt, s_icle, s_ifnull, s_ifnonnull, s_is, s_ls, s_as, s_ii, s_gi, s_gl, s_gr, s_pi, s_pz, s_pl, s_pr, s_iald, s_zald, s_lald, s_aald, s_alen, s_iast, s_zast, s_last, s_iret, s_zret, s_lret, s_aret, s_vret, s_sw, s_aast, mm_sw, mm_ld, mm_s1, mm_s2, mm_kl, Value.category, va_rf, List.nil_append, List.cons_append, Option.toList, true_and, and_true, and_self, true_or, or_true, eq_self, not_true_eq_false, false_implies, true_implies, not_false_eq_true, mm_10, mm_01, false_or, or_false, Nat.left_eq_add, Nat.add_eq_left, Nat.add_left_cancel_iff, Nat.reduceEqDiff, false_and, and_false, reduceIte, mm_kd_pi, mm_ln_pi, mm_gl_pi, mm_gr_pi, mm_sz_pi, mm_gi_pi, mm_kd_pl, mm_ln_pl, mm_gi_pl, mm_gr_pl, mm_sz_pl, mm_gl_pl, mm_kd_pr, mm_ln_pr, mm_gi_pr, mm_gl_pr, mm_sz_pr, mm_gr_pr, mm_kd_pa, mm_ln_pa, mm_gl_pa, mm_gr_pa, mm_sz_pa, mm_gi_pa]
    exact k0 f er _ Fx (by rw [xEd_gi, if_neg (by omega), if_neg (by omega)]; exact f') x13 (by rw [xEd_gi, if_neg (by omega), if_pos ⟨rfl, rfl⟩]) x52 Mx
  · intro N cl er g y J F P
    obtain ⟨RC, wf, hT⟩ := RR N cl er
    obtain ⟨Mx, Fx, x52, x13⟩ := mi g F
    have Px : LPr (xEd g) y J N cl := LPr_cg (fun c j q => by rw [xEd_gi, if_neg (by omega), if_neg (by omega)]) P
    generalize xEd g = gx at Mx Fx x52 x13 Px ⊢
    have Hx := Mx.1
    have N12 := Px.1.2.2.2
    refine t_X10_orders_50 _ _ _ ?_
    simp only [s_iadd, s_isub, s_imul, s_iand, s_ior, s_ixor, s_ishl, s_ishr, s_iushr, s_idiv, s_irem, s_ladd, s_lsub, s_lmul, s_ldiv, s_lrem, s_ineg, s_i2l, s_l2i, s_i2c, s_lcmp, s_ic, s_lc, s_nul, s_str, s_il, s_ll, s_al, s_dup, s_dup2, s_pop, s_ifne, s_icne, s_ifeq, s_iflt, s_ifge, s_ifgt, s_ifle, s_iceq, s_iclt, s_icge, s_icgt, s_icle, s_ifnull, s_ifnonnull, s_is, s_ls, s_as, s_ii, s_gi, s_gl, s_gr, s_pi, s_pz, s_pl, s_pr, s_iald, s_zald, s_lald, s_aald, s_alen, s_iast, s_zast, s_last, s_iret, s_zret, s_lret, s_aret, s_vret, s_sw, s_aast, mm_sw, mm_ld, mm_s1, mm_s2, mm_kl, Value.category, va_rf, List.nil_append, List.cons_append, Option.toList, true_and, and_true, and_self, true_or, or_true, eq_self, not_true_eq_false, false_implies, true_implies, not_false_eq_true, mm_10, mm_01, false_or, or_false, Nat.left_eq_add, Nat.add_eq_left, Nat.add_left_cancel_iff, Nat.reduceEqDiff, false_and, and_false, reduceIte, mm_kd_pi, mm_ln_pi, mm_gl_pi, mm_gr_pi, mm_sz_pi, mm_gi_pi, mm_kd_pl, mm_ln_pl, mm_gi_pl, mm_gr_pl, mm_sz_pl, mm_gl_pl, mm_kd_pr, mm_ln_pr, mm_gi_pr, mm_gl_pr, mm_sz_pr, mm_gr_pr, mm_kd_pa, mm_ln_pa, mm_gl_pa, mm_gr_pa, mm_sz_pa, mm_gi_pa, W_kd_91 Hx, W_s_91 Hx, W_gr_91_2 Hx, W_gr_91_3 Hx, W_gr_91_4 Hx, W_gr_91_5 Hx, W_gr_91_6 Hx, W_gr_91_7 Hx, W_gr_91_9 Hx, W_gr_91_10 Hx, W_gr_91_12 Hx, W_gr_91_22 Hx, W_gr_91_24 Hx, W_gr_91_25 Hx, W_gr_91_27 Hx, W_gr_91_28 Hx, W_gr_91_31 Hx, W_gr_91_32 Hx, W_gr_91_33 Hx, W_gr_91_35 Hx, W_gr_91_36 Hx, W_gr_91_37 Hx, W_gr_91_41 Hx, W_gr_91_42 Hx, W_gr_91_43 Hx, W_gr_91_44 Hx, W_gr_91_45 Hx, W_gr_91_46 Hx, W_gr_91_47 Hx, W_gr_91_48 Hx, W_gr_91_49 Hx, W_gr_91_55 Hx, Px.1.1]
    refine c_X10_orders_67 (bb := (0, 0)) (b := (0, 0)) (Nat.le_of_ble_eq_true rfl) ⟨rfl, rfl⟩ (W_kd_91 Hx) (W_s_91 Hx) (sp_keepAll (m := 17) Hx (by decide) ?_)
    obtain ⟨h1, eh1⟩ : ∃ h1 : mmH, h1 = mm_pa gx 96 (va_cpy (mm_gi gx 93) (mm_gi gx 96) 5 (23 * 17) 23) := ⟨_, rfl⟩
    rw [← eh1]
    have G1 : fx (fun c j => c = 96 ∧ 391 ≤ j) y0 gx h1 := by rw [eh1]; exact fx_pa2 (fun j q => cpy_no (by omega)) fx_rf
    have k96 : ∀ j, j < 23 → mm_gi h1 96 (391 + j) = mm_gi gx 93 (5 + j) := fun j hj => by rw [eh1, mm_gi_pa, if_pos rfl, cpy_at (by omega) (by omega), show 5 + (391 + j - 23 * 17) = 5 + j by omega]
    have Hh1 := fx_WS G1 Hx
    have e8 : mm_gi h1 91 8 = nI nu := (G1.2.1 91 8 (by omega)).trans Mx.2.2.2.2.2.1.1
    refine t_X10_orders_70 _ _ _ ?_
    simp only [s_iadd, s_isub, s_imul, s_iand, s_ior, s_ixor, s_ishl, s_ishr, s_iushr, s_idiv, s_irem, s_ladd, s_lsub, s_lmul, s_ldiv, s_lrem, s_ineg, s_i2l, s_l2i, s_i2c, s_lcmp, s_ic, s_lc, s_nul, s_str, s_il, s_ll, s_al, s_dup, s_dup2, s_pop, s_ifne, s_icne, s_ifeq, s_iflt, s_ifge, s_ifgt, s_ifle, s_iceq, s_iclt, s_icge, s_icgt, s_icle, s_ifnull, s_ifnonnull, s_is, s_ls, s_as, s_ii, s_gi, s_gl, s_gr, s_pi, s_pz, s_pl, s_pr, s_iald, s_zald, s_lald, s_aald, s_alen, s_iast, s_zast, s_last, s_iret, s_zret, s_lret, s_aret, s_vret, s_sw, s_aast, mm_sw, mm_ld, mm_s1, mm_s2, mm_kl, Value.category, va_rf, List.nil_append, List.cons_append, Option.toList, true_and, and_true, and_self, true_or, or_true, eq_self, not_true_eq_false, false_implies, true_implies, not_false_eq_true, mm_10, mm_01, false_or, or_false, Nat.left_eq_add, Nat.add_eq_left, Nat.add_left_cancel_iff, Nat.reduceEqDiff, false_and, and_false, reduceIte, mm_kd_pi, mm_ln_pi, mm_gl_pi, mm_gr_pi, mm_sz_pi, mm_gi_pi, mm_kd_pl, mm_ln_pl, mm_gi_pl, mm_gr_pl, mm_sz_pl, mm_gl_pl, mm_kd_pr, mm_ln_pr, mm_gi_pr, mm_gl_pr, mm_sz_pr, mm_gr_pr, mm_kd_pa, mm_ln_pa, mm_gl_pa, mm_gr_pa, mm_sz_pa, mm_gi_pa, W_kd_91 Hh1, W_s_91 Hh1, W_gr_91_2 Hh1, W_gr_91_3 Hh1, W_gr_91_4 Hh1, W_gr_91_5 Hh1, W_gr_91_6 Hh1, W_gr_91_7 Hh1, W_gr_91_9 Hh1, W_gr_91_10 Hh1, W_gr_91_12 Hh1, W_gr_91_22 Hh1, W_gr_91_24 Hh1, W_gr_91_25 Hh1, W_gr_91_27 Hh1, W_gr_91_28 Hh1, W_gr_91_31 Hh1, W_gr_91_32 Hh1, W_gr_91_33 Hh1, W_gr_91_35 Hh1, W_gr_91_36 Hh1, W_gr_91_37 Hh1, W_gr_91_41 Hh1, W_gr_91_42 Hh1, W_gr_91_43 Hh1, W_gr_91_44 Hh1, W_gr_91_45 Hh1, W_gr_91_46 Hh1, W_gr_91_47 Hh1, W_gr_91_48 Hh1, W_gr_91_49 Hh1, W_gr_91_55 Hh1, e8]
    refine lp_m77 Hh1 (fun h2 G2 D2 => ?_) 368 0 h1 rfl fx_rf (fun j hj => by omega)
    have Hh2 := fx_WS G2 Hh1
    refine lp_m104 Hh2 (fun h3 G3 D3 => ?_) 16 0 h2 rfl fx_rf (fun j hj => by omega)
    have Hh3 := fx_WS G3 Hh2
    obtain ⟨h4, eh4⟩ : ∃ h4 : mmH, h4 = mm_pi h3 91 50 0 := ⟨_, rfl⟩
    obtain ⟨h5, eh5⟩ : ∃ h5 : mmH, h5 = mm_pi h4 91 51 (-1) := ⟨_, rfl⟩
    have Hh4 : WS h4 := by rw [eh4]; exact WS_pi Hh3
    have G5 : fx (fun c j => (c = 96 ∧ 391 ≤ j) ∨ c = 98 ∨ c = 99 ∨ (c = 91 ∧ (j = 50 ∨ j = 51))) y0 gx h5 := by
      rw [eh5]; refine fx_pi (by omega) ?_
      rw [eh4]; refine fx_pi (by omega) ?_
      exact fx_tr (fx_mo (fun c j q => by omega) (fun _ q => q) G1) (fx_tr (fx_mo (fun c j q => by omega) (fun _ q => q) G2) (fx_mo (fun c j q => by omega) (fun _ q => q) G3))
    have M5 : MI h5 S A nu te := MI_s G5 (fun c j hc => by omega) Mx
    have P5 : LPr h5 y J N cl := LPr_cg (fun c j q => G5.2.1 c j (by omega)) Px
    have F5 : fx xMz yMr h h5 := fx_tr Fx (fx_mo (fun c j q => Or.inr (by unfold xMo xMr; omega)) (fun _ q => q.elim) G5)
    have MO : MOr A h5 (S, nu, te, 0, -1) := ⟨M5, by rw [eh5, mm_gi_pi, if_neg (by omega), eh4, mm_gi_pi, if_pos ⟨rfl, rfl⟩]; rfl, by rw [eh5, mm_gi_pi, if_pos ⟨rfl, rfl⟩]; rfl, by show 0 ≤ 1000; omega, by show (-1 : Int) ≤ -1; omega, by show (-1 : Int) ≤ 1000; omega⟩
    have f3 : ∀ c j, ¬ ((c = 96 ∧ 391 ≤ j) ∨ c = 98 ∨ c = 99 ∨ (c = 91 ∧ (j = 50 ∨ j = 51))) → mm_gi h5 c j = mm_gi gx c j := fun c j q => G5.2.1 c j q
    refine t_X10_orders_104 _ _ _ ?_
    simp only [s_iadd, s_isub, s_imul, s_iand, s_ior, s_ixor, s_ishl, s_ishr, s_iushr, s_idiv, s_irem, s_ladd, s_lsub, s_lmul, s_ldiv, s_lrem, s_ineg, s_i2l, s_l2i, s_i2c, s_lcmp, s_ic, s_lc, s_nul, s_str, s_il, s_ll, s_al, s_dup, s_dup2, s_pop, s_ifne, s_icne, s_ifeq, s_iflt, s_ifge, s_ifgt, s_ifle, s_iceq, s_iclt, s_icge, s_icgt, s_icle, s_ifnull, s_ifnonnull, s_is, s_ls, s_as, s_ii, s_gi, s_gl, s_gr, s_pi, s_pz, s_pl, s_pr, s_iald, s_zald, s_lald, s_aald, s_alen, s_iast, s_zast, s_last, s_iret, s_zret, s_lret, s_aret, s_vret, s_sw, s_aast, mm_sw, mm_ld, mm_s1, mm_s2, mm_kl, Value.category, va_rf, List.nil_append, List.cons_append, Option.toList, true_and, and_true, and_self, true_or, or_true, eq_self, not_true_eq_false, false_implies, true_implies, not_false_eq_true, mm_10, mm_01, false_or, or_false, Nat.left_eq_add, Nat.add_eq_left, Nat.add_left_cancel_iff, Nat.reduceEqDiff, false_and, and_false, reduceIte, mm_kd_pi, mm_ln_pi, mm_gl_pi, mm_gr_pi, mm_sz_pi, mm_gi_pi, mm_kd_pl, mm_ln_pl, mm_gi_pl, mm_gr_pl, mm_sz_pl, mm_gl_pl, mm_kd_pr, mm_ln_pr, mm_gi_pr, mm_gl_pr, mm_sz_pr, mm_gr_pr, mm_kd_pa, mm_ln_pa, mm_gl_pa, mm_gr_pa, mm_sz_pa, mm_gi_pa, show ((16 : Int32) ≤ nI 16) = True by decide, W_kd_91 Hh3, W_s_91 Hh3, W_gr_91_2 Hh3, W_gr_91_3 Hh3, W_gr_91_4 Hh3, W_gr_91_5 Hh3, W_gr_91_6 Hh3, W_gr_91_7 Hh3, W_gr_91_9 Hh3, W_gr_91_10 Hh3, W_gr_91_12 Hh3, W_gr_91_22 Hh3, W_gr_91_24 Hh3, W_gr_91_25 Hh3, W_gr_91_27 Hh3, W_gr_91_28 Hh3, W_gr_91_31 Hh3, W_gr_91_32 Hh3, W_gr_91_33 Hh3, W_gr_91_35 Hh3, W_gr_91_36 Hh3, W_gr_91_37 Hh3, W_gr_91_41 Hh3, W_gr_91_42 Hh3, W_gr_91_43 Hh3, W_gr_91_44 Hh3, W_gr_91_45 Hh3, W_gr_91_46 Hh3, W_gr_91_47 Hh3, W_gr_91_48 Hh3, W_gr_91_49 Hh3, W_gr_91_55 Hh3, ← eh4, W_kd_91 Hh4, W_s_91 Hh4, W_gr_91_2 Hh4, W_gr_91_3 Hh4, W_gr_91_4 Hh4, W_gr_91_5 Hh4, W_gr_91_6 Hh4, W_gr_91_7 Hh4, W_gr_91_9 Hh4, W_gr_91_10 Hh4, W_gr_91_12 Hh4, W_gr_91_22 Hh4, W_gr_91_24 Hh4, W_gr_91_25 Hh4, W_gr_91_27 Hh4, W_gr_91_28 Hh4, W_gr_91_31 Hh4, W_gr_91_32 Hh4, W_gr_91_33 Hh4, W_gr_91_35 Hh4, W_gr_91_36 Hh4, W_gr_91_37 Hh4, W_gr_91_41 Hh4, W_gr_91_42 Hh4, W_gr_91_43 Hh4, W_gr_91_44 Hh4, W_gr_91_45 Hh4, W_gr_91_46 Hh4, W_gr_91_47 Hh4, W_gr_91_48 Hh4, W_gr_91_49 Hh4, W_gr_91_55 Hh4, ← eh5]
    refine mo_c (y := y) (J := J) (h0 := h5) (r := ro) N12 wf hT (fun s' e6 g6 M6 F6 => ?_) (fun i e6 hi g6 H6 F6 v3 => ?_) N 0 (S, nu, te, 0, -1) h5 _ (by omega) MO P5 fx_rf (by show 0 + 20 * N ≤ 240; omega) RC
    · refine k1 N cl s' er e6 g6 (fx_tr F5 (mr_z F6)) ?_ ?_ ?_ M6
      · rw [F6.2.1 91 18 (by unfold xMr xMa xrw xL xrm; omega), f3 91 18 (by omega)]; exact Px.1.2.1
      · rw [F6.2.1 91 13 (by unfold xMr xMa xrw xL xrm; omega), f3 91 13 (by omega)]; exact x13
      · rw [F6.2.1 91 52 (by unfold xMr xMa xrw xL xrm; omega), f3 91 52 (by omega)]; exact x52
    · refine t_X10_orders_174 _ _ _ ?_
      simp only [s_iadd, s_isub, s_imul, s_iand, s_ior, s_ixor, s_ishl, s_ishr, s_iushr, s_idiv, s_irem, s_ladd, s_lsub, s_lmul, s_ldiv, s_lrem, s_ineg, s_i2l, s_l2i, s_i2c, s_lcmp, s_ic, s_lc, s_nul, s_str, s_il, s_ll, s_al, s_dup, s_dup2, s_pop, s_ifne, s_icne, s_ifeq, s_iflt, s_ifge, s_ifgt, s_ifle, s_iceq, s_iclt, s_icge, s_icgt, s_icle, s_ifnull, s_ifnonnull, s_is, s_ls, s_as, s_ii, s_gi, s_gl, s_gr, s_pi, s_pz, s_pl, s_pr, s_iald, s_zald, s_lald, s_aald, s_alen, s_iast, s_zast, s_last, s_iret, s_zret, s_lret, s_aret, s_vret, s_sw, s_aast, mm_sw, mm_ld, mm_s1, mm_s2, mm_kl, Value.category, va_rf, List.nil_append, List.cons_append, Option.toList, true_and, and_true, and_self, true_or, or_true, eq_self, not_true_eq_false, false_implies, true_implies, not_false_eq_true, mm_10, mm_01, false_or, or_false, Nat.left_eq_add, Nat.add_eq_left, Nat.add_left_cancel_iff, Nat.reduceEqDiff, false_and, and_false, reduceIte, mm_kd_pi, mm_ln_pi, mm_gl_pi, mm_gr_pi, mm_sz_pi, mm_gi_pi, mm_kd_pl, mm_ln_pl, mm_gi_pl, mm_gr_pl, mm_sz_pl, mm_gl_pl, mm_kd_pr, mm_ln_pr, mm_gi_pr, mm_gl_pr, mm_sz_pr, mm_gr_pr, mm_kd_pa, mm_ln_pa, mm_gl_pa, mm_gr_pa, mm_sz_pa, mm_gi_pa, show ((0 : Int32) ≤ -3) = False by decide]
      refine c_X10_orders_179 (bb := (0, 0)) (b := (0, 0)) (Nat.le_of_ble_eq_true rfl) ⟨rfl, rfl⟩ (W_kd_91 H6) (W_s_91 H6) (sp_giveBack (d := d + 9) H6 (fun g7 F7 D93 D96 D97 D8 => ?_))
      have H7 := fx_WS F7 H6
      obtain ⟨g8, eg8⟩ : ∃ g8 : mmH, g8 = mm_pi g7 91 52 (nI i) := ⟨_, rfl⟩
      have H8 : WS g8 := by rw [eg8]; exact WS_pi H7
      refine t_X10_orders_182 _ _ _ ?_
      simp only [s_iadd, s_isub, s_imul, s_iand, s_ior, s_ixor, s_ishl, s_ishr, s_iushr, s_idiv, s_irem, s_ladd, s_lsub, s_lmul, s_ldiv, s_lrem, s_ineg, s_i2l, s_l2i, s_i2c, s_lcmp, s_ic, s_lc, s_nul, s_str, s_il, s_ll, s_al, s_dup, s_dup2, s_pop, s_ifne, s_icne, s_ifeq, s_iflt, s_ifge, s_ifgt, s_ifle, s_iceq, s_iclt, s_icge, s_icgt, s_icle, s_ifnull, s_ifnonnull, s_is, s_ls, s_as, s_ii, s_gi, s_gl, s_gr, s_pi, s_pz, s_pl, s_pr, s_iald, s_zald, s_lald, s_aald, s_alen, s_iast, s_zast, s_last, s_iret, s_zret, s_lret, s_aret, s_vret, s_sw, s_aast, mm_sw, mm_ld, mm_s1, mm_s2, mm_kl, Value.category, va_rf, List.nil_append, List.cons_append, Option.toList, true_and, and_true, and_self, true_or, or_true, eq_self, not_true_eq_false, false_implies, true_implies, not_false_eq_true, mm_10, mm_01, false_or, or_false, Nat.left_eq_add, Nat.add_eq_left, Nat.add_left_cancel_iff, Nat.reduceEqDiff, false_and, and_false, reduceIte, mm_kd_pi, mm_ln_pi, mm_gl_pi, mm_gr_pi, mm_sz_pi, mm_gi_pi, mm_kd_pl, mm_ln_pl, mm_gi_pl, mm_gr_pl, mm_sz_pl, mm_gl_pl, mm_kd_pr, mm_ln_pr, mm_gi_pr, mm_gl_pr, mm_sz_pr, mm_gr_pr, mm_kd_pa, mm_ln_pa, mm_gl_pa, mm_gr_pa, mm_sz_pa, mm_gi_pa, W_kd_91 H7, W_s_91 H7, W_gr_91_2 H7, W_gr_91_3 H7, W_gr_91_4 H7, W_gr_91_5 H7, W_gr_91_6 H7, W_gr_91_7 H7, W_gr_91_9 H7, W_gr_91_10 H7, W_gr_91_12 H7, W_gr_91_22 H7, W_gr_91_24 H7, W_gr_91_25 H7, W_gr_91_27 H7, W_gr_91_28 H7, W_gr_91_31 H7, W_gr_91_32 H7, W_gr_91_33 H7, W_gr_91_35 H7, W_gr_91_36 H7, W_gr_91_37 H7, W_gr_91_41 H7, W_gr_91_42 H7, W_gr_91_43 H7, W_gr_91_44 H7, W_gr_91_45 H7, W_gr_91_46 H7, W_gr_91_47 H7, W_gr_91_48 H7, W_gr_91_49 H7, W_gr_91_55 H7, ← eg8]
      refine c_X10_orders_190 (bb := (0, 0)) (b := (0, 0)) (Nat.le_of_ble_eq_true rfl) ⟨rfl, rfl⟩ (W_kd_91 H8) (W_s_91 H8) (sp_tell_no (r := -3) (p := 3) H8 (by simp) ?_)
      refine t_X10_orders_193 _ _ _ ?_
      simp only [s_iadd, s_isub, s_imul, s_iand, s_ior, s_ixor, s_ishl, s_ishr, s_iushr, s_idiv, s_irem, s_ladd, s_lsub, s_lmul, s_ldiv, s_lrem, s_ineg, s_i2l, s_l2i, s_i2c, s_lcmp, s_ic, s_lc, s_nul, s_str, s_il, s_ll, s_al, s_dup, s_dup2, s_pop, s_ifne, s_icne, s_ifeq, s_iflt, s_ifge, s_ifgt, s_ifle, s_iceq, s_iclt, s_icge, s_icgt, s_icle, s_ifnull, s_ifnonnull, s_is, s_ls, s_as, s_ii, s_gi, s_gl, s_gr, s_pi, s_pz, s_pl, s_pr, s_iald, s_zald, s_lald, s_aald, s_alen, s_iast, s_zast, s_last, s_iret, s_zret, s_lret, s_aret, s_vret, s_sw, s_aast, mm_sw, mm_ld, mm_s1, mm_s2, mm_kl, Value.category, va_rf, List.nil_append, List.cons_append, Option.toList, true_and, and_true, and_self, true_or, or_true, eq_self, not_true_eq_false, false_implies, true_implies, not_false_eq_true, mm_10, mm_01, false_or, or_false, Nat.left_eq_add, Nat.add_eq_left, Nat.add_left_cancel_iff, Nat.reduceEqDiff, false_and, and_false, reduceIte, mm_kd_pi, mm_ln_pi, mm_gl_pi, mm_gr_pi, mm_sz_pi, mm_gi_pi, mm_kd_pl, mm_ln_pl, mm_gi_pl, mm_gr_pl, mm_sz_pl, mm_gl_pl, mm_kd_pr, mm_ln_pr, mm_gi_pr, mm_gl_pr, mm_sz_pr, mm_gr_pr, mm_kd_pa, mm_ln_pa, mm_gl_pa, mm_gr_pa, mm_sz_pa, mm_gi_pa]
      have F7z : fx xMz yMr g6 g7 := fx_mo (fun c j q => Or.inr (by unfold xMo xMr xMa xrw xL xrm; omega)) (fun _ q => q.elim) F7
      have F8 : fx xMz yMr h g8 := by rw [eg8]; exact fx_pi (Or.inr (by unfold xMo; omega)) (fx_tr F5 (fx_tr (mr_z F6) F7z))
      have e8' : ∀ c j, ¬ (c = 91 ∧ j = 52) → mm_gi g8 c j = mm_gi g7 c j := fun c j q => by rw [eg8, mm_gi_pi, if_neg q]
      have fx8 : fx xMz yMr gx g8 := by
        rw [eg8]
        refine fx_pi (Or.inr (by unfold xMo; omega)) (fx_tr ?_ (fx_tr (mr_z F6) F7z))
        exact fx_mo (fun c j q => Or.inr (by unfold xMo xMr; omega)) (fun _ q => q.elim) G5
      -- all is as it was
      have z93 : ∀ j, mm_gi g8 93 j = mm_gi gx 93 j := fun j => by
        rw [e8' 93 j (by omega)]
        by_cases q : 5 ≤ j ∧ j < 28
        · have := D93 (j - 5) (by omega)
          rw [show 5 + (j - 5) = j by omega] at this
          rw [this, F6.2.1 96 _ (by unfold xMr xMa xrw xL xrm; omega), eh5, mm_gi_pi, if_neg (by omega), eh4, mm_gi_pi, if_neg (by omega), G3.2.1 96 _ (by omega), G2.2.1 96 _ (by omega), k96 (j - 5) (by omega), show 5 + (j - 5) = j by omega]
        · rw [F7.2.1 93 j (by omega), F6.2.1 93 j (by unfold xMr xMa xrw xL xrm; omega)]
          exact f3 93 j (by omega)
      have z96 : ∀ j, j < 368 → mm_gi g8 96 j = mm_gi gx 96 j := fun j hj => by
        rw [e8' 96 j (by omega), D96 j hj, F6.2.1 98 _ (by unfold xMr xMa xrw xL xrm; omega), eh5, mm_gi_pi, if_neg (by omega), eh4, mm_gi_pi, if_neg (by omega), G3.2.1 98 _ (by omega), D2 j hj]
        exact G1.2.1 96 j (by omega)
      have z97 : ∀ j, j < 16 → mm_gi g8 97 j = mm_gi gx 97 j := fun j hj => by
        rw [e8' 97 j (by omega), D97 j hj, F6.2.1 99 _ (by unfold xMr xMa xrw xL xrm; omega), eh5, mm_gi_pi, if_neg (by omega), eh4, mm_gi_pi, if_neg (by omega), D3 j hj, G2.2.1 97 _ (by omega)]
        exact G1.2.1 97 j (by omega)
      have z8 : mm_gi g8 91 8 = nI nu := by rw [e8' 91 8 (by omega)]; exact D8
      have one : ∀ j, j = 18 ∨ j = 13 ∨ j = 20 → mm_gi g8 91 j = mm_gi gx 91 j := fun j hj => by
        rw [e8' 91 j (by omega), F7.2.1 91 j (by omega), F6.2.1 91 j (by unfold xMr xMa xrw xL xrm; omega)]
        exact f3 91 j (by omega)
      have M8 : MI g8 S A nu te := by
        obtain ⟨q1, q2, q3, q4, q5, q6, q7⟩ := Mx
        have ef : mm_gi g8 93 = mm_gi gx 93 := funext z93
        exact ⟨H8, q2, by rw [ef]; exact q3, by rw [ef]; exact q4, (one 20 (by omega)).trans q5, ⟨z8, fun k hk => MTe_mv (HV_x q2) (z97 k (by omega)) (fun i hi => z96 _ (by omega)) (q6.2 k hk)⟩, q7⟩
      exact k2 N cl i er e6 hi g8 F8 ((one 18 (by omega)).trans Px.1.2.1) ((one 13 (by omega)).trans x13) (by rw [eg8, mm_gi_pi, if_pos ⟨rfl, rfl⟩]) M8
end
