/-! the model's law, all of it -/
def xLw (W c j : Nat) : Prop := xMw c j ∨ xRw W c j ∨ (c = 93 ∧ j = 3)
section
variable {d : Nat} {h g h0 : mmH} {K : Option Value → mmH → Prop} {n : Nat} {t : Nat → Nat} {W : Nat}
theorem cl_wf {p c p' c' : Nat} {x : cDt} (R : CLl n t p c (.inr (p', c', x))) (h0 : x.1 = 0) : ∃ D, x.2.1 = some D := by
  have iff : ∀ {p c kd S1 r}, IFr false n t p c kd S1 none 1 r → r = .inr (p', c', x) → x.1 = kd ∧ x.2.1 = S1 := by
    intro p c kd S1 r H e
    rcases H with ⟨_, H⟩ | ⟨_, ⟨f, _, H⟩ | ⟨p2, c2, D, _, H⟩⟩
    · rw [H] at e; cases e; exact ⟨rfl, rfl⟩
    · rw [H] at e; cases e
    · rw [H] at e; cases e; exact ⟨rfl, rfl⟩
  rcases R with ⟨_, R⟩ | ⟨kd, _, ⟨q, R⟩ | ⟨q, ⟨f, _, R⟩ | ⟨p1, c1, D, _, R⟩⟩⟩
  · cases R
  · exact absurd ((iff R rfl).1.symm.trans h0) q
  · cases R
  · exact ⟨D, (iff R rfl).2⟩
theorem tr_wf : ∀ k i p c cl r, TRx false n t k i p c cl r → ∀ N cl', r = .inr (N, cl') → (∀ j, j < i → (cl j).1 = 0 → ∃ D, (cl j).2.1 = some D) → ∀ j, j < N → (cl' j).1 = 0 → ∃ D, (cl' j).2.1 = some D
  | 0, _, _, _, _, _, R, _, _, _, _ => R.elim
  | k + 1, i, p, c, cl, r, R, N, cl', er, H => by
    rcases R with ⟨f, _, R⟩ | ⟨p', c', x, R, R2⟩
    · rw [R] at er; cases er
    · have Hn : ∀ j, j < i + 1 → (cu cl i x j).1 = 0 → ∃ D, (cu cl i x j).2.1 = some D := by
        intro j hj
        unfold cu
        by_cases q : j = i
        · rw [if_pos q]; exact cl_wf R
        · rw [if_neg q]; exact H j (by omega)
      rcases R2 with ⟨_, e⟩ | ⟨_, _, e⟩ | ⟨_, _, e⟩ | ⟨_, _, R3⟩
      · rw [e] at er; cases er; exact Hn
      · rw [e] at er; cases er
      · rw [e] at er; cases er
      · exact tr_wf k (i + 1) _ _ _ r R3 N cl' er Hn
theorem mlw_of {N y : Nat} {J : jM} {cl : Nat → cDt} {f : Nat → Int32} {ob : Nat} (P : LPo h y J N cl) (wf : ∀ j, j < N → (cl j).1 = 0 → ∃ D, (cl j).2.1 = some D) (e1 : f (ob + 1) = nI N) (e2 : ∀ j, j < 8 * N → f (ob + 2 + j) = mm_gi h 101 j) (e3 : ∀ j, j < y → f (ob + 98 + 2 * j) = mm_gi h 102 j ∧ f (ob + 98 + 2 * j + 1) = mm_gi h 103 j) : MLW f ob (lwOf N cl) := by
  obtain ⟨⟨_, _, _, N12⟩, ⟨_, y4⟩, Wj, C, D⟩ := P
  refine ⟨e1, N12, y, fun i => dec false (J i), y4, fun i hi => ?_, fun i hi => ?_⟩
  · rw [(e3 i hi).1, (e3 i hi).2, (C i hi).1, (C i hi).2]
    exact Wj i hi
  · have hi : i < N := hi
    obtain ⟨d1, d2, d3, d4⟩ := D i hi
    have w : ∀ j, j < 8 → f (ob + 2 + 8 * i + j) = mm_gi h 101 (8 * i + j) := fun j hj => by
      rw [show ob + 2 + 8 * i + j = ob + 2 + (8 * i + j) by omega]
      exact e2 _ (by omega)
    have w0 : f (ob + 2 + 8 * i) = mm_gi h 101 (8 * i) := w 0 (by decide)
    rw [w0, w 3 (by decide), w 4 (by decide), w 5 (by decide), w 6 (by decide)]
    refine ⟨d1, ?_, fun z => ?_⟩
    · show (_ ∧ (match (cl i).2.2.2.2 with | none => fun _ => some 1 | some D => D) = _) ∨ mEx 10 y _ _ _ (match (cl i).2.2.2.2 with | none => fun _ => some 1 | some D => D)
      cases e : (cl i).2.2.2.2 with
      | none => exact Or.inl ⟨d3 e, rfl⟩
      | some D => exact Or.inr (d4 D e)
    · obtain ⟨D, e⟩ := wf i hi z
      show mEx 10 y _ _ _ (match (cl i).2.1 with | none => fun _ => none | some D => D)
      rw [e]
      exact d2 D e
theorem sp_mlaw {r : tRs} (H : WS h) (T : TPM h n t) (w : KW h) (hW : mm_gi h 93 3 = nI W) (hW6 : W < 6) (R : TRx false n t 12 0 0 0 cl0 r) (k0 : ∀ f, r = .inl f → ∀ g, fx xMw yMd h g → mm_gi g 91 18 = nI f → mm_gi g 91 13 = 0 → mm_gi g 91 20 = 0 → K (some (.int (-6))) (tlH g (-6) 6)) (k1 : ∀ N cl, r = .inr (N, cl) → ∀ g, fx (xLw W) yMd h g → mm_gi g 91 18 = -1 → mm_gi g 91 13 = 0 → mm_gi g 91 20 = 0 → mm_gi g 93 3 = nI (W + 1) → MLW (mm_gi g 93) (75 + 900 * W) (lwOf N cl) → K (some (.int (nI W))) (mm_pi g 91 1 0)) : mm_MV q_X10_law (d + 10) (0, 0) [.ref 91] h K := by
  obtain ⟨g0, eg0⟩ : ∃ g0 : mmH, g0 = mm_pi h 91 0 0 := ⟨_, rfl⟩
  have F0 : fx xMw yMd h g0 := by rw [eg0]; exact fx_pi (by unfold xMw; omega) fx_rf
  have H0 := fx_WS F0 H
  have e0 : ∀ c j, ¬ (c = 91 ∧ j = 0) → mm_gi g0 c j = mm_gi h c j := fun c j q => by rw [eg0, mm_gi_pi, if_neg q]
  have W0 : mm_gi g0 93 3 = nI W := (e0 93 3 (by omega)).trans hW
  have T0 : TPM g0 n t := ⟨T.1, (e0 91 13 (by omega)).trans T.2.1, fun i hi => ⟨(T.2.2 i hi).1, (e0 100 i (by omega)).trans (T.2.2 i hi).2⟩⟩
  refine e_X10_law (t_X10_law_0 _ _ _ ?_)
  simp only [s_iadd, s_isub, s_imul, s_iand, s_ior, s_ixor, s_ishl, s_ishr, s_iushr, s_idiv, s_irem, s_ladd, s_lsub, s_lmul, s_ldiv, s_lrem, s_ineg, s_i2l, s_l2i, s_i2c, s_lcmp, s_ic, s_lc, s_nul, s_str, s_il, s_ll, s_al, s_dup, s_dup2, s_pop, s_ifne, s_icne, s_ifeq, s_iflt, s_ifge, s_ifgt, s_ifle, s_iceq, s_iclt, s_icge, s_icgt, s_icle, s_ifnull, s_ifnonnull, s_is, s_ls, s_as, s_ii, s_gi, s_gl, s_gr, s_pi, s_pz, s_pl, s_pr, s_iald, s_zald, s_lald, s_aald, s_alen, s_iast, s_zast, s_last, s_iret, s_zret, s_lret, s_aret, s_vret, s_sw, s_aast, mm_sw, mm_ld, mm_s1, mm_s2, mm_kl, Value.category, va_rf, List.nil_append, List.cons_append, Option.toList, true_and, and_true, and_self, true_or, or_true, eq_self, not_true_eq_false, false_implies, true_implies, not_false_eq_true, mm_10, mm_01, false_or, or_false, Nat.left_eq_add, Nat.add_eq_left, Nat.add_left_cancel_iff, Nat.reduceEqDiff, false_and, and_false, reduceIte, mm_kd_pi, mm_ln_pi, mm_gl_pi, mm_gr_pi, mm_sz_pi, mm_gi_pi, mm_kd_pl, mm_ln_pl, mm_gi_pl, mm_gr_pl, mm_sz_pl, mm_gl_pl, mm_kd_pr, mm_ln_pr, mm_gi_pr, mm_gl_pr, mm_sz_pr, mm_gr_pr, mm_kd_pa, mm_ln_pa, mm_gl_pa, mm_gr_pa, mm_sz_pa, mm_gi_pa, W_kd_91 H, W_s_91 H, W_gr_91_2 H, W_gr_91_3 H, W_gr_91_4 H, W_gr_91_5 H, W_gr_91_6 H, W_gr_91_7 H, W_gr_91_9 H, W_gr_91_10 H, W_gr_91_12 H, W_gr_91_22 H, W_gr_91_24 H, W_gr_91_25 H, W_gr_91_27 H, W_gr_91_28 H, W_gr_91_31 H, W_gr_91_32 H, W_gr_91_33 H, W_gr_91_35 H, W_gr_91_36 H, W_gr_91_37 H, W_gr_91_41 H, W_gr_91_42 H, W_gr_91_43 H, W_gr_91_44 H, W_gr_91_45 H, W_gr_91_46 H, W_gr_91_47 H, W_gr_91_48 H, W_gr_91_49 H, W_gr_91_55 H, ← eg0, W_kd_91 H0, W_s_91 H0, W_gr_91_2 H0, W_gr_91_3 H0, W_gr_91_4 H0, W_gr_91_5 H0, W_gr_91_6 H0, W_gr_91_7 H0, W_gr_91_9 H0, W_gr_91_10 H0, W_gr_91_12 H0, W_gr_91_22 H0, W_gr_91_24 H0, W_gr_91_25 H0, W_gr_91_27 H0, W_gr_91_28 H0, W_gr_91_31 H0, W_gr_91_32 H0, W_gr_91_33 H0, W_gr_91_35 H0, W_gr_91_36 H0, W_gr_91_37 H0, W_gr_91_41 H0, W_gr_91_42 H0, W_gr_91_43 H0, W_gr_91_44 H0, W_gr_91_45 H0, W_gr_91_46 H0, W_gr_91_47 H0, W_gr_91_48 H0, W_gr_91_49 H0, W_gr_91_55 H0, W_kd_93 H0, W_s_93 H0, W_ln_93 H0, show (3 : Int32).toNatClampNeg = 3 from rfl, show vp_in (3 : Int32) 5475 from vp_in_nI (n := 3) (by decide) (by decide), W0, show (nI W = 6) = False from eq_false (fun q => by have := (nI_eq (b := 6) (by omega) (by decide)).mp q; omega)]
  refine c_X10_law_30 (bb := (0, 0)) (b := (0, 0)) (Nat.le_of_ble_eq_true rfl) ⟨rfl, rfl⟩ (W_kd_91 H0) (W_s_91 H0) (sp_mbegin (d := d + 6) (o := false) H0 T0 (KW_mw F0 w) (fun g1 F1 a0 M1 b1 n1 => ?_))
  have H1 := M1.1.1
  have F01 := fx_tr F0 F1
  refine t_X10_law_33 _ _ _ ?_
  simp only [s_iadd, s_isub, s_imul, s_iand, s_ior, s_ixor, s_ishl, s_ishr, s_iushr, s_idiv, s_irem, s_ladd, s_lsub, s_lmul, s_ldiv, s_lrem, s_ineg, s_i2l, s_l2i, s_i2c, s_lcmp, s_ic, s_lc, s_nul, s_str, s_il, s_ll, s_al, s_dup, s_dup2, s_pop, s_ifne, s_icne, s_ifeq, s_iflt, s_ifge, s_ifgt, s_ifle, s_iceq, s_iclt, s_icge, s_icgt, s_icle, s_ifnull, s_ifnonnull, s_is, s_ls, s_as, s_ii, s_gi, s_gl, s_gr, s_pi, s_pz, s_pl, s_pr, s_iald, s_zald, s_lald, s_aald, s_alen, s_iast, s_zast, s_last, s_iret, s_zret, s_lret, s_aret, s_vret, s_sw, s_aast, mm_sw, mm_ld, mm_s1, mm_s2, mm_kl, Value.category, va_rf, List.nil_append, List.cons_append, Option.toList, true_and, and_true, and_self, true_or, or_true, eq_self, not_true_eq_false, false_implies, true_implies, not_false_eq_true, mm_10, mm_01, false_or, or_false, Nat.left_eq_add, Nat.add_eq_left, Nat.add_left_cancel_iff, Nat.reduceEqDiff, false_and, and_false, reduceIte, mm_kd_pi, mm_ln_pi, mm_gl_pi, mm_gr_pi, mm_sz_pi, mm_gi_pi, mm_kd_pl, mm_ln_pl, mm_gi_pl, mm_gr_pl, mm_sz_pl, mm_gl_pl, mm_kd_pr, mm_ln_pr, mm_gi_pr, mm_gl_pr, mm_sz_pr, mm_gr_pr, mm_kd_pa, mm_ln_pa, mm_gl_pa, mm_gr_pa, mm_sz_pa, mm_gi_pa]
  have MT : MTl n t g1 0 0 0 (fun _ => (0, 0)) 0 cl0 := ⟨M1, b1, Nat.le_refl _, fun i hi => by omega, ⟨n1, by decide⟩, fun k hk => by omega⟩
  refine c_X10_law_34 (bb := (0, 0)) (b := (0, 0)) (Nat.le_of_ble_eq_true rfl) ⟨rfl, rfl⟩ (W_kd_91 H1) (W_s_91 H1) (mm_MV.mono (fun v g q => ?_) (lw_run (d := d) (h0 := g1) (r := r) (K := K) ?_ ?_ 11 0 g1 0 0 0 _ cl0 rfl MT fx_rf R))
  · obtain ⟨rfl, q⟩ := q
    exact q
  · intro f er g F b f'
    have Hg := fx_WS F H1
    have Hx : WS (xEd g) := WS_pi (WS_pi Hg)
    have Fx : fx xMw yMd h (xEd g) := by unfold xEd; exact fx_pi (by unfold xMw; omega) (fx_pi (by unfold xMw; omega) (fx_tr F01 (mt_mw F)))
    have bx : mm_gi (xEd g) 91 19 = 1 := by rw [xEd_gi, if_neg (by omega), if_neg (by omega)]; exact b
    refine t_X10_law_68 _ _ _ ?_
    simp only [s_iadd, s_isub, s_imul, s_iand, s_ior, s_ixor, s_ishl, s_ishr, s_iushr, s_idiv, s_irem, s_ladd, s_lsub, s_lmul, s_ldiv, s_lrem, s_ineg, s_i2l, s_l2i, s_i2c, s_lcmp, s_ic, s_lc, s_nul, s_str, s_il, s_ll, s_al, s_dup, s_dup2, s_pop, s_ifne, s_icne, s_ifeq, s_iflt, s_ifge, s_ifgt, s_ifle, s_iceq, s_iclt, s_icge, s_icgt, s_icle, s_ifnull, s_ifnonnull, s_is, s_ls, s_as, s_ii, s_gi, s_gl, s_gr, s_pi, s_pz, s_pl, s_pr, s_iald, s_zald, s_lald, s_aald, s_alen, s_iast, s_zast, s_last, s_iret, s_zret, s_lret, s_aret, s_vret, s_sw, s_aast, mm_sw, mm_ld, mm_s1, mm_s2, mm_kl, Value.category, va_rf, List.nil_append, List.cons_append, Option.toList, true_and, and_true, and_self, true_or, or_true, eq_self, not_true_eq_false, false_implies, true_implies, not_false_eq_true, mm_10, mm_01, false_or, or_false, Nat.left_eq_add, Nat.add_eq_left, Nat.add_left_cancel_iff, Nat.reduceEqDiff, false_and, and_false, reduceIte, mm_kd_pi, mm_ln_pi, mm_gl_pi, mm_gr_pi, mm_sz_pi, mm_gi_pi, mm_kd_pl, mm_ln_pl, mm_gi_pl, mm_gr_pl, mm_sz_pl, mm_gl_pl, mm_kd_pr, mm_ln_pr, mm_gi_pr, mm_gl_pr, mm_sz_pr, mm_gr_pr, mm_kd_pa, mm_ln_pa, mm_gl_pa, mm_gr_pa, mm_sz_pa, mm_gi_pa, W_kd_91 Hx, W_s_91 Hx, W_gr_91_2 Hx, W_gr_91_3 Hx, W_gr_91_4 Hx, W_gr_91_5 Hx, W_gr_91_6 Hx, W_gr_91_7 Hx, W_gr_91_9 Hx, W_gr_91_10 Hx, W_gr_91_12 Hx, W_gr_91_22 Hx, W_gr_91_24 Hx, W_gr_91_25 Hx, W_gr_91_27 Hx, W_gr_91_28 Hx, W_gr_91_31 Hx, W_gr_91_32 Hx, W_gr_91_33 Hx, W_gr_91_35 Hx, W_gr_91_36 Hx, W_gr_91_37 Hx, W_gr_91_41 Hx, W_gr_91_42 Hx, W_gr_91_43 Hx, W_gr_91_44 Hx, W_gr_91_45 Hx, W_gr_91_46 Hx, W_gr_91_47 Hx, W_gr_91_48 Hx, W_gr_91_49 Hx, W_gr_91_55 Hx, bx, show ((1 : Int32) = 0) = False by decide]
    refine c_X10_law_78 (bb := (0, 0)) (b := (0, 0)) (Nat.le_of_ble_eq_true rfl) ⟨rfl, rfl⟩ (W_kd_91 Hx) (W_s_91 Hx) (sp_tell_no (r := -6) (p := 6) Hx (by simp) ?_)
    refine t_X10_law_81 _ _ _ ?_
    simp only [s_iadd, s_isub, s_imul, s_iand, s_ior, s_ixor, s_ishl, s_ishr, s_iushr, s_idiv, s_irem, s_ladd, s_lsub, s_lmul, s_ldiv, s_lrem, s_ineg, s_i2l, s_l2i, s_i2c, s_lcmp, s_ic, s_lc, s_nul, s_str, s_il, s_ll, s_al, s_dup, s_dup2, s_pop, s_ifne, s_icne, s_ifeq, s_iflt, s_ifge, s_ifgt, s_ifle, s_iceq, s_iclt, s_icge, s_icgt, s_icle, s_ifnull, s_ifnonnull, s_is, s_ls, s_as, s_ii, s_gi, s_gl, s_gr, s_pi, s_pz, s_pl, s_pr, s_iald, s_zald, s_lald, s_aald, s_alen, s_iast, s_zast, s_last, s_iret, s_zret, s_lret, s_aret, s_vret, s_sw, s_aast, mm_sw, mm_ld, mm_s1, mm_s2, mm_kl, Value.category, va_rf, List.nil_append, List.cons_append, Option.toList, true_and, and_true, and_self, true_or, or_true, eq_self, not_true_eq_false, false_implies, true_implies, not_false_eq_true, mm_10, mm_01, false_or, or_false, Nat.left_eq_add, Nat.add_eq_left, Nat.add_left_cancel_iff, Nat.reduceEqDiff, false_and, and_false, reduceIte, mm_kd_pi, mm_ln_pi, mm_gl_pi, mm_gr_pi, mm_sz_pi, mm_gi_pi, mm_kd_pl, mm_ln_pl, mm_gi_pl, mm_gr_pl, mm_sz_pl, mm_gl_pl, mm_kd_pr, mm_ln_pr, mm_gi_pr, mm_gl_pr, mm_sz_pr, mm_gr_pr, mm_kd_pa, mm_ln_pa, mm_gl_pa, mm_gr_pa, mm_sz_pa, mm_gi_pa]
    exact k0 f er _ Fx (by rw [xEd_gi, if_neg (by omega), if_neg (by omega)]; exact f') (by rw [xEd_gi, if_pos ⟨rfl, rfl⟩]) (by rw [xEd_gi, if_neg (by omega), if_pos ⟨rfl, rfl⟩])
  · intro N cl er g y J F P
    have wf := tr_wf _ _ _ _ _ _ R N cl er (fun j hj => by omega)
    have Hg := fx_WS F H1
    have Hx : WS (xEd g) := WS_pi (WS_pi Hg)
    have Fx : fx xMw yMd h (xEd g) := by unfold xEd; exact fx_pi (by unfold xMw; omega) (fx_pi (by unfold xMw; omega) (fx_tr F01 (mt_mw F)))
    have Px : LPo (xEd g) y J N cl := LPo_cg (fun c j q => by rw [xEd_gi, if_neg (by omega), if_neg (by omega)]) P
    have x13 : mm_gi (xEd g) 91 13 = 0 := by rw [xEd_gi, if_pos ⟨rfl, rfl⟩]
    have x20 : mm_gi (xEd g) 91 20 = 0 := by rw [xEd_gi, if_neg (by omega), if_pos ⟨rfl, rfl⟩]
    have Wx : mm_gi (xEd g) 93 3 = nI W := (Fx.2.1 93 3 (by unfold xMw xMt xMd; omega)).trans hW
    generalize xEd g = gx at Hx Fx Px x13 x20 Wx ⊢
    obtain ⟨⟨p1, p2, p3, p4⟩, ⟨p5, p6⟩, p7, p8, p9⟩ := id Px
    obtain ⟨h1, eh1⟩ : ∃ h1 : mmH, h1 = mm_pi gx 93 (75 + 900 * W + 1) (nI N) := ⟨_, rfl⟩
    have G1 : fx (xLw W) yMd h h1 := by rw [eh1]; exact fx_pi (by unfold xLw xRw; omega) (fx_mo (fun _ _ q => Or.inl q) (fun _ q => q) Fx)
    have Hh1 := fx_WS G1 H
    have q1 : ∀ c j, ¬ (c = 93 ∧ j = 75 + 900 * W + 1) → mm_gi h1 c j = mm_gi gx c j := fun c j q => by rw [eh1, mm_gi_pi, if_neg q]
    refine t_X10_law_68 _ _ _ ?_
    simp only [s_iadd, s_isub, s_imul, s_iand, s_ior, s_ixor, s_ishl, s_ishr, s_iushr, s_idiv, s_irem, s_ladd, s_lsub, s_lmul, s_ldiv, s_lrem, s_ineg, s_i2l, s_l2i, s_i2c, s_lcmp, s_ic, s_lc, s_nul, s_str, s_il, s_ll, s_al, s_dup, s_dup2, s_pop, s_ifne, s_icne, s_ifeq, s_iflt, s_ifge, s_ifgt, s_ifle, s_iceq, s_iclt, s_icge, s_icgt, s_icle, s_ifnull, s_ifnonnull, s_is, s_ls, s_as, s_ii, s_gi, s_gl, s_gr, s_pi, s_pz, s_pl, s_pr, s_iald, s_zald, s_lald, s_aald, s_alen, s_iast, s_zast, s_last, s_iret, s_zret, s_lret, s_aret, s_vret, s_sw, s_aast, mm_sw, mm_ld, mm_s1, mm_s2, mm_kl, Value.category, va_rf, List.nil_append, List.cons_append, Option.toList, true_and, and_true, and_self, true_or, or_true, eq_self, not_true_eq_false, false_implies, true_implies, not_false_eq_true, mm_10, mm_01, false_or, or_false, Nat.left_eq_add, Nat.add_eq_left, Nat.add_left_cancel_iff, Nat.reduceEqDiff, false_and, and_false, reduceIte, mm_kd_pi, mm_ln_pi, mm_gl_pi, mm_gr_pi, mm_sz_pi, mm_gi_pi, mm_kd_pl, mm_ln_pl, mm_gi_pl, mm_gr_pl, mm_sz_pl, mm_gl_pl, mm_kd_pr, mm_ln_pr, mm_gi_pr, mm_gl_pr, mm_sz_pr, mm_gr_pr, mm_kd_pa, mm_ln_pa, mm_gl_pa, mm_gr_pa, mm_sz_pa, mm_gi_pa, W_kd_91 Hx, W_s_91 Hx, W_gr_91_2 Hx, W_gr_91_3 Hx, W_gr_91_4 Hx, W_gr_91_5 Hx, W_gr_91_6 Hx, W_gr_91_7 Hx, W_gr_91_9 Hx, W_gr_91_10 Hx, W_gr_91_12 Hx, W_gr_91_22 Hx, W_gr_91_24 Hx, W_gr_91_25 Hx, W_gr_91_27 Hx, W_gr_91_28 Hx, W_gr_91_31 Hx, W_gr_91_32 Hx, W_gr_91_33 Hx, W_gr_91_35 Hx, W_gr_91_36 Hx, W_gr_91_37 Hx, W_gr_91_41 Hx, W_gr_91_42 Hx, W_gr_91_43 Hx, W_gr_91_44 Hx, W_gr_91_45 Hx, W_gr_91_46 Hx, W_gr_91_47 Hx, W_gr_91_48 Hx, W_gr_91_49 Hx, W_gr_91_55 Hx, W_kd_93 Hx, W_s_93 Hx, W_ln_93 Hx, p1, show (3 : Int32).toNatClampNeg = 3 from rfl, show vp_in (3 : Int32) 5475 from vp_in_nI (n := 3) (by decide) (by decide), Wx, show (900 : Int32) * nI W = nI (900 * W) from pk_mul 900 W, show (75 : Int32) + nI (900 * W) = nI (75 + 900 * W) from nI_add 75 _, nI_1, nI_clamp (show 75 + 900 * W + 1 < 2 ^ 31 by omega), vp_in_nI (show 75 + 900 * W + 1 < 5475 by omega) (show 5475 < 2 ^ 31 by decide), p3, ← eh1]
    refine lp_c1 Hh1 hW6 ((q1 91 21 (by omega)).trans p3) p4 (fun h2 F2 a2 D2 => ?_) (8 * N) 0 h1 (by omega) fx_rf rfl (fun j hj => by omega)
    have Hh2 := fx_WS F2 Hh1
    have q2 : ∀ c j, c ≠ 93 → mm_gi h2 c j = mm_gi gx c j := fun c j q => (F2.2.1 c j (by unfold xRw; omega)).trans (q1 c j (by omega))
    refine lp_c2 Hh2 hW6 ((q2 91 23 (by omega)).trans p5) p6 (fun h3 F3 a3 D3 => ?_) y 0 h2 (by omega) fx_rf (fun _ _ => rfl) (fun j hj => by omega)
    have Hh3 := fx_WS F3 Hh2
    have q3 : ∀ c j, c ≠ 93 → mm_gi h3 c j = mm_gi gx c j := fun c j q => (F3.2.1 c j (by unfold xRw; omega)).trans (q2 c j q)
    have rw3 : ∀ {a b : mmH}, fx (xRw W) y0 a b → fx (xLw W) yMd a b := fun F => fx_mo (fun _ _ q => Or.inr (Or.inl q)) (fun _ q => q.elim) F
    have W3 : mm_gi h3 93 3 = nI W := by rw [F3.2.1 93 3 (by unfold xRw; omega), F2.2.1 93 3 (by unfold xRw; omega), q1 93 3 (by omega)]; exact Wx
    obtain ⟨h4, eh4⟩ : ∃ h4 : mmH, h4 = mm_pi h3 93 3 (nI (W + 1)) := ⟨_, rfl⟩
    have G4 : fx (xLw W) yMd h h4 := by rw [eh4]; exact fx_pi (by unfold xLw; omega) (fx_tr G1 (fx_tr (rw3 F2) (rw3 F3)))
    have Hh4 := fx_WS G4 H
    have W4 : mm_gi h4 93 3 = nI (W + 1) := by rw [eh4, mm_gi_pi, if_pos ⟨rfl, rfl⟩]
    have y3 : mm_gi h3 91 23 = nI y := (q3 91 23 (by omega)).trans p5
    refine t_X10_law_145 _ _ _ ?_
    simp only [s_iadd, s_isub, s_imul, s_iand, s_ior, s_ixor, s_ishl, s_ishr, s_iushr, s_idiv, s_irem, s_ladd, s_lsub, s_lmul, s_ldiv, s_lrem, s_ineg, s_i2l, s_l2i, s_i2c, s_lcmp, s_ic, s_lc, s_nul, s_str, s_il, s_ll, s_al, s_dup, s_dup2, s_pop, s_ifne, s_icne, s_ifeq, s_iflt, s_ifge, s_ifgt, s_ifle, s_iceq, s_iclt, s_icge, s_icgt, s_icle, s_ifnull, s_ifnonnull, s_is, s_ls, s_as, s_ii, s_gi, s_gl, s_gr, s_pi, s_pz, s_pl, s_pr, s_iald, s_zald, s_lald, s_aald, s_alen, s_iast, s_zast, s_last, s_iret, s_zret, s_lret, s_aret, s_vret, s_sw, s_aast, mm_sw, mm_ld, mm_s1, mm_s2, mm_kl, Value.category, va_rf, List.nil_append, List.cons_append, Option.toList, true_and, and_true, and_self, true_or, or_true, eq_self, not_true_eq_false, false_implies, true_implies, not_false_eq_true, mm_10, mm_01, false_or, or_false, Nat.left_eq_add, Nat.add_eq_left, Nat.add_left_cancel_iff, Nat.reduceEqDiff, false_and, and_false, reduceIte, mm_kd_pi, mm_ln_pi, mm_gl_pi, mm_gr_pi, mm_sz_pi, mm_gi_pi, mm_kd_pl, mm_ln_pl, mm_gi_pl, mm_gr_pl, mm_sz_pl, mm_gl_pl, mm_kd_pr, mm_ln_pr, mm_gi_pr, mm_gl_pr, mm_sz_pr, mm_gr_pr, mm_kd_pa, mm_ln_pa, mm_gl_pa, mm_gr_pa, mm_sz_pa, mm_gi_pa, W_kd_91 Hh3, W_s_91 Hh3, W_gr_91_2 Hh3, W_gr_91_3 Hh3, W_gr_91_4 Hh3, W_gr_91_5 Hh3, W_gr_91_6 Hh3, W_gr_91_7 Hh3, W_gr_91_9 Hh3, W_gr_91_10 Hh3, W_gr_91_12 Hh3, W_gr_91_22 Hh3, W_gr_91_24 Hh3, W_gr_91_25 Hh3, W_gr_91_27 Hh3, W_gr_91_28 Hh3, W_gr_91_31 Hh3, W_gr_91_32 Hh3, W_gr_91_33 Hh3, W_gr_91_35 Hh3, W_gr_91_36 Hh3, W_gr_91_37 Hh3, W_gr_91_41 Hh3, W_gr_91_42 Hh3, W_gr_91_43 Hh3, W_gr_91_44 Hh3, W_gr_91_45 Hh3, W_gr_91_46 Hh3, W_gr_91_47 Hh3, W_gr_91_48 Hh3, W_gr_91_49 Hh3, W_gr_91_55 Hh3, W_kd_93 Hh3, W_s_93 Hh3, W_ln_93 Hh3, y3, eq_true (nI_le (Nat.le_refl y) (show y < 2 ^ 31 by omega)), show (3 : Int32).toNatClampNeg = 3 from rfl, show vp_in (3 : Int32) 5475 from vp_in_nI (n := 3) (by decide) (by decide), W3, nI_1, ← eh4, W_kd_91 Hh4, W_s_91 Hh4, W_gr_91_2 Hh4, W_gr_91_3 Hh4, W_gr_91_4 Hh4, W_gr_91_5 Hh4, W_gr_91_6 Hh4, W_gr_91_7 Hh4, W_gr_91_9 Hh4, W_gr_91_10 Hh4, W_gr_91_12 Hh4, W_gr_91_22 Hh4, W_gr_91_24 Hh4, W_gr_91_25 Hh4, W_gr_91_27 Hh4, W_gr_91_28 Hh4, W_gr_91_31 Hh4, W_gr_91_32 Hh4, W_gr_91_33 Hh4, W_gr_91_35 Hh4, W_gr_91_36 Hh4, W_gr_91_37 Hh4, W_gr_91_41 Hh4, W_gr_91_42 Hh4, W_gr_91_43 Hh4, W_gr_91_44 Hh4, W_gr_91_45 Hh4, W_gr_91_46 Hh4, W_gr_91_47 Hh4, W_gr_91_48 Hh4, W_gr_91_49 Hh4, W_gr_91_55 Hh4, W_kd_93 Hh4, W_s_93 Hh4, W_ln_93 Hh4, W4, nI_pr]
    refine c_X10_law_218 (bb := (0, 0)) (b := (0, 0)) (Nat.le_of_ble_eq_true rfl) ⟨rfl, rfl⟩ (W_kd_91 Hh4) (W_s_91 Hh4) (sp_tell_ok Hh4 (nI_pos' (by omega)) ?_)
    refine t_X10_law_221 _ _ _ ?_
    simp only [s_iadd, s_isub, s_imul, s_iand, s_ior, s_ixor, s_ishl, s_ishr, s_iushr, s_idiv, s_irem, s_ladd, s_lsub, s_lmul, s_ldiv, s_lrem, s_ineg, s_i2l, s_l2i, s_i2c, s_lcmp, s_ic, s_lc, s_nul, s_str, s_il, s_ll, s_al, s_dup, s_dup2, s_pop, s_ifne, s_icne, s_ifeq, s_iflt, s_ifge, s_ifgt, s_ifle, s_iceq, s_iclt, s_icge, s_icgt, s_icle, s_ifnull, s_ifnonnull, s_is, s_ls, s_as, s_ii, s_gi, s_gl, s_gr, s_pi, s_pz, s_pl, s_pr, s_iald, s_zald, s_lald, s_aald, s_alen, s_iast, s_zast, s_last, s_iret, s_zret, s_lret, s_aret, s_vret, s_sw, s_aast, mm_sw, mm_ld, mm_s1, mm_s2, mm_kl, Value.category, va_rf, List.nil_append, List.cons_append, Option.toList, true_and, and_true, and_self, true_or, or_true, eq_self, not_true_eq_false, false_implies, true_implies, not_false_eq_true, mm_10, mm_01, false_or, or_false, Nat.left_eq_add, Nat.add_eq_left, Nat.add_left_cancel_iff, Nat.reduceEqDiff, false_and, and_false, reduceIte, mm_kd_pi, mm_ln_pi, mm_gl_pi, mm_gr_pi, mm_sz_pi, mm_gi_pi, mm_kd_pl, mm_ln_pl, mm_gi_pl, mm_gr_pl, mm_sz_pl, mm_gl_pl, mm_kd_pr, mm_ln_pr, mm_gi_pr, mm_gl_pr, mm_sz_pr, mm_gr_pr, mm_kd_pa, mm_ln_pa, mm_gl_pa, mm_gr_pa, mm_sz_pa, mm_gi_pa]
    have q4 : ∀ c j, ¬ (c = 93 ∧ j = 3) → mm_gi h4 c j = mm_gi h3 c j := fun c j q => by rw [eh4, mm_gi_pi, if_neg q]
    refine k1 N cl er h4 G4 ?_ ?_ ?_ W4 (mlw_of Px wf ?_ (fun j hj => ?_) (fun j hj => ?_))
    · rw [q4 91 18 (by omega), q3 91 18 (by omega)]; exact p2
    · rw [q4 91 13 (by omega), q3 91 13 (by omega)]; exact x13
    · rw [q4 91 20 (by omega), q3 91 20 (by omega)]; exact x20
    · rw [q4 93 _ (by omega), a3 1 (by decide), a2, eh1, mm_gi_pi, if_pos ⟨rfl, rfl⟩]
    · rw [q4 93 _ (by omega), show 75 + 900 * W + 2 + j = 75 + 900 * W + (2 + j) by omega, a3 (2 + j) (by omega), show 75 + 900 * W + (2 + j) = 75 + 900 * W + 2 + j by omega, D2 j hj]
      exact q1 101 j (by omega)
    · rw [q4 93 _ (by omega), q4 93 _ (by omega), (D3 j hj).1, (D3 j hj).2, q2 102 j (by omega), q2 103 j (by omega)]
      exact ⟨rfl, rfl⟩
end
