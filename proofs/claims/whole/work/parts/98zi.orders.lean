/-! orders: the pair -/
section
variable {h g k : mmH} {A : Option lwD} {n : Nat} {t : Nat → Nat}
theorem clo_wf {p c p' c' : Nat} {x : cDt} (R : CLo n t p c (.inr (p', c', x))) : WFo x := by
  have iff : ∀ {p c kd S1 S2 tm r}, IFr true n t p c kd S1 S2 tm r → r = .inr (p', c', x) → x.1 = kd ∧ x.2.1 = S1 ∧ x.2.2.1 = S2 := by
    intro p c kd S1 S2 tm r H e
    rcases H with ⟨_, H⟩ | ⟨_, ⟨f, _, H⟩ | ⟨p2, c2, D, _, H⟩⟩
    · rw [H] at e; cases e; exact ⟨rfl, rfl, rfl⟩
    · rw [H] at e; cases e
    · rw [H] at e; cases e; exact ⟨rfl, rfl, rfl⟩
  have tmf : ∀ {p c kd S1 S2}, TMr n t p c kd S1 S2 (.inr (p', c', x)) → x.1 = kd ∧ x.2.1 = S1 ∧ x.2.2.1 = S2 := by
    intro p c kd S1 S2 H
    rcases H with ⟨_, H⟩ | ⟨_, ⟨_, H⟩ | ⟨_, H⟩⟩
    · exact iff H rfl
    · cases H
    · exact iff H rfl
  rcases R with ⟨_, R⟩ | ⟨kd, _, ⟨q, R⟩ | ⟨q, ⟨f, _, R⟩ | ⟨p1, c1, D1, _, ⟨_, R⟩ | ⟨_, ⟨f, _, R⟩ | ⟨p2, c2, D2, _, R⟩⟩⟩⟩⟩
  · cases R
  · obtain ⟨e1, e2, e3⟩ := tmf R
    exact ⟨fun _ => ⟨e2, e3⟩, fun u => absurd (e1.trans q) u⟩
  · cases R
  · cases R
  · cases R
  · obtain ⟨e1, e2, e3⟩ := tmf R
    exact ⟨fun u => absurd (e1.symm.trans u) q, fun _ => ⟨D1, D2, e2, e3⟩⟩
theorem tr_wfo : ∀ k i p c cl r, TRx true n t k i p c cl r → ∀ N cl', r = .inr (N, cl') → (∀ j, j < i → WFo (cl j)) → ∀ j, j < N → WFo (cl' j)
  | 0, _, _, _, _, _, R, _, _, _, _ => R.elim
  | k + 1, i, p, c, cl, r, R, N, cl', er, H => by
    rcases R with ⟨f, _, R⟩ | ⟨p', c', x, R, R2⟩
    · rw [R] at er; cases er
    · have Hn : ∀ j, j < i + 1 → WFo (cu cl i x j) := by
        intro j hj
        unfold cu
        by_cases q : j = i
        · rw [if_pos q]; exact clo_wf R
        · rw [if_neg q]; exact H j (by omega)
      rcases R2 with ⟨_, e⟩ | ⟨_, _, e⟩ | ⟨_, _, e⟩ | ⟨_, _, R3⟩
      · rw [e] at er; cases er; exact Hn
      · rw [e] at er; cases er
      · rw [e] at er; cases er
      · exact tr_wfo k (i + 1) _ _ _ r R3 N cl' er Hn
/-- what a run keeps -/
def KP (S : HSt) (s : oS) : Prop := HV s.1 ∧ TV s.1 s.2.1 s.2.2.1 ∧ sameC S s.1
theorem on_kp {S : HSt} {x : cDt} {s s' : oS} (hk : x.1 < 4) (H : KP S s) (R : ONx A x s (some s')) : KP S s' := by
  rcases R with ⟨_, e⟩ | ⟨_, ⟨_, _, e⟩ | ⟨_, _, _, ⟨_, e⟩ | ⟨p, q, ok, e⟩⟩⟩
  · cases e; exact H
  · cases e
  · cases e
  · cases e
    exact ⟨HV_dS hk H.1 ok, TV_c (sameC_dS hk) (TV_psh H.1 hk H.2.1), sameC_tr H.2.2 (sameC_dS hk)⟩
theorem ort_kp {S : HSt} {x : cDt} (hk : x.1 < 4) : ∀ m s s', KP S s → ORt A x m s (some s') → KP S s'
  | 0, s, s', H, R => by cases R; exact H
  | m + 1, s, s', H, R => by
    rcases R with ⟨_, e⟩ | ⟨s2, R, R2⟩
    · cases e
    · exact ort_kp hk m s2 s' (on_kp hk H R) R2
theorem orc_kp {S : HSt} {cl : Nat → cDt} : ∀ k i s s', (∀ j, i ≤ j → j < i + k → (cl j).1 < 4) → KP S s → ORc A cl k i s (.inr s') → KP S s'
  | 0, i, s, s', _, H, R => by cases R; exact H
  | k + 1, i, s, s', hk, H, R => by
    rcases R with ⟨_, e⟩ | ⟨s2, R, R2⟩
    · cases e
    · exact orc_kp k (i + 1) s2 s' (fun j j1 j2 => hk j (by omega) (by omega)) (ort_kp (hk i (by omega) (by omega)) _ _ _ H R) R2
theorem KW_q (a : OQ h g) (w : KW h) : KW g := by
  unfold KW at w ⊢
  rw [a.2.2.2.2.2 106 (by decide) (by decide) (by decide) (by decide), a.2.2.2.2.2 107 (by decide) (by decide) (by decide) (by decide), a.2.2.2.2.2 108 (by decide) (by decide) (by decide) (by decide), a.2.2.2.2.2 118 (by decide) (by decide) (by decide) (by decide), a.2.2.2.2.2 119 (by decide) (by decide) (by decide) (by decide)]
  exact w
/-- the class's cells -/
def xCl (c j : Nat) : Prop := (c = 0 ∧ j ≠ 14) ∨ c = 2 ∨ c = 3 ∨ (4 ≤ c ∧ c ≤ 13) ∨ (15 ≤ c ∧ c ≤ 24) ∨ (50 ≤ c ∧ c ≤ 53) ∨ (c = 54 ∧ j = 1) ∨ (56 ≤ c ∧ c ≤ 65) ∨ c = 90
theorem MI_cl {S : HSt} {nu : Nat} {te : Nat → tEn} (a : OQ h g) (e : ∀ c j, ¬ xCl c j → mm_gi g c j = mm_gi h c j) (M : MI h S A nu te) : MI g S A nu te :=
  MI_q a (fun j => e 93 j (by unfold xCl; omega)) ((e 91 20 (by unfold xCl; omega)).trans M.2.2.2.2.1) (e 91 8 (by unfold xCl; omega)) (fun j _ => e 96 j (by unfold xCl; omega)) (fun j => e 97 j (by unfold xCl; omega)) M
theorem op_11 : OP_11 (Inv LRw) := by
  intro h hI
  obtain ⟨S, A, nu, te, C, M, tv, hl⟩ := AI_of hI
  obtain ⟨H, mi, tp, -, -, -, -, ⟨l15, -⟩, co⟩ := id hI
  obtain ⟨⟨mi1, mi2, mi3, mi4⟩, mi5, mi6, mi7, mi8, mi9⟩ := id mi
  obtain ⟨n, t, T1, T2⟩ := tape_of tp
  have kw := KW_of co
  have v := C.2.1
  obtain ⟨h0, eh0⟩ : ∃ h0 : mmH, h0 = mm_pi h 0 13 (-1) := ⟨_, rfl⟩
  have a0 : OQ h h0 := by rw [eh0]; exact OQ_pi (by unfold xOr; omega)
  have H0 : WS h0 := OQ_WS a0 H
  have e0 : ∀ c j, ¬ (c = 0 ∧ j = 13) → mm_gi h0 c j = mm_gi h c j := fun c j q => by rw [eh0, mm_gi_pi, if_neg q]
  have T0 : TPE h0 n t := ⟨T1.1, (e0 54 1 (by omega)).trans T1.2.1, fun i hi => ⟨(T1.2.2 i hi).1, (e0 55 i (by omega)).trans (T1.2.2 i hi).2⟩⟩
  have rt : ∀ {a b : mmH}, fx xRt y0 a b → OQ a b := fun F => OQ_fx F (fun c j q => by unfold xRt at q; unfold xOr; omega) (fun _ q => q.elim)
  refine e_X9_orders (t_X9_orders_0 _ _ _ ?_)
  simp only [s_iadd, s_isub, s_imul, s_iand, s_ior, s_ixor, s_ishl, s_ishr, s_iushr, s_idiv, s_irem, s_ladd, s_lsub, s_lmul, s_ldiv, s_lrem, s_ineg, s_i2l, s_l2i, s_i2c, s_lcmp, s_ic, s_lc, s_nul, s_str, s_il, s_ll, s_al, s_dup, s_dup2, s_pop, s_ifne, s_icne, s_ifeq, s_iflt, s_ifge, s_ifgt, s_ifle, s_iceq, s_iclt, s_icge, s_icgt, s_icle, s_ifnull, s_ifnonnull, s_is, s_ls, s_as, s_ii, s_gi, s_gl, s_gr, s_pi, s_pz, s_pl, s_pr, s_iald, s_zald, s_lald, s_aald, s_alen, s_iast, s_zast, s_last, s_iret, s_zret, s_lret, s_aret, s_vret, s_sw, s_aast, mm_sw, mm_ld, mm_s1, mm_s2, mm_kl, Value.category, va_rf, List.nil_append, List.cons_append, Option.toList, true_and, and_true, and_self, true_or, or_true, eq_self, not_true_eq_false, false_implies, true_implies, not_false_eq_true, mm_10, mm_01, false_or, or_false, Nat.left_eq_add, Nat.add_eq_left, Nat.add_left_cancel_iff, Nat.reduceEqDiff, false_and, and_false, reduceIte, mm_kd_pi, mm_ln_pi, mm_gl_pi, mm_gr_pi, mm_sz_pi, mm_gi_pi, mm_kd_pl, mm_ln_pl, mm_gi_pl, mm_gr_pl, mm_sz_pl, mm_gl_pl, mm_kd_pr, mm_ln_pr, mm_gi_pr, mm_gl_pr, mm_sz_pr, mm_gr_pr, mm_kd_pa, mm_ln_pa, mm_gl_pa, mm_gr_pa, mm_sz_pa, mm_gi_pa, W_kd_0 H, W_s_0 H, W_gr_0_0 H, W_gr_0_1 H, W_gr_0_2 H, W_gr_0_3 H, W_gr_0_4 H, W_gr_0_5 H, W_gr_0_6 H, W_gr_0_7 H, W_gr_0_8 H, W_gr_0_9 H, W_gr_0_10 H, W_gr_0_11 H, ← eh0, W_kd_0 H0, W_s_0 H0, W_gr_0_0 H0, W_gr_0_1 H0, W_gr_0_2 H0, W_gr_0_3 H0, W_gr_0_4 H0, W_gr_0_5 H0, W_gr_0_6 H0, W_gr_0_7 H0, W_gr_0_8 H0, W_gr_0_9 H0, W_gr_0_10 H0, W_gr_0_11 H0]
  refine c_X9_orders_10 (bb := (0, 0)) (b := (0, 0)) (Nat.le_of_ble_eq_true rfl) ⟨rfl, rfl⟩ (W_kd_56 H0) (W_s_56 H0) (sp_take (d := 938) (o := true) H0 T0 (fun g1 N cl p c z I R N1 Ct F1 => ?_) (fun g1 f R F1 e4 f4 => ?_))
  · -- read
    have H1 := fx_WS F1 H0
    have a1 : OQ h g1 := OQ_tr a0 (rt F1)
    have e1 : ∀ c j, ¬ xRt c j → mm_gi g1 c j = mm_gi h0 c j := F1.2.1
    have wf := tr_wfo _ _ _ _ _ _ R N cl rfl (fun j hj => by omega)
    have N12 := Ct.2.2.1.2
    have z4 := Ct.1.2.2.1.2.2.2
    obtain ⟨g2, eg2⟩ : ∃ g2 : mmH, g2 = mm_pi g1 54 1 0 := ⟨_, rfl⟩
    have a2 : OQ h g2 := OQ_tr a1 (by rw [eg2]; exact OQ_pi (by unfold xOr; omega))
    have H2 : WS g2 := by rw [eg2]; exact WS_pi H1
    have e2 : ∀ c j, ¬ xRt c j → ¬ (c = 54 ∧ j = 1) → ¬ (c = 0 ∧ j = 13) → mm_gi g2 c j = mm_gi h c j := fun c j q1 q2 q3 => by rw [eg2, mm_gi_pi, if_neg q2, e1 c j q1]; exact e0 c j q3
    refine t_X9_orders_13 _ _ _ ?_
    simp only [s_iadd, s_isub, s_imul, s_iand, s_ior, s_ixor, s_ishl, s_ishr, s_iushr, s_idiv, s_irem, s_ladd, s_lsub, s_lmul, s_ldiv, s_lrem, s_ineg, s_i2l, s_l2i, s_i2c, s_lcmp, s_ic, s_lc, s_nul, s_str, s_il, s_ll, s_al, s_dup, s_dup2, s_pop, s_ifne, s_icne, s_ifeq, s_iflt, s_ifge, s_ifgt, s_ifle, s_iceq, s_iclt, s_icge, s_icgt, s_icle, s_ifnull, s_ifnonnull, s_is, s_ls, s_as, s_ii, s_gi, s_gl, s_gr, s_pi, s_pz, s_pl, s_pr, s_iald, s_zald, s_lald, s_aald, s_alen, s_iast, s_zast, s_last, s_iret, s_zret, s_lret, s_aret, s_vret, s_sw, s_aast, mm_sw, mm_ld, mm_s1, mm_s2, mm_kl, Value.category, va_rf, List.nil_append, List.cons_append, Option.toList, true_and, and_true, and_self, true_or, or_true, eq_self, not_true_eq_false, false_implies, true_implies, not_false_eq_true, mm_10, mm_01, false_or, or_false, Nat.left_eq_add, Nat.add_eq_left, Nat.add_left_cancel_iff, Nat.reduceEqDiff, false_and, and_false, reduceIte, mm_kd_pi, mm_ln_pi, mm_gl_pi, mm_gr_pi, mm_sz_pi, mm_gi_pi, mm_kd_pl, mm_ln_pl, mm_gi_pl, mm_gr_pl, mm_sz_pl, mm_gl_pl, mm_kd_pr, mm_ln_pr, mm_gi_pr, mm_gl_pr, mm_sz_pr, mm_gr_pr, mm_kd_pa, mm_ln_pa, mm_gl_pa, mm_gr_pa, mm_sz_pa, mm_gi_pa, W_kd_0 H1, W_s_0 H1, W_gr_0_0 H1, W_gr_0_1 H1, W_gr_0_2 H1, W_gr_0_3 H1, W_gr_0_4 H1, W_gr_0_5 H1, W_gr_0_6 H1, W_gr_0_7 H1, W_gr_0_8 H1, W_gr_0_9 H1, W_gr_0_10 H1, W_gr_0_11 H1, W_kd_54 H1, W_s_54 H1, W_gr_54_0 H1, ← eg2, show ((1 : Int32) = 0) = False by decide, W_kd_0 H2, W_s_0 H2, W_gr_0_0 H2, W_gr_0_1 H2, W_gr_0_2 H2, W_gr_0_3 H2, W_gr_0_4 H2, W_gr_0_5 H2, W_gr_0_6 H2, W_gr_0_7 H2, W_gr_0_8 H2, W_gr_0_9 H2, W_gr_0_10 H2, W_gr_0_11 H2, W_kd_56 H2, W_s_56 H2, W_gr_56_0 H2, W_gr_56_1 H2]
    have law14 : ∀ x, (∀ j, j < 6 → mm_gr x 14 j = mm_gr h 14 j) → mm_kd x = mm_kd h → mm_sz x = mm_sz h → ∀ j, j < 6 → ∀ t, mm_gr x (4 + 10) j = some t → mm_kd x t = 6 ∧ t < mm_sz x := fun x q1 q2 q3 j hj t ht => by
      have ht : mm_gr x 14 j = some t := ht
      rw [q1 j hj] at ht
      rw [q2, q3]
      exact (hl.2 j hj t ht).2
    refine c_X9_orders_49 (bb := (0, 0)) (b := (0, 0)) (Nat.le_of_ble_eq_true rfl) ⟨rfl, rfl⟩ (W_kd_15 H2) (W_s_15 H2) (sp_copyFrom (d := 998) (a := 15) (b := 4) (W_h15 H2) (W_h4 H2) (law14 g2 a2.2.2.1 a2.1.1 a2.1.2.2) (by omega) (fun g3 P3 => ?_))
    have a3 : OQ h g3 := OQ_tr a2 (OQ_c15 P3)
    have H3 := OQ_WS a3 H
    have e3 : ∀ c j, ¬ (15 ≤ c ∧ c ≤ 24) → mm_gi g3 c j = mm_gi g2 c j := fun c j q => P3.2.1 c j (by omega)
    have hc2 : HC g2 4 S := HC_cg (fun c j c1 c2 => e2 c j (by unfold xRt; omega) (by omega) (by omega)) C.2.2.1
    have hc3 : HC g3 15 S := HC_cp v P3 hc2
    have r25 : ∀ j, j < 6 → mm_gr g3 25 j = mm_gr g3 14 j := fun j hj => by
      obtain ⟨_, _, _, _, c6, c7⟩ := P3
      rw [c7 j hj, c6 14 j (by decide)]
    refine t_X9_orders_52 _ _ _ ?_
    simp only [s_iadd, s_isub, s_imul, s_iand, s_ior, s_ixor, s_ishl, s_ishr, s_iushr, s_idiv, s_irem, s_ladd, s_lsub, s_lmul, s_ldiv, s_lrem, s_ineg, s_i2l, s_l2i, s_i2c, s_lcmp, s_ic, s_lc, s_nul, s_str, s_il, s_ll, s_al, s_dup, s_dup2, s_pop, s_ifne, s_icne, s_ifeq, s_iflt, s_ifge, s_ifgt, s_ifle, s_iceq, s_iclt, s_icge, s_icgt, s_icle, s_ifnull, s_ifnonnull, s_is, s_ls, s_as, s_ii, s_gi, s_gl, s_gr, s_pi, s_pz, s_pl, s_pr, s_iald, s_zald, s_lald, s_aald, s_alen, s_iast, s_zast, s_last, s_iret, s_zret, s_lret, s_aret, s_vret, s_sw, s_aast, mm_sw, mm_ld, mm_s1, mm_s2, mm_kl, Value.category, va_rf, List.nil_append, List.cons_append, Option.toList, true_and, and_true, and_self, true_or, or_true, eq_self, not_true_eq_false, false_implies, true_implies, not_false_eq_true, mm_10, mm_01, false_or, or_false, Nat.left_eq_add, Nat.add_eq_left, Nat.add_left_cancel_iff, Nat.reduceEqDiff, false_and, and_false, reduceIte, mm_kd_pi, mm_ln_pi, mm_gl_pi, mm_gr_pi, mm_sz_pi, mm_gi_pi, mm_kd_pl, mm_ln_pl, mm_gi_pl, mm_gr_pl, mm_sz_pl, mm_gl_pl, mm_kd_pr, mm_ln_pr, mm_gi_pr, mm_gl_pr, mm_sz_pr, mm_gr_pr, mm_kd_pa, mm_ln_pa, mm_gl_pa, mm_gr_pa, mm_sz_pa, mm_gi_pa, W_kd_0 H3, W_s_0 H3, W_gr_0_0 H3, W_gr_0_1 H3, W_gr_0_2 H3, W_gr_0_3 H3, W_gr_0_4 H3, W_gr_0_5 H3, W_gr_0_6 H3, W_gr_0_7 H3, W_gr_0_8 H3, W_gr_0_9 H3, W_gr_0_10 H3, W_gr_0_11 H3]
    have tr50 : ∀ x, WS x → trS x 50 := fun x Hx => ⟨⟨W_kd_50 Hx, W_s_51 Hx, W_s_50 Hx⟩, W_gr_50_0 Hx, W_kd_51 Hx, W_ln_51 Hx⟩
    have tr52 : ∀ x, WS x → trS x 52 := fun x Hx => ⟨⟨W_kd_52 Hx, W_s_53 Hx, W_s_52 Hx⟩, W_gr_52_0 Hx, W_kd_53 Hx, W_ln_53 Hx⟩
    refine c_X9_orders_60 (bb := (0, 0)) (b := (0, 0)) (Nat.le_of_ble_eq_true rfl) ⟨rfl, rfl⟩ (W_kd_52 H3) (W_s_52 H3) (sp_tcopy (d := 998) (a := 52) (b := 50) (tr52 g3 H3) (tr50 g3 H3) (by decide) (by decide) ?_)
    obtain ⟨g4, eg4⟩ : ∃ g4 : mmH, g4 = mm_pa (mm_pi g3 52 1 (mm_gi g3 50 1)) (52 + 1) (va_cpy (mm_gi g3 (50 + 1)) (mm_gi g3 (52 + 1)) 0 0 240) := ⟨_, rfl⟩
    rw [← eg4]
    have F4 : fx (fun c _ => c = 52 ∨ c = 53) y0 g3 g4 := by rw [eg4]; exact fx_pa (fun _ => Or.inr rfl) (fx_pi (Or.inl rfl) fx_rf)
    have H4 := fx_WS F4 H3
    have k52 : mm_gi g4 52 1 = mm_gi g3 50 1 := by rw [eg4, mm_gi_pa, if_neg (by decide), mm_gi_pi, if_pos ⟨rfl, rfl⟩]
    have k53 : ∀ j, j < 240 → mm_gi g4 53 j = mm_gi g3 51 j := fun j hj => by
      rw [eg4, mm_gi_pa, if_pos rfl, cpy_at (by omega) (by omega), show 0 + (j - 0) = j by omega]
    obtain ⟨g5, eg5⟩ : ∃ g5 : mmH, g5 = mm_pi g4 0 15 0 := ⟨_, rfl⟩
    obtain ⟨g6, eg6⟩ : ∃ g6 : mmH, g6 = mm_pi g5 0 16 (-1) := ⟨_, rfl⟩
    have H5 : WS g5 := by rw [eg5]; exact WS_pi H4
    have F6 : fx (fun c j => c = 52 ∨ c = 53 ∨ (c = 0 ∧ (j = 15 ∨ j = 16))) y0 g3 g6 := by
      rw [eg6]; refine fx_pi (by omega) ?_
      rw [eg5]; refine fx_pi (by omega) ?_
      exact fx_mo (fun c j q => by omega) (fun _ q => q) F4
    have a6 : OQ h g6 := OQ_tr a3 (OQ_fx F6 (fun c j q => by unfold xOr; omega) (fun _ q => q.elim))
    have H6 := OQ_WS a6 H
    have e6 : ∀ c j, ¬ (c = 52 ∨ c = 53 ∨ (c = 0 ∧ (j = 15 ∨ j = 16))) → mm_gi g6 c j = mm_gi g3 c j := F6.2.1
    have e06 : ∀ c j, ¬ xCl c j → mm_gi g6 c j = mm_gi h c j := fun c j q => by
      unfold xCl at q
      rw [e6 c j (by omega), e3 c j (by omega)]
      exact e2 c j (by unfold xRt; omega) (by omega) (by omega)
    have eh : ∀ c j, (4 ≤ c ∧ c ≤ 13) ∨ c = 50 ∨ c = 51 → mm_gi g6 c j = mm_gi h c j := fun c j q => by
      rw [e6 c j (by omega), e3 c j (by omega)]
      exact e2 c j (by unfold xRt; omega) (by omega) (by omega)
    have C6 : CI g6 S A nu te := OQ_CI a6 eh C
    have CO6 : COr A g6 (S, nu, te, 0, -1) := ⟨C6, by rw [eg6, mm_gi_pi, if_neg (by omega), eg5, mm_gi_pi, if_pos ⟨rfl, rfl⟩]; rfl, by rw [eg6, mm_gi_pi, if_pos ⟨rfl, rfl⟩]; rfl, by show 0 ≤ 1000; omega, by show (-1 : Int) ≤ -1; omega, by show (-1 : Int) ≤ 1000; omega⟩
    have et : ∀ c j, 56 ≤ c → c ≤ 65 → mm_gi g6 c j = mm_gi g1 c j := fun c j c1 c2 => by rw [e6 c j (by omega), e3 c j (by omega), eg2, mm_gi_pi, if_neg (by omega)]
    have X6 : CX g6 N z I cl := by
      refine ⟨⟨W_tx H6, by decide, (et 58 6 (by decide) (by decide)).trans Ct.1.2.2.2.2.2.2.1, z4, Nat.le_refl _, fun i hi => ?_⟩, N12, fun k hk => CDc_mo (Nat.le_refl _) (fun _ _ => rfl) (fun c c1 c2 => et c k (by omega) (by omega)) (Ct.2.2.2 k hk)⟩
      have := Ct.1.2.2.2.2.2.2.2 i hi
      unfold cde at this ⊢
      rw [et 64 i (by decide) (by decide), et 65 i (by decide) (by decide)]
      exact this
    have eN : mm_gi g6 58 0 = nI N := (et 58 0 (by decide) (by decide)).trans Ct.2.2.1.1
    have hT : ∀ i, i < N → ∀ D, (cl i).2.2.2.2 = some D → xT 16 D := fun i hi D q => ((Ct.2.2.2 i hi).2.2.2.2.2 D q).2
    have k4 : ∀ i, i < N → (cl i).1 < 4 := fun i hi => (Ct.2.2.2 i hi).1.2
    have f56 : mm_gi g6 56 4 = -1 := (et 56 4 (by decide) (by decide)).trans Ct.1.2.2.1.2.1
    have f13 : mm_gi g6 0 13 = -1 := by rw [e6 0 13 (by omega), e3 0 13 (by omega), eg2, mm_gi_pi, if_neg (by omega), e1 0 13 (by unfold xRt; omega), eh0, mm_gi_pi, if_pos ⟨rfl, rfl⟩]
    have f54 : mm_gi g6 54 1 = 0 := by rw [e6 54 1 (by omega), e3 54 1 (by omega), eg2, mm_gi_pi, if_pos ⟨rfl, rfl⟩]
    have rn : ∀ {x : mmH}, fx xRn y0 g6 x → OQ h x := fun F => OQ_tr a6 (OQ_fx F (fun c j q => by unfold xRn at q; unfold xOr; omega) (fun _ q => q.elim))
    refine t_X9_orders_63 _ _ _ ?_
    simp only [s_iadd, s_isub, s_imul, s_iand, s_ior, s_ixor, s_ishl, s_ishr, s_iushr, s_idiv, s_irem, s_ladd, s_lsub, s_lmul, s_ldiv, s_lrem, s_ineg, s_i2l, s_l2i, s_i2c, s_lcmp, s_ic, s_lc, s_nul, s_str, s_il, s_ll, s_al, s_dup, s_dup2, s_pop, s_ifne, s_icne, s_ifeq, s_iflt, s_ifge, s_ifgt, s_ifle, s_iceq, s_iclt, s_icge, s_icgt, s_icle, s_ifnull, s_ifnonnull, s_is, s_ls, s_as, s_ii, s_gi, s_gl, s_gr, s_pi, s_pz, s_pl, s_pr, s_iald, s_zald, s_lald, s_aald, s_alen, s_iast, s_zast, s_last, s_iret, s_zret, s_lret, s_aret, s_vret, s_sw, s_aast, mm_sw, mm_ld, mm_s1, mm_s2, mm_kl, Value.category, va_rf, List.nil_append, List.cons_append, Option.toList, true_and, and_true, and_self, true_or, or_true, eq_self, not_true_eq_false, false_implies, true_implies, not_false_eq_true, mm_10, mm_01, false_or, or_false, Nat.left_eq_add, Nat.add_eq_left, Nat.add_left_cancel_iff, Nat.reduceEqDiff, false_and, and_false, reduceIte, mm_kd_pi, mm_ln_pi, mm_gl_pi, mm_gr_pi, mm_sz_pi, mm_gi_pi, mm_kd_pl, mm_ln_pl, mm_gi_pl, mm_gr_pl, mm_sz_pl, mm_gl_pl, mm_kd_pr, mm_ln_pr, mm_gi_pr, mm_gl_pr, mm_sz_pr, mm_gr_pr, mm_kd_pa, mm_ln_pa, mm_gl_pa, mm_gr_pa, mm_sz_pa, mm_gi_pa, W_kd_0 H4, W_s_0 H4, W_gr_0_0 H4, W_gr_0_1 H4, W_gr_0_2 H4, W_gr_0_3 H4, W_gr_0_4 H4, W_gr_0_5 H4, W_gr_0_6 H4, W_gr_0_7 H4, W_gr_0_8 H4, W_gr_0_9 H4, W_gr_0_10 H4, W_gr_0_11 H4, ← eg5, W_kd_0 H5, W_s_0 H5, W_gr_0_0 H5, W_gr_0_1 H5, W_gr_0_2 H5, W_gr_0_3 H5, W_gr_0_4 H5, W_gr_0_5 H5, W_gr_0_6 H5, W_gr_0_7 H5, W_gr_0_8 H5, W_gr_0_9 H5, W_gr_0_10 H5, W_gr_0_11 H5, ← eg6]
    refine lp_oc (d := 992) (h0 := g6) (z := z) (I := I) N12 wf (fun r => ORc A cl N 0 (S, nu, te, 0, -1) r) (fun g7 s' RC C7 F7 d7 => ?_) (fun g7 i RC hi F7 v4 => ?_) N 0 (S, nu, te, 0, -1) g6 _ (by omega) CO6 X6 eN fx_rf (by show 0 + 20 * N ≤ 240; omega) (fun r q => q)
    · -- all went well
      have a8 : OQ h (acH g7) := OQ_tr (rn F7) (OQ_pi (by unfold xOr; omega))
      have H8 := OQ_WS a8 H
      have e8 : ∀ c j, ¬ xCl c j → mm_gi (acH g7) c j = mm_gi h c j := fun c j q => by
        unfold acH
        rw [mm_gi_pi, if_neg (by unfold xCl at q; omega), F7.2.1 c j (by unfold xCl at q; unfold xRn; omega)]
        exact e06 c j q
      have M8 : MI (acH g7) S A nu te := MI_cl a8 e8 M
      have T8 : TPM (acH g7) n t := ⟨T2.1, (e8 91 13 (by unfold xCl; omega)).trans T2.2.1, fun i hi => ⟨(T2.2.2 i hi).1, (e8 100 i (by unfold xCl; omega)).trans (T2.2.2 i hi).2⟩⟩
      refine ⟨⟨W_kd_91 H8, W_s_91 H8⟩, sp_morders (d := 989) (ro := .inr s') T8 (KW_q a8 kw) M8 R (fun N' cl' q => ?_) (fun f q => by cases q) (fun N' cl' s2 q q2 g9 F9 x18 x13 x52 M9 => ?_) (fun N' cl' i q q2 => by cases q2)⟩
      · cases q
        exact ⟨RC, wf, hT⟩
      · cases q
        cases q2
        refine ⟨⟨_, rfl, rfl⟩, ?_⟩
        obtain ⟨kv, ktv, ks⟩ := orc_kp (S := S) N 0 _ _ (fun j _ j2 => k4 j (by omega)) ⟨v, tv, rfl, rfl, rfl, rfl, rfl, rfl⟩ RC
        have a10 : OQ h (mm_pi g9 91 1 0) := OQ_tr a8 (OQ_tr (OQ_fx F9 (fun c j q => xMz_or q) (fun c q => by unfold yMr at q; omega)) (OQ_pi (by unfold xOr; omega)))
        have e10 : ∀ c j, ¬ (c = 91 ∧ j = 1) → mm_gi (mm_pi g9 91 1 0) c j = mm_gi g9 c j := fun c j q => by rw [mm_gi_pi, if_neg q]
        have e9 : ∀ c j, c < 91 → mm_gi g9 c j = mm_gi (acH g7) c j := fun c j q => F9.2.1 c j (by unfold xMz xMw xMt xMd xMo xMr xMa xrw xL xrm; omega)
        have e7 : ∀ c j, ¬ (c = 0 ∧ j = 12) → mm_gi (acH g7) c j = mm_gi g7 c j := fun c j q => by unfold acH; rw [mm_gi_pi, if_neg q]
        have ec : ∀ c j, c < 91 → ¬ (c = 0 ∧ j = 12) → mm_gi (mm_pi g9 91 1 0) c j = mm_gi g7 c j := fun c j q1 q2 => by rw [e10 c j (by omega), e9 c j q1, e7 c j q2]
        have eu : ∀ c j, ¬ xOr c j → mm_gi (mm_pi g9 91 1 0) c j = mm_gi h c j := fun c j q => a10.2.2.2.2.1 c j q
        have cnt : ∀ j, mm_gi (mm_pi g9 91 1 0) 90 j = mm_gi h 90 j := fun j => by
          rw [ec 90 j (by decide) (by omega), F7.2.1 90 j (by unfold xRn; omega), e6 90 j (by omega), e3 90 j (by omega)]
          exact e2 90 j (by unfold xRt; omega) (by omega) (by omega)
        have cnm : ∀ j, mm_gi (mm_pi g9 91 1 0) 92 j = mm_gi h 92 j := fun j => by
          rw [e10 92 j (by omega), F9.2.1 92 j (by unfold xMz xMw xMt xMd xMo xMr xMa xrw xL xrm; omega)]
          exact e8 92 j (by unfold xCl; omega)
        refine Inv_or (S := S) (S' := s'.1) hI a10 hl v ?_ ?_ ?_ ?_ kv ks.2.2.2.2.1 (HC_cg (fun c j c1 c2 => ec c j (by omega) (by omega)) C7.1.2.2.1) ?_ (trail_to ktv ?_ ?_)
        · refine ⟨⟨?_, ?_, ?_, ?_⟩, ?_, ?_, ?_, ?_, ?_⟩
          · rw [e10 0 12 (by omega), e9 0 12 (by decide), mm_gi_pi, if_pos ⟨rfl, rfl⟩]
            unfold acH
            rw [mm_gi_pi, if_pos ⟨rfl, rfl⟩]
          · rw [ec 0 13 (by decide) (by omega), F7.2.1 0 13 (by unfold xRn; omega), f13, e10 91 52 (by omega), x52]
          · rw [eu 0 14 (by unfold xOr; omega), eu 91 11 (by unfold xOr; omega)]; exact mi3
          · rw [ec 56 4 (by decide) (by omega), F7.2.1 56 4 (by unfold xRn; omega), f56, e10 91 18 (by omega), x18]
          · rw [cnt, cnm]; exact mi5
          · rw [cnt, cnm]; exact mi6
          · rw [cnt, cnm]; exact mi7
          · rw [cnt, cnm]; exact mi8
          · rw [cnt, cnm]; exact mi9
        · rw [ec 54 1 (by decide) (by omega), F7.2.1 54 1 (by unfold xRn; omega)]; exact f54
        · rw [e10 91 13 (by omega)]; exact x13
        · rw [e10 91 20 (by omega)]; exact M9.1.2.2.2.2.1
        · rw [show mm_gi (mm_pi g9 91 1 0) 93 = mm_gi g9 93 from funext fun j => e10 93 j (by omega)]
          exact M9.1.2.2.1
        · refine ⟨by rw [ec 50 1 (by decide) (by omega)]; exact C7.1.2.2.2.2.1.1, ?_⟩
          rw [show mm_gi (mm_pi g9 91 1 0) 51 = mm_gi g7 51 from funext fun j => ec 51 j (by decide) (by omega)]
          exact C7.1.2.2.2.2.1.2
        · exact MT_fx (Y := y0) kv M9.1.2.2.2.2.2.2 (fx_pi (X := fun c j => c = 91 ∧ j = 1) ⟨rfl, rfl⟩ fx_rf) (fun c j hc => by omega) M9.1.2.2.2.2.2.1
    · -- given back
      have H7 := fx_WS F7 H6
      have gr7 : mm_gr g7 = mm_gr g3 := F7.1.2.2.1.trans F6.1.2.2.1
      have q25 : ∀ j, j < 6 → mm_gr g7 25 j = mm_gr g7 14 j := fun j hj => by rw [gr7]; exact r25 j hj
      have a7 : OQ h g7 := rn F7
      refine t_X9_orders_103 _ _ _ ?_
      simp only [s_iadd, s_isub, s_imul, s_iand, s_ior, s_ixor, s_ishl, s_ishr, s_iushr, s_idiv, s_irem, s_ladd, s_lsub, s_lmul, s_ldiv, s_lrem, s_ineg, s_i2l, s_l2i, s_i2c, s_lcmp, s_ic, s_lc, s_nul, s_str, s_il, s_ll, s_al, s_dup, s_dup2, s_pop, s_ifne, s_icne, s_ifeq, s_iflt, s_ifge, s_ifgt, s_ifle, s_iceq, s_iclt, s_icge, s_icgt, s_icle, s_ifnull, s_ifnonnull, s_is, s_ls, s_as, s_ii, s_gi, s_gl, s_gr, s_pi, s_pz, s_pl, s_pr, s_iald, s_zald, s_lald, s_aald, s_alen, s_iast, s_zast, s_last, s_iret, s_zret, s_lret, s_aret, s_vret, s_sw, s_aast, mm_sw, mm_ld, mm_s1, mm_s2, mm_kl, Value.category, va_rf, List.nil_append, List.cons_append, Option.toList, true_and, and_true, and_self, true_or, or_true, eq_self, not_true_eq_false, false_implies, true_implies, not_false_eq_true, mm_10, mm_01, false_or, or_false, Nat.left_eq_add, Nat.add_eq_left, Nat.add_left_cancel_iff, Nat.reduceEqDiff, false_and, and_false, reduceIte, mm_kd_pi, mm_ln_pi, mm_gl_pi, mm_gr_pi, mm_sz_pi, mm_gi_pi, mm_kd_pl, mm_ln_pl, mm_gi_pl, mm_gr_pl, mm_sz_pl, mm_gl_pl, mm_kd_pr, mm_ln_pr, mm_gi_pr, mm_gl_pr, mm_sz_pr, mm_gr_pr, mm_kd_pa, mm_ln_pa, mm_gl_pa, mm_gr_pa, mm_sz_pa, mm_gi_pa, W_kd_0 H7, W_s_0 H7, W_gr_0_0 H7, W_gr_0_1 H7, W_gr_0_2 H7, W_gr_0_3 H7, W_gr_0_4 H7, W_gr_0_5 H7, W_gr_0_6 H7, W_gr_0_7 H7, W_gr_0_8 H7, W_gr_0_9 H7, W_gr_0_10 H7, W_gr_0_11 H7]
      refine c_X9_orders_114 (bb := (0, 0)) (b := (0, 0)) (Nat.le_of_ble_eq_true rfl) ⟨rfl, rfl⟩ (W_kd_4 H7) (W_s_4 H7) (sp_copyFrom (d := 998) (a := 4) (b := 15) (W_h4 H7) (W_h15 H7) (fun j hj t ht => by
        have ht : mm_gr g7 25 j = some t := ht
        rw [q25 j hj, a7.2.2.1 j hj] at ht
        rw [a7.1.1, a7.1.2.2]
        exact (hl.2 j hj t ht).2) (by omega) (fun g8 P8 => ?_))
      have a8 : OQ h g8 := OQ_tr a7 (OQ_c4 P8 q25)
      have H8 := OQ_WS a8 H
      have e8 : ∀ c j, ¬ (4 ≤ c ∧ c ≤ 13) → mm_gi g8 c j = mm_gi g7 c j := fun c j q => P8.2.1 c j (by omega)
      have hc7 : HC g7 15 S := HC_cg (fun c j c1 c2 => by rw [F7.2.1 c j (by unfold xRn; omega)]; exact e6 c j (by omega)) hc3
      have hc8 : HC g8 4 S := HC_cp v P8 hc7
      refine t_X9_orders_117 _ _ _ ?_
      simp only [s_iadd, s_isub, s_imul, s_iand, s_ior, s_ixor, s_ishl, s_ishr, s_iushr, s_idiv, s_irem, s_ladd, s_lsub, s_lmul, s_ldiv, s_lrem, s_ineg, s_i2l, s_l2i, s_i2c, s_lcmp, s_ic, s_lc, s_nul, s_str, s_il, s_ll, s_al, s_dup, s_dup2, s_pop, s_ifne, s_icne, s_ifeq, s_iflt, s_ifge, s_ifgt, s_ifle, s_iceq, s_iclt, s_icge, s_icgt, s_icle, s_ifnull, s_ifnonnull, s_is, s_ls, s_as, s_ii, s_gi, s_gl, s_gr, s_pi, s_pz, s_pl, s_pr, s_iald, s_zald, s_lald, s_aald, s_alen, s_iast, s_zast, s_last, s_iret, s_zret, s_lret, s_aret, s_vret, s_sw, s_aast, mm_sw, mm_ld, mm_s1, mm_s2, mm_kl, Value.category, va_rf, List.nil_append, List.cons_append, Option.toList, true_and, and_true, and_self, true_or, or_true, eq_self, not_true_eq_false, false_implies, true_implies, not_false_eq_true, mm_10, mm_01, false_or, or_false, Nat.left_eq_add, Nat.add_eq_left, Nat.add_left_cancel_iff, Nat.reduceEqDiff, false_and, and_false, reduceIte, mm_kd_pi, mm_ln_pi, mm_gl_pi, mm_gr_pi, mm_sz_pi, mm_gi_pi, mm_kd_pl, mm_ln_pl, mm_gi_pl, mm_gr_pl, mm_sz_pl, mm_gl_pl, mm_kd_pr, mm_ln_pr, mm_gi_pr, mm_gl_pr, mm_sz_pr, mm_gr_pr, mm_kd_pa, mm_ln_pa, mm_gl_pa, mm_gr_pa, mm_sz_pa, mm_gi_pa, W_kd_0 H8, W_s_0 H8, W_gr_0_0 H8, W_gr_0_1 H8, W_gr_0_2 H8, W_gr_0_3 H8, W_gr_0_4 H8, W_gr_0_5 H8, W_gr_0_6 H8, W_gr_0_7 H8, W_gr_0_8 H8, W_gr_0_9 H8, W_gr_0_10 H8, W_gr_0_11 H8]
      refine c_X9_orders_125 (bb := (0, 0)) (b := (0, 0)) (Nat.le_of_ble_eq_true rfl) ⟨rfl, rfl⟩ (W_kd_50 H8) (W_s_50 H8) (sp_tcopy (d := 998) (a := 50) (b := 52) (tr50 g8 H8) (tr52 g8 H8) (by decide) (by decide) ?_)
      obtain ⟨g9, eg9⟩ : ∃ g9 : mmH, g9 = mm_pa (mm_pi g8 50 1 (mm_gi g8 52 1)) (50 + 1) (va_cpy (mm_gi g8 (52 + 1)) (mm_gi g8 (50 + 1)) 0 0 240) := ⟨_, rfl⟩
      rw [← eg9]
      have F9 : fx (fun c _ => c = 50 ∨ c = 51) y0 g8 g9 := by rw [eg9]; exact fx_pa (fun _ => Or.inr rfl) (fx_pi (Or.inl rfl) fx_rf)
      have H9 := fx_WS F9 H8
      have b52 : mm_gi g8 52 1 = mm_gi h 50 1 := by
        rw [e8 52 1 (by omega), F7.2.1 52 1 (by unfold xRn; omega), eg6, mm_gi_pi, if_neg (by omega), eg5, mm_gi_pi, if_neg (by omega), k52, e3 50 1 (by omega)]
        exact e2 50 1 (by unfold xRt; omega) (by omega) (by omega)
      have b53 : ∀ j, j < 240 → mm_gi g8 53 j = mm_gi h 51 j := fun j hj => by
        rw [e8 53 j (by omega), F7.2.1 53 j (by unfold xRn; omega), eg6, mm_gi_pi, if_neg (by omega), eg5, mm_gi_pi, if_neg (by omega), k53 j hj, e3 51 j (by omega)]
        exact e2 51 j (by unfold xRt; omega) (by omega) (by omega)
      have c50 : mm_gi g9 50 1 = mm_gi h 50 1 := by rw [eg9, mm_gi_pa, if_neg (by decide), mm_gi_pi, if_pos ⟨rfl, rfl⟩]; exact b52
      have c51 : ∀ j, j < 240 → mm_gi g9 51 j = mm_gi h 51 j := fun j hj => by
        rw [eg9, mm_gi_pa, if_pos rfl, cpy_at (by omega) (by omega), show 0 + (j - 0) = j by omega]
        exact b53 j hj
      obtain ⟨g10, eg10⟩ : ∃ g10 : mmH, g10 = mm_pi g9 0 13 (nI i) := ⟨_, rfl⟩
      have H10 : WS g10 := by rw [eg10]; exact WS_pi H9
      refine t_X9_orders_128 _ _ _ ?_
      simp only [s_iadd, s_isub, s_imul, s_iand, s_ior, s_ixor, s_ishl, s_ishr, s_iushr, s_idiv, s_irem, s_ladd, s_lsub, s_lmul, s_ldiv, s_lrem, s_ineg, s_i2l, s_l2i, s_i2c, s_lcmp, s_ic, s_lc, s_nul, s_str, s_il, s_ll, s_al, s_dup, s_dup2, s_pop, s_ifne, s_icne, s_ifeq, s_iflt, s_ifge, s_ifgt, s_ifle, s_iceq, s_iclt, s_icge, s_icgt, s_icle, s_ifnull, s_ifnonnull, s_is, s_ls, s_as, s_ii, s_gi, s_gl, s_gr, s_pi, s_pz, s_pl, s_pr, s_iald, s_zald, s_lald, s_aald, s_alen, s_iast, s_zast, s_last, s_iret, s_zret, s_lret, s_aret, s_vret, s_sw, s_aast, mm_sw, mm_ld, mm_s1, mm_s2, mm_kl, Value.category, va_rf, List.nil_append, List.cons_append, Option.toList, true_and, and_true, and_self, true_or, or_true, eq_self, not_true_eq_false, false_implies, true_implies, not_false_eq_true, mm_10, mm_01, false_or, or_false, Nat.left_eq_add, Nat.add_eq_left, Nat.add_left_cancel_iff, Nat.reduceEqDiff, false_and, and_false, reduceIte, mm_kd_pi, mm_ln_pi, mm_gl_pi, mm_gr_pi, mm_sz_pi, mm_gi_pi, mm_kd_pl, mm_ln_pl, mm_gi_pl, mm_gr_pl, mm_sz_pl, mm_gl_pl, mm_kd_pr, mm_ln_pr, mm_gi_pr, mm_gl_pr, mm_sz_pr, mm_gr_pr, mm_kd_pa, mm_ln_pa, mm_gl_pa, mm_gr_pa, mm_sz_pa, mm_gi_pa, W_kd_0 H9, W_s_0 H9, W_gr_0_0 H9, W_gr_0_1 H9, W_gr_0_2 H9, W_gr_0_3 H9, W_gr_0_4 H9, W_gr_0_5 H9, W_gr_0_6 H9, W_gr_0_7 H9, W_gr_0_8 H9, W_gr_0_9 H9, W_gr_0_10 H9, W_gr_0_11 H9, ← eg10]
      refine c_X9_orders_136 (bb := (0, 0)) (b := (0, 0)) (Nat.le_of_ble_eq_true rfl) ⟨rfl, rfl⟩ (W_kd_0 H10) (W_s_0 H10) (sp_refuse (r := -3) (p := 2) H10 (by simp) ?_)
      refine t_X9_orders_139 _ _ _ ?_
      simp only [s_iadd, s_isub, s_imul, s_iand, s_ior, s_ixor, s_ishl, s_ishr, s_iushr, s_idiv, s_irem, s_ladd, s_lsub, s_lmul, s_ldiv, s_lrem, s_ineg, s_i2l, s_l2i, s_i2c, s_lcmp, s_ic, s_lc, s_nul, s_str, s_il, s_ll, s_al, s_dup, s_dup2, s_pop, s_ifne, s_icne, s_ifeq, s_iflt, s_ifge, s_ifgt, s_ifle, s_iceq, s_iclt, s_icge, s_icgt, s_icle, s_ifnull, s_ifnonnull, s_is, s_ls, s_as, s_ii, s_gi, s_gl, s_gr, s_pi, s_pz, s_pl, s_pr, s_iald, s_zald, s_lald, s_aald, s_alen, s_iast, s_zast, s_last, s_iret, s_zret, s_lret, s_aret, s_vret, s_sw, s_aast, mm_sw, mm_ld, mm_s1, mm_s2, mm_kl, Value.category, va_rf, List.nil_append, List.cons_append, Option.toList, true_and, and_true, and_self, true_or, or_true, eq_self, not_true_eq_false, false_implies, true_implies, not_false_eq_true, mm_10, mm_01, false_or, or_false, Nat.left_eq_add, Nat.add_eq_left, Nat.add_left_cancel_iff, Nat.reduceEqDiff, false_and, and_false, reduceIte, mm_kd_pi, mm_ln_pi, mm_gl_pi, mm_gr_pi, mm_sz_pi, mm_gi_pi, mm_kd_pl, mm_ln_pl, mm_gi_pl, mm_gr_pl, mm_sz_pl, mm_gl_pl, mm_kd_pr, mm_ln_pr, mm_gi_pr, mm_gl_pr, mm_sz_pr, mm_gr_pr, mm_kd_pa, mm_ln_pa, mm_gl_pa, mm_gr_pa, mm_sz_pa, mm_gi_pa]
      have a9 : OQ h g9 := OQ_tr a8 (OQ_fx F9 (fun c j q => by unfold xOr; omega) (fun _ q => q.elim))
      have a11 : OQ h (rfH g10 (-3) 2) := by
        refine OQ_tr a9 (OQ_tr (g := g10) (by rw [eg10]; exact OQ_pi (by unfold xOr; omega)) ?_)
        unfold rfH
        exact OQ_tr (OQ_pi (c := 0) (j := 12) (by unfold xOr; omega)) (OQ_pi (c := 90) (j := 2) (by unfold xOr; omega))
      have H11 := OQ_WS a11 H
      have e11 : ∀ c j, ¬ (c = 0 ∧ (j = 12 ∨ j = 13)) → ¬ (c = 90 ∧ j = 2) → mm_gi (rfH g10 (-3) 2) c j = mm_gi g9 c j := fun c j q1 q2 => by
        unfold rfH
        rw [mm_gi_pi, if_neg q2, mm_gi_pi, if_neg (by omega), eg10, mm_gi_pi, if_neg (by omega)]
      have e9' : ∀ c j, ¬ xCl c j → mm_gi (rfH g10 (-3) 2) c j = mm_gi h c j := fun c j q => by
        have q' := q
        unfold xCl at q'
        rw [e11 c j (by omega) (by omega), F9.2.1 c j (by omega), e8 c j (by omega), F7.2.1 c j (by unfold xRn; omega)]
        exact e06 c j q
      have M11 : MI (rfH g10 (-3) 2) S A nu te := MI_cl a11 e9' M
      have T11 : TPM (rfH g10 (-3) 2) n t := ⟨T2.1, (e9' 91 13 (by unfold xCl; omega)).trans T2.2.1, fun i hi => ⟨(T2.2.2 i hi).1, (e9' 100 i (by unfold xCl; omega)).trans (T2.2.2 i hi).2⟩⟩
      refine ⟨⟨W_kd_91 H11, W_s_91 H11⟩, sp_morders (d := 989) (ro := .inl i) T11 (KW_q a11 kw) M11 R (fun N' cl' q => ?_) (fun f q => by cases q) (fun N' cl' s2 q q2 => by cases q2) (fun N' cl' i2 q q2 _ g12 F12 x18 x13 x52 M12 => ?_)⟩
      · cases q
        exact ⟨RC, wf, hT⟩
      · cases q
        cases q2
        refine ⟨⟨_, rfl, rfl⟩, ?_⟩
        have a13 : OQ h (tlH g12 (-3) 3) := by
          refine OQ_tr a11 (OQ_tr (OQ_fx F12 (fun c j q => xMz_or q) (fun c q => by unfold yMr at q; omega)) ?_)
          unfold tlH
          exact OQ_tr (OQ_pi (c := 91) (j := 1) (by unfold xOr; omega)) (OQ_pi (c := 92) (j := 3) (by unfold xOr; omega))
        have e13 : ∀ c j, ¬ (c = 91 ∧ j = 1) → ¬ (c = 92 ∧ j = 3) → mm_gi (tlH g12 (-3) 3) c j = mm_gi g12 c j := fun c j q1 q2 => by unfold tlH; rw [mm_gi_pi, if_neg q2, mm_gi_pi, if_neg q1]
        have e12 : ∀ c j, c < 91 ∨ c = 92 → mm_gi g12 c j = mm_gi (rfH g10 (-3) 2) c j := fun c j q => F12.2.1 c j (by unfold xMz xMw xMt xMd xMo xMr xMa xrw xL xrm; omega)
        have ec : ∀ c j, c < 90 → ¬ (c = 0 ∧ (j = 12 ∨ j = 13)) → mm_gi (tlH g12 (-3) 3) c j = mm_gi g9 c j := fun c j q1 q2 => by rw [e13 c j (by omega) (by omega), e12 c j (by omega)]; exact e11 c j q2 (by omega)
        have eu : ∀ c j, ¬ xOr c j → mm_gi (tlH g12 (-3) 3) c j = mm_gi h c j := fun c j q => a13.2.2.2.2.1 c j q
        have c9 : ∀ j, mm_gi g9 90 j = mm_gi h 90 j := fun j => by
          rw [F9.2.1 90 j (by omega), e8 90 j (by omega), F7.2.1 90 j (by unfold xRn; omega), e6 90 j (by omega), e3 90 j (by omega)]
          exact e2 90 j (by unfold xRt; omega) (by omega) (by omega)
        have cnt : ∀ j, j ≠ 2 → mm_gi (tlH g12 (-3) 3) 90 j = mm_gi h 90 j := fun j hj => by rw [e13 90 j (by omega) (by omega), e12 90 j (by omega), e11 90 j (by omega) (by omega)]; exact c9 j
        have cnm : ∀ j, j ≠ 3 → mm_gi (tlH g12 (-3) 3) 92 j = mm_gi h 92 j := fun j hj => by
          rw [e13 92 j (by omega) (by omega), e12 92 j (by omega)]
          exact e9' 92 j (by unfold xCl; omega)
        refine Inv_or (S := S) (S' := S) hI a13 hl v ?_ ?_ ?_ ?_ v rfl (HC_cg (fun c j c1 c2 => by rw [ec c j (by omega) (by omega), F9.2.1 c j (by omega)]) hc8) ?_ (trail_to tv ⟨?_, fun k hk => ?_⟩ ?_)
        · refine ⟨⟨?_, ?_, ?_, ?_⟩, ?_, ?_, ?_, ?_, ?_⟩
          · rw [e13 0 12 (by omega) (by omega), e12 0 12 (by omega)]
            unfold rfH tlH
            rw [mm_gi_pi, if_neg (by omega), mm_gi_pi, if_pos ⟨rfl, rfl⟩, mm_gi_pi, if_neg (by omega), mm_gi_pi, if_pos ⟨rfl, rfl⟩]
          · rw [e13 0 13 (by omega) (by omega), e12 0 13 (by omega), e13 91 52 (by omega) (by omega), x52]
            unfold rfH
            rw [mm_gi_pi, if_neg (by omega), mm_gi_pi, if_neg (by omega), eg10, mm_gi_pi, if_pos ⟨rfl, rfl⟩]
          · rw [eu 0 14 (by unfold xOr; omega), eu 91 11 (by unfold xOr; omega)]; exact mi3
          · rw [ec 56 4 (by decide) (by omega), F9.2.1 56 4 (by omega), e8 56 4 (by omega), F7.2.1 56 4 (by unfold xRn; omega), f56, e13 91 18 (by omega) (by omega), x18]
          · rw [cnt 0 (by decide), cnm 1 (by decide)]; exact mi5
          · rw [cnt 1 (by decide), cnm 2 (by decide)]; exact mi6
          · have y1 : mm_gi (tlH g12 (-3) 3) 92 3 = mm_gi h 92 3 + 1 := by
              unfold tlH
              rw [mm_gi_pi, if_pos ⟨rfl, rfl⟩, e12 92 3 (by omega), e9' 92 3 (by unfold xCl; omega)]
            have y2 : mm_gi (tlH g12 (-3) 3) 90 2 = mm_gi h 90 2 + 1 := by
              rw [e13 90 2 (by omega) (by omega), e12 90 2 (by omega)]
              unfold rfH
              rw [mm_gi_pi, if_pos ⟨rfl, rfl⟩, eg10, mm_gi_pi, if_neg (by omega), c9 2]
            rw [y1, y2, mi7]
          · rw [cnt 3 (by decide), cnm 5 (by decide)]; exact mi8
          · rw [cnt 4 (by decide), cnm 6 (by decide)]; exact mi9
        · rw [ec 54 1 (by decide) (by omega), F9.2.1 54 1 (by omega), e8 54 1 (by omega), F7.2.1 54 1 (by unfold xRn; omega)]; exact f54
        · rw [e13 91 13 (by omega) (by omega)]; exact x13
        · rw [e13 91 20 (by omega) (by omega)]; exact M12.2.2.2.2.1
        · rw [show mm_gi (tlH g12 (-3) 3) 93 = mm_gi g12 93 from funext fun j => e13 93 j (by omega) (by omega)]
          exact M12.2.2.1
        · rw [ec 50 1 (by decide) (by omega), c50]; exact C.2.2.2.2.1.1
        · have hk16 : k < 16 := Nat.lt_of_lt_of_le hk C.2.2.2.2.2
          have v2 := v.1.2.1
          have e51 : ∀ j, j < 240 → mm_gi (tlH g12 (-3) 3) 51 j = mm_gi h 51 j := fun j hj => by rw [ec 51 j (by decide) (by omega)]; exact c51 j hj
          obtain ⟨q1, q2, q3, q4⟩ := C.2.2.2.2.1.2 k hk
          refine ⟨?_, ?_, ?_, fun c hc => ⟨?_, ?_⟩⟩
          · rw [e51 _ (by omega)]; exact q1
          · rw [e51 _ (by omega)]; exact q2
          · rw [e51 _ (by omega)]; exact q3
          · rw [e51 _ (by omega)]; exact (q4 c hc).1
          · rw [e51 _ (by omega)]; exact (q4 c hc).2
        · exact MT_fx (X := fun c j => (c = 91 ∧ j = 1) ∨ (c = 92 ∧ j = 3)) (Y := y0) v M12.2.2.2.2.2.2 (by unfold tlH; exact fx_pi (Or.inr ⟨rfl, rfl⟩) (fx_pi (Or.inl ⟨rfl, rfl⟩) fx_rf)) (fun c j hc => by omega) M12.2.2.2.2.2.1
  · -- no text
    have H1 := fx_WS F1 H0
    have a1 : OQ h g1 := OQ_tr a0 (rt F1)
    have e1 : ∀ c j, ¬ xRt c j → mm_gi g1 c j = mm_gi h0 c j := F1.2.1
    obtain ⟨g2, eg2⟩ : ∃ g2 : mmH, g2 = mm_pi g1 54 1 0 := ⟨_, rfl⟩
    have a2 : OQ h g2 := OQ_tr a1 (by rw [eg2]; exact OQ_pi (by unfold xOr; omega))
    have H2 : WS g2 := by rw [eg2]; exact WS_pi H1
    refine t_X9_orders_13 _ _ _ ?_
    simp only [s_iadd, s_isub, s_imul, s_iand, s_ior, s_ixor, s_ishl, s_ishr, s_iushr, s_idiv, s_irem, s_ladd, s_lsub, s_lmul, s_ldiv, s_lrem, s_ineg, s_i2l, s_l2i, s_i2c, s_lcmp, s_ic, s_lc, s_nul, s_str, s_il, s_ll, s_al, s_dup, s_dup2, s_pop, s_ifne, s_icne, s_ifeq, s_iflt, s_ifge, s_ifgt, s_ifle, s_iceq, s_iclt, s_icge, s_icgt, s_icle, s_ifnull, s_ifnonnull, s_is, s_ls, s_as, s_ii, s_gi, s_gl, s_gr, s_pi, s_pz, s_pl, s_pr, s_iald, s_zald, s_lald, s_aald, s_alen, s_iast, s_zast, s_last, s_iret, s_zret, s_lret, s_aret, s_vret, s_sw, s_aast, mm_sw, mm_ld, mm_s1, mm_s2, mm_kl, Value.category, va_rf, List.nil_append, List.cons_append, Option.toList, true_and, and_true, and_self, true_or, or_true, eq_self, not_true_eq_false, false_implies, true_implies, not_false_eq_true, mm_10, mm_01, false_or, or_false, Nat.left_eq_add, Nat.add_eq_left, Nat.add_left_cancel_iff, Nat.reduceEqDiff, false_and, and_false, reduceIte, mm_kd_pi, mm_ln_pi, mm_gl_pi, mm_gr_pi, mm_sz_pi, mm_gi_pi, mm_kd_pl, mm_ln_pl, mm_gi_pl, mm_gr_pl, mm_sz_pl, mm_gl_pl, mm_kd_pr, mm_ln_pr, mm_gi_pr, mm_gl_pr, mm_sz_pr, mm_gr_pr, mm_kd_pa, mm_ln_pa, mm_gl_pa, mm_gr_pa, mm_sz_pa, mm_gi_pa, W_kd_0 H1, W_s_0 H1, W_gr_0_0 H1, W_gr_0_1 H1, W_gr_0_2 H1, W_gr_0_3 H1, W_gr_0_4 H1, W_gr_0_5 H1, W_gr_0_6 H1, W_gr_0_7 H1, W_gr_0_8 H1, W_gr_0_9 H1, W_gr_0_10 H1, W_gr_0_11 H1, W_kd_54 H1, W_s_54 H1, W_gr_54_0 H1, ← eg2]
    refine c_X9_orders_29 (bb := (0, 0)) (b := (0, 0)) (Nat.le_of_ble_eq_true rfl) ⟨rfl, rfl⟩ (W_kd_0 H2) (W_s_0 H2) (sp_refuse (r := -6) (p := 4) H2 (by simp) ?_)
    refine t_X9_orders_32 _ _ _ ?_
    simp only [s_iadd, s_isub, s_imul, s_iand, s_ior, s_ixor, s_ishl, s_ishr, s_iushr, s_idiv, s_irem, s_ladd, s_lsub, s_lmul, s_ldiv, s_lrem, s_ineg, s_i2l, s_l2i, s_i2c, s_lcmp, s_ic, s_lc, s_nul, s_str, s_il, s_ll, s_al, s_dup, s_dup2, s_pop, s_ifne, s_icne, s_ifeq, s_iflt, s_ifge, s_ifgt, s_ifle, s_iceq, s_iclt, s_icge, s_icgt, s_icle, s_ifnull, s_ifnonnull, s_is, s_ls, s_as, s_ii, s_gi, s_gl, s_gr, s_pi, s_pz, s_pl, s_pr, s_iald, s_zald, s_lald, s_aald, s_alen, s_iast, s_zast, s_last, s_iret, s_zret, s_lret, s_aret, s_vret, s_sw, s_aast, mm_sw, mm_ld, mm_s1, mm_s2, mm_kl, Value.category, va_rf, List.nil_append, List.cons_append, Option.toList, true_and, and_true, and_self, true_or, or_true, eq_self, not_true_eq_false, false_implies, true_implies, not_false_eq_true, mm_10, mm_01, false_or, or_false, Nat.left_eq_add, Nat.add_eq_left, Nat.add_left_cancel_iff, Nat.reduceEqDiff, false_and, and_false, reduceIte, mm_kd_pi, mm_ln_pi, mm_gl_pi, mm_gr_pi, mm_sz_pi, mm_gi_pi, mm_kd_pl, mm_ln_pl, mm_gi_pl, mm_gr_pl, mm_sz_pl, mm_gl_pl, mm_kd_pr, mm_ln_pr, mm_gi_pr, mm_gl_pr, mm_sz_pr, mm_gr_pr, mm_kd_pa, mm_ln_pa, mm_gl_pa, mm_gr_pa, mm_sz_pa, mm_gi_pa]
    have a3 : OQ h (rfH g2 (-6) 4) := by
      refine OQ_tr a2 ?_
      unfold rfH
      exact OQ_tr (OQ_pi (c := 0) (j := 12) (by unfold xOr; omega)) (OQ_pi (c := 90) (j := 4) (by unfold xOr; omega))
    have H3 := OQ_WS a3 H
    have e3 : ∀ c j, ¬ (c = 0 ∧ j = 12) → ¬ (c = 90 ∧ j = 4) → mm_gi (rfH g2 (-6) 4) c j = mm_gi g2 c j := fun c j q1 q2 => by unfold rfH; rw [mm_gi_pi, if_neg q2, mm_gi_pi, if_neg q1]
    have e2 : ∀ c j, ¬ xRt c j → ¬ (c = 54 ∧ j = 1) → ¬ (c = 0 ∧ j = 13) → mm_gi g2 c j = mm_gi h c j := fun c j q1 q2 q3 => by rw [eg2, mm_gi_pi, if_neg q2, e1 c j q1]; exact e0 c j q3
    have e03 : ∀ c j, ¬ xCl c j → mm_gi (rfH g2 (-6) 4) c j = mm_gi h c j := fun c j q => by
      unfold xCl at q
      rw [e3 c j (by omega) (by omega)]
      exact e2 c j (by unfold xRt; omega) (by omega) (by omega)
    have M3 : MI (rfH g2 (-6) 4) S A nu te := MI_cl a3 e03 M
    have T3 : TPM (rfH g2 (-6) 4) n t := ⟨T2.1, (e03 91 13 (by unfold xCl; omega)).trans T2.2.1, fun i hi => ⟨(T2.2.2 i hi).1, (e03 100 i (by unfold xCl; omega)).trans (T2.2.2 i hi).2⟩⟩
    refine ⟨⟨W_kd_91 H3, W_s_91 H3⟩, sp_morders (d := 989) (ro := .inl 0) T3 (KW_q a3 kw) M3 R (fun N' cl' q => by cases q) (fun f' q g4 F4 x18 x13 x20 x52 M4 => ⟨⟨_, rfl, rfl⟩, ?_⟩) (fun N' cl' s2 q => by cases q) (fun N' cl' i q => by cases q)⟩
    cases q
    have a5 : OQ h (tlH g4 (-6) 6) := by
      refine OQ_tr a3 (OQ_tr (OQ_fx F4 (fun c j q => xMz_or q) (fun c q => by unfold yMr at q; omega)) ?_)
      unfold tlH
      exact OQ_tr (OQ_pi (c := 91) (j := 1) (by unfold xOr; omega)) (OQ_pi (c := 92) (j := 6) (by unfold xOr; omega))
    have e5 : ∀ c j, ¬ (c = 91 ∧ j = 1) → ¬ (c = 92 ∧ j = 6) → mm_gi (tlH g4 (-6) 6) c j = mm_gi g4 c j := fun c j q1 q2 => by unfold tlH; rw [mm_gi_pi, if_neg q2, mm_gi_pi, if_neg q1]
    have e4' : ∀ c j, c < 91 ∨ c = 92 → mm_gi g4 c j = mm_gi (rfH g2 (-6) 4) c j := fun c j q => F4.2.1 c j (by unfold xMz xMw xMt xMd xMo xMr xMa xrw xL xrm; omega)
    have ec : ∀ c j, c < 90 → ¬ (c = 0 ∧ j = 12) → mm_gi (tlH g4 (-6) 6) c j = mm_gi g2 c j := fun c j q1 q2 => by rw [e5 c j (by omega) (by omega), e4' c j (by omega)]; exact e3 c j q2 (by omega)
    have eu : ∀ c j, ¬ xOr c j → mm_gi (tlH g4 (-6) 6) c j = mm_gi h c j := fun c j q => a5.2.2.2.2.1 c j q
    have c9 : ∀ j, mm_gi g2 90 j = mm_gi h 90 j := fun j => e2 90 j (by unfold xRt; omega) (by omega) (by omega)
    have cnt : ∀ j, j ≠ 4 → mm_gi (tlH g4 (-6) 6) 90 j = mm_gi h 90 j := fun j hj => by rw [e5 90 j (by omega) (by omega), e4' 90 j (by omega), e3 90 j (by omega) (by omega)]; exact c9 j
    have cnm : ∀ j, j ≠ 6 → mm_gi (tlH g4 (-6) 6) 92 j = mm_gi h 92 j := fun j hj => by
      rw [e5 92 j (by omega) (by omega), e4' 92 j (by omega)]
      exact e03 92 j (by unfold xCl; omega)
    refine Inv_or (S := S) (S' := S) hI a5 hl v ?_ ?_ ?_ ?_ v rfl (HC_cg (fun c j c1 c2 => by rw [ec c j (by omega) (by omega)]; exact e2 c j (by unfold xRt; omega) (by omega) (by omega)) C.2.2.1) ?_ (trail_to tv ⟨?_, ?_⟩ ?_)
    · refine ⟨⟨?_, ?_, ?_, ?_⟩, ?_, ?_, ?_, ?_, ?_⟩
      · rw [e5 0 12 (by omega) (by omega), e4' 0 12 (by omega)]
        unfold rfH tlH
        rw [mm_gi_pi, if_neg (by omega), mm_gi_pi, if_pos ⟨rfl, rfl⟩, mm_gi_pi, if_neg (by omega), mm_gi_pi, if_pos ⟨rfl, rfl⟩]
      · rw [ec 0 13 (by decide) (by omega), eg2, mm_gi_pi, if_neg (by omega), e1 0 13 (by unfold xRt; omega), eh0, mm_gi_pi, if_pos ⟨rfl, rfl⟩, e5 91 52 (by omega) (by omega), x52]
      · rw [eu 0 14 (by unfold xOr; omega), eu 91 11 (by unfold xOr; omega)]; exact mi3
      · rw [ec 56 4 (by decide) (by omega), eg2, mm_gi_pi, if_neg (by omega), e4, e5 91 18 (by omega) (by omega), x18]
      · rw [cnt 0 (by decide), cnm 1 (by decide)]; exact mi5
      · rw [cnt 1 (by decide), cnm 2 (by decide)]; exact mi6
      · rw [cnt 2 (by decide), cnm 3 (by decide)]; exact mi7
      · rw [cnt 3 (by decide), cnm 5 (by decide)]; exact mi8
      · have y1 : mm_gi (tlH g4 (-6) 6) 92 6 = mm_gi h 92 6 + 1 := by
          unfold tlH
          rw [mm_gi_pi, if_pos ⟨rfl, rfl⟩, e4' 92 6 (by omega), e03 92 6 (by unfold xCl; omega)]
        have y2 : mm_gi (tlH g4 (-6) 6) 90 4 = mm_gi h 90 4 + 1 := by
          rw [e5 90 4 (by omega) (by omega), e4' 90 4 (by omega)]
          unfold rfH
          rw [mm_gi_pi, if_pos ⟨rfl, rfl⟩, c9 4]
        rw [y1, y2, mi9]
    · rw [ec 54 1 (by decide) (by omega), eg2, mm_gi_pi, if_pos ⟨rfl, rfl⟩]
    · rw [e5 91 13 (by omega) (by omega)]; exact x13
    · rw [e5 91 20 (by omega) (by omega)]; exact x20
    · rw [show mm_gi (tlH g4 (-6) 6) 93 = mm_gi g4 93 from funext fun j => e5 93 j (by omega) (by omega)]
      exact M4.2.2.1
    · rw [ec 50 1 (by decide) (by omega), e2 50 1 (by unfold xRt; omega) (by omega) (by omega)]; exact C.2.2.2.2.1.1
    · rw [show mm_gi (tlH g4 (-6) 6) 51 = mm_gi h 51 from funext fun j => by rw [ec 51 j (by decide) (by omega)]; exact e2 51 j (by unfold xRt; omega) (by omega) (by omega)]
      exact C.2.2.2.2.1.2
    · exact MT_fx (X := fun c j => (c = 91 ∧ j = 1) ∨ (c = 92 ∧ j = 6)) (Y := y0) v M4.2.2.2.2.2.2 (by unfold tlH; exact fx_pi (Or.inr ⟨rfl, rfl⟩) (fx_pi (Or.inl ⟨rfl, rfl⟩) fx_rf)) (fun c j hc => by omega) M4.2.2.2.2.2.1
end
