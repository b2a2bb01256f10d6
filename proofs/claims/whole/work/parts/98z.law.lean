/-! law: the pair -/
section
variable {h g k : mmH} {W : Nat}
theorem GR_pi {a j : Nat} {x : Int32} (hx : xTx W a j) : GR W h (mm_pi h a j x) := GR_fx (fx_pi (X := xTx W) (Y := y0) hx fx_rf) (fun _ _ q => q) (fun _ q => q.elim)
/-- a text that was refused -/
theorem Inv_txf {S : HSt} (hI : Inv LRw h) (v : HV S) (hc : HC h 4 S) (hm : HM (mm_gi h 93) 0 S) (hl : HLw LRw h 4 (mm_gi h 93) 0 (S 0 3)) (htr : I_trail h S) (a : GR W h g) (e93 : ∀ j, mm_gi g 93 j = mm_gi h 93 j) (e4 : mm_gi g 4 14 = mm_gi h 4 14) (er : ∀ j, mm_gr g 14 j = mm_gr h 14 j) (hmisc : I_misc g) (t1 : mm_gi g 54 1 = 0) (t2 : mm_gi g 91 13 = 0) (t3 : mm_gi g 91 20 = 0) : Inv LRw g := by
  have hw := hI.1
  have lt : ∀ c, c < 122 → c < mm_sz h := fun c hc => Nat.lt_of_lt_of_le hc hw.1
  have ei : ∀ c j, c < 122 → ¬ xTx W c j → mm_gi g c j = mm_gi h c j := fun c j hc q => a.2.2.2.1 c j (lt c hc) q
  have big : ∀ c, 122 ≤ c → c < mm_sz h → mm_kd g c = mm_kd h c ∧ mm_ln g c = mm_ln h c ∧ (∀ j, mm_gi g c j = mm_gi h c j) ∧ ∀ j, mm_gr g c j = mm_gr h c j := fun c c1 c2 => ⟨(a.2.1 c c2).1, (a.2.1 c c2).2, fun j => a.2.2.2.1 c j c2 (by unfold xTx xRt xLw xMw xMt xMd xRw; omega), fun j => a.2.2.1 c j c2 (by omega)⟩
  have ef : mm_gi g 93 = mm_gi h 93 := funext e93
  refine Inv_grow hI a hmisc ⟨0, by decide, t1, t2, fun i hi => by omega⟩ t3 v (HC_cg (fun c j c1 c2 => ?_) hc) (by rw [ef]; exact hm) (HLw_cp FRw v.1.2.2.2.1 big a.1 (fun w _ => er w) (fun j _ _ => by rw [ef]) hl) (I_trail_cg ?_ ?_ (fun j => ?_) (fun j => ?_) (fun j => ?_) ⟨rfl, rfl, rfl, rfl⟩ htr)
  · by_cases q : c = 4 ∧ j = 14
    · rw [q.1, q.2]; exact e4
    · exact ei c j (by omega) (by unfold xTx xRt xLw xMw xMt xMd xRw; omega)
  · exact ei 50 1 (by decide) (by unfold xTx xRt xLw xMw xMt xMd xRw; omega)
  · exact ei 91 8 (by decide) (by unfold xTx xRt xLw xMw xMt xMd xRw; omega)
  · exact ei 51 j (by decide) (by unfold xTx xRt xLw xMw xMt xMd xRw; omega)
  · exact ei 96 j (by decide) (by unfold xTx xRt xLw xMw xMt xMd xRw; omega)
  · exact ei 97 j (by decide) (by unfold xTx xRt xLw xMw xMt xMd xRw; omega)
theorem op_10 : OP_10 (Inv LRw) := by
  intro h hI
  obtain ⟨H, mi, tp, ⟨S, v, hc, hm, hl, htr⟩, i0, i1, sc, lr, co⟩ := id hI
  obtain ⟨n, t, T1, T2⟩ := tape_of tp
  have kw := KW_of co
  have W6 : S 0 3 ≤ 6 := v.1.2.2.2.1
  have h14 : mm_gi h 4 14 = nI (S 0 3) := hc.1.2.2.2.1
  have h93 : mm_gi h 93 3 = nI (S 0 3) := hm.1.2.2.2.1
  refine e_X9_law (t_X9_law_0 _ _ _ ?_)
  by_cases z6 : S 0 3 < 6
  · simp only [s_iadd, s_isub, s_imul, s_iand, s_ior, s_ixor, s_ishl, s_ishr, s_iushr, s_idiv, s_irem, s_ladd, s_lsub, s_lmul, s_ldiv, s_lrem, s_ineg, s_i2l, s_l2i, s_i2c, s_lcmp, s_ic, s_lc, s_nul, s_str, s_il, s_ll, s_al, s_dup, s_dup2, s_pop, s_ifne, s_icne, s_ifeq, s_iflt, s_ifge, s_ifgt, s_ifle, s_iceq, s_iclt, s_icge, s_icgt, s_icle, s_ifnull, s_ifnonnull, s_is, s_ls, s_as, s_ii, s_gi, s_gl, s_gr, s_pi, s_pz, s_pl, s_pr, s_iald, s_zald, s_lald, s_aald, s_alen, s_iast, s_zast, s_last, s_iret, s_zret, s_lret, s_aret, s_vret, s_sw, s_aast, mm_sw, mm_ld, mm_s1, mm_s2, mm_kl, Value.category, va_rf, List.nil_append, List.cons_append, Option.toList, true_and, and_true, and_self, true_or, or_true, eq_self, not_true_eq_false, false_implies, true_implies, not_false_eq_true, mm_10, mm_01, false_or, or_false, Nat.left_eq_add, Nat.add_eq_left, Nat.add_left_cancel_iff, Nat.reduceEqDiff, false_and, and_false, reduceIte, mm_kd_pi, mm_ln_pi, mm_gl_pi, mm_gr_pi, mm_sz_pi, mm_gi_pi, mm_kd_pl, mm_ln_pl, mm_gi_pl, mm_gr_pl, mm_sz_pl, mm_gl_pl, mm_kd_pr, mm_ln_pr, mm_gi_pr, mm_gl_pr, mm_sz_pr, mm_gr_pr, mm_kd_pa, mm_ln_pa, mm_gl_pa, mm_gr_pa, mm_sz_pa, mm_gi_pa, W_kd_0 H, W_s_0 H, W_gr_0_0 H, W_gr_0_1 H, W_gr_0_2 H, W_gr_0_3 H, W_gr_0_4 H, W_gr_0_5 H, W_gr_0_6 H, W_gr_0_7 H, W_gr_0_8 H, W_gr_0_9 H, W_gr_0_10 H, W_gr_0_11 H, W_kd_4 H, W_s_4 H, W_gr_4_0 H, W_gr_4_2 H, W_gr_4_3 H, W_gr_4_4 H, W_gr_4_7 H, W_gr_4_8 H, W_gr_4_9 H, W_gr_4_11 H, W_gr_4_12 H, W_gr_4_13 H, W_gr_4_15 H, h14, show (nI (S 0 3) < 6) = True from eq_true (nI_lt (b := 6) z6 (by decide))]
    refine c_X9_law_32 (bb := (0, 0)) (b := (8, 880)) (Nat.le_of_ble_eq_true rfl) ⟨rfl, rfl⟩ (W_kd_56 H) (W_s_56 H) (sp_take (d := 938) (o := false) H T1 (fun g1 N cl p c z I R N1 C F1 => ?_) (fun g1 f R F1 e4 f4 => ?_))
    · -- read
      have Hg1 := fx_WS F1 H
      have eg1 : ∀ c j, ¬ xRt c j → mm_gi g1 c j = mm_gi h c j := F1.2.1
      have wf := tr_wf _ _ _ _ _ _ R N cl rfl (fun j hj => by omega)
      obtain ⟨g2, eg2⟩ : ∃ g2 : mmH, g2 = mm_pi g1 54 1 0 := ⟨_, rfl⟩
      have Hg2 : WS g2 := by rw [eg2]; exact WS_pi Hg1
      have N12 := C.2.2.1.2
      have z4 := C.1.2.2.1.2.2.2
      have q0 : mm_gi g2 58 0 = nI N := by rw [eg2, mm_gi_pi, if_neg (by omega)]; exact C.2.2.1.1
      have q6 : mm_gi g2 58 6 = nI z := by rw [eg2, mm_gi_pi, if_neg (by omega)]; exact C.1.2.2.2.2.2.2.1
      refine t_X9_law_35 _ _ _ ?_
      simp only [s_iadd, s_isub, s_imul, s_iand, s_ior, s_ixor, s_ishl, s_ishr, s_iushr, s_idiv, s_irem, s_ladd, s_lsub, s_lmul, s_ldiv, s_lrem, s_ineg, s_i2l, s_l2i, s_i2c, s_lcmp, s_ic, s_lc, s_nul, s_str, s_il, s_ll, s_al, s_dup, s_dup2, s_pop, s_ifne, s_icne, s_ifeq, s_iflt, s_ifge, s_ifgt, s_ifle, s_iceq, s_iclt, s_icge, s_icgt, s_icle, s_ifnull, s_ifnonnull, s_is, s_ls, s_as, s_ii, s_gi, s_gl, s_gr, s_pi, s_pz, s_pl, s_pr, s_iald, s_zald, s_lald, s_aald, s_alen, s_iast, s_zast, s_last, s_iret, s_zret, s_lret, s_aret, s_vret, s_sw, s_aast, mm_sw, mm_ld, mm_s1, mm_s2, mm_kl, Value.category, va_rf, List.nil_append, List.cons_append, Option.toList, true_and, and_true, and_self, true_or, or_true, eq_self, not_true_eq_false, false_implies, true_implies, not_false_eq_true, mm_10, mm_01, false_or, or_false, Nat.left_eq_add, Nat.add_eq_left, Nat.add_left_cancel_iff, Nat.reduceEqDiff, false_and, and_false, reduceIte, mm_kd_pi, mm_ln_pi, mm_gl_pi, mm_gr_pi, mm_sz_pi, mm_gi_pi, mm_kd_pl, mm_ln_pl, mm_gi_pl, mm_gr_pl, mm_sz_pl, mm_gl_pl, mm_kd_pr, mm_ln_pr, mm_gi_pr, mm_gl_pr, mm_sz_pr, mm_gr_pr, mm_kd_pa, mm_ln_pa, mm_gl_pa, mm_gr_pa, mm_sz_pa, mm_gi_pa, W_kd_0 Hg1, W_s_0 Hg1, W_gr_0_0 Hg1, W_gr_0_1 Hg1, W_gr_0_2 Hg1, W_gr_0_3 Hg1, W_gr_0_4 Hg1, W_gr_0_5 Hg1, W_gr_0_6 Hg1, W_gr_0_7 Hg1, W_gr_0_8 Hg1, W_gr_0_9 Hg1, W_gr_0_10 Hg1, W_gr_0_11 Hg1, W_kd_54 Hg1, W_s_54 Hg1, W_gr_54_0 Hg1, ← eg2, show ((1 : Int32) = 0) = False by decide, W_kd_0 Hg2, W_s_0 Hg2, W_gr_0_0 Hg2, W_gr_0_1 Hg2, W_gr_0_2 Hg2, W_gr_0_3 Hg2, W_gr_0_4 Hg2, W_gr_0_5 Hg2, W_gr_0_6 Hg2, W_gr_0_7 Hg2, W_gr_0_8 Hg2, W_gr_0_9 Hg2, W_gr_0_10 Hg2, W_gr_0_11 Hg2, W_kd_56 Hg2, W_s_56 Hg2, W_gr_56_0 Hg2, W_gr_56_1 Hg2]
      obtain ⟨Rr, eR⟩ : ∃ Rr, 880 = 9 + (5 * N + 2 * z) + Rr := ⟨880 - (9 + (5 * N + 2 * z)), by omega⟩
      refine c_X9_law_60 (bb := (8 + 0, 9 + (5 * N + 2 * z) + Rr)) (b := (0, 0)) (Nat.le_of_ble_eq_true rfl) ⟨rfl, by show 880 = 9 + (5 * N + 2 * z) + Rr + 0; omega⟩ (W_kd_58 Hg2) (W_s_58 Hg2) (sp_compact (d := 997) (b := (0, Rr)) Hg2 q0 q6 N12 z4 (fun g3 A => ?_))
      obtain ⟨⟨A1, ⟨A2, A3⟩, A4, A5⟩, ⟨A6, A7⟩, A8⟩ := A
      have s2 : 122 ≤ mm_sz g2 := Hg2.1
      -- the grown heap
      have G12 : GR (S 0 3) h g2 := by
        refine GR_tr (GR_fx F1 (fun _ _ q => Or.inl q) (fun _ q => q.elim)) ?_
        rw [eg2]
        exact GR_pi (by unfold xTx; omega)
      have G3 : GR (S 0 3) h g3 := GR_tr G12 ⟨A2, fun c hc => ⟨(A3 c hc).1, (A3 c hc).2.1⟩, fun c j hc _ => (A3 c hc).2.2.2.2 j, fun c j hc _ => (A3 c hc).2.2.1 j, fun c hc _ j => (A3 c hc).2.2.2.1 j⟩
      have Hg3 := GR_WS G3 H
      have lt3 : ∀ c, c < 122 → c < mm_sz g2 := fun c hc => by omega
      have e3 : ∀ c j, c < 122 → mm_gi g3 c j = mm_gi g2 c j := fun c j hc => (A3 c (lt3 c hc)).2.2.1 j
      have e23 : ∀ c j, c < 122 → ¬ (c = 54 ∧ j = 1) → ¬ xRt c j → mm_gi g3 c j = mm_gi h c j := fun c j hc q1 q2 => by rw [e3 c j hc, eg2, mm_gi_pi, if_neg q1]; exact eg1 c j q2
      have g314 : mm_gi g3 4 14 = nI (S 0 3) := (e23 4 14 (by decide) (by omega) (by unfold xRt; omega)).trans h14
      refine c_X9_law_63 (bb := (0, 0)) (b := (0, 0)) (Nat.le_of_ble_eq_true rfl) ⟨rfl, rfl⟩ (W_kd_4 Hg3) (W_s_4 Hg3) (sp_addLaw (W_h4 Hg3) g314 z6 ⟨A4, by omega⟩ ?_)
      obtain ⟨g4, eg4⟩ : ∃ g4 : mmH, g4 = addW g3 4 (S 0 3) (mm_sz g2) := ⟨_, rfl⟩
      rw [← eg4]
      have G4 : GR (S 0 3) g3 g4 := by
        rw [eg4]
        unfold addW
        refine ⟨Nat.le_refl _, fun c _ => ⟨rfl, rfl⟩, fun c j _ q => ?_, fun c j _ q => ?_, fun _ _ _ _ => rfl⟩
        · show mm_gr (mm_pr g3 14 (S 0 3) (some (mm_sz g2))) c j = _
          rw [mm_gr_pr, if_neg q]
        · rw [mm_gi_pi, if_neg (fun u => q (by unfold xTx; omega)), mm_gi_pr]
      have Hg4 := GR_WS G4 Hg3
      have r14 : ∀ j, mm_gr g4 14 j = if j = S 0 3 then some (mm_sz g2) else mm_gr h 14 j := fun j => by
        rw [eg4]
        show mm_gr (mm_pr g3 14 (S 0 3) (some (mm_sz g2))) 14 j = _
        rw [mm_gr_pr]
        by_cases q : j = S 0 3
        · rw [if_pos ⟨rfl, q⟩, if_pos q]
        · rw [if_neg (fun u => q u.2), if_neg q]
          exact G3.2.2.1 14 j (Nat.lt_of_lt_of_le (by decide) H.1) (fun u => q u.2)
      have e4' : ∀ c j, ¬ (c = 4 ∧ j = 14) → mm_gi g4 c j = mm_gi g3 c j := fun c j q => by rw [eg4]; unfold addW; rw [mm_gi_pi, if_neg q, mm_gi_pr]
      have s4 : mm_sz g4 = mm_sz g3 := by rw [eg4]; rfl
      have k4 : mm_kd g4 = mm_kd g3 := by rw [eg4]; rfl
      have l4 : mm_ln g4 = mm_ln g3 := by rw [eg4]; rfl
      have r4 : ∀ c j, c ≠ 14 → mm_gr g4 c j = mm_gr g3 c j := fun c j q => by
        rw [eg4]
        show mm_gr (mm_pr g3 14 (S 0 3) (some (mm_sz g2))) c j = _
        rw [mm_gr_pr, if_neg (fun u => q u.1)]
      have g414 : mm_gi g4 4 14 = nI (S 0 3 + 1) := by rw [eg4]; unfold addW; rw [mm_gi_pi, if_pos ⟨rfl, rfl⟩]
      refine c_X9_law_66 (bb := (0, 0)) (b := (0, 0)) (Nat.le_of_ble_eq_true rfl) ⟨rfl, rfl⟩ (W_kd_0 Hg4) (W_s_0 Hg4) (sp_accept Hg4 ?_)
      refine t_X9_law_69 _ _ _ ?_
      refine t_X9_law_78 _ _ _ ?_
      simp only [s_iadd, s_isub, s_imul, s_iand, s_ior, s_ixor, s_ishl, s_ishr, s_iushr, s_idiv, s_irem, s_ladd, s_lsub, s_lmul, s_ldiv, s_lrem, s_ineg, s_i2l, s_l2i, s_i2c, s_lcmp, s_ic, s_lc, s_nul, s_str, s_il, s_ll, s_al, s_dup, s_dup2, s_pop, s_ifne, s_icne, s_ifeq, s_iflt, s_ifge, s_ifgt, s_ifle, s_iceq, s_iclt, s_icge, s_icgt, s_icle, s_ifnull, s_ifnonnull, s_is, s_ls, s_as, s_ii, s_gi, s_gl, s_gr, s_pi, s_pz, s_pl, s_pr, s_iald, s_zald, s_lald, s_aald, s_alen, s_iast, s_zast, s_last, s_iret, s_zret, s_lret, s_aret, s_vret, s_sw, s_aast, mm_sw, mm_ld, mm_s1, mm_s2, mm_kl, Value.category, va_rf, List.nil_append, List.cons_append, Option.toList, true_and, and_true, and_self, true_or, or_true, eq_self, not_true_eq_false, false_implies, true_implies, not_false_eq_true, mm_10, mm_01, false_or, or_false, Nat.left_eq_add, Nat.add_eq_left, Nat.add_left_cancel_iff, Nat.reduceEqDiff, false_and, and_false, reduceIte, mm_kd_pi, mm_ln_pi, mm_gl_pi, mm_gr_pi, mm_sz_pi, mm_gi_pi, mm_kd_pl, mm_ln_pl, mm_gi_pl, mm_gr_pl, mm_sz_pl, mm_gl_pl, mm_kd_pr, mm_ln_pr, mm_gi_pr, mm_gl_pr, mm_sz_pr, mm_gr_pr, mm_kd_pa, mm_ln_pa, mm_gl_pa, mm_gr_pa, mm_sz_pa, mm_gi_pa]
      have H5 : WS (acH g4) := WS_pi Hg4
      have e5 : ∀ c j, ¬ (c = 0 ∧ j = 12) → mm_gi (acH g4) c j = mm_gi g4 c j := fun c j q => by unfold acH; rw [mm_gi_pi, if_neg q]
      have G5 : GR (S 0 3) h (acH g4) := GR_tr G3 (GR_tr G4 (GR_pi (by unfold xTx; omega)))
      have e05 : ∀ c j, c < 122 → ¬ (c = 54 ∧ j = 1) → ¬ (c = 4 ∧ j = 14) → ¬ (c = 0 ∧ j = 12) → ¬ xRt c j → mm_gi (acH g4) c j = mm_gi h c j := fun c j q1 q2 q3 q4 q5 => by rw [e5 c j q4, e4' c j q3]; exact e23 c j q1 q2 q5
      have T5 : TPM (acH g4) n t := ⟨T2.1, (e05 91 13 (by decide) (by omega) (by omega) (by omega) (by unfold xRt; omega)).trans T2.2.1, fun i hi => ⟨(T2.2.2 i hi).1, (e05 100 i (by decide) (by omega) (by omega) (by omega) (by unfold xRt; omega)).trans (T2.2.2 i hi).2⟩⟩
      have ltz : ∀ c, c < 122 → c < mm_sz h := fun c hc => Nat.lt_of_lt_of_le hc H.1
      have kw5 : KW (acH g4) := by
        obtain ⟨c1, c2, c3, c4, c5⟩ := kw
        exact ⟨fun k hk => (G5.2.2.2.2 106 (ltz _ (by decide)) (by decide) k).trans (c1 k hk), fun k hk => (G5.2.2.2.2 107 (ltz _ (by decide)) (by decide) k).trans (c2 k hk), fun k hk => (G5.2.2.2.2 108 (ltz _ (by decide)) (by decide) k).trans (c3 k hk), fun k hk => (G5.2.2.2.2 118 (ltz _ (by decide)) (by decide) k).trans (c4 k hk), fun k hk => (G5.2.2.2.2 119 (ltz _ (by decide)) (by decide) k).trans (c5 k hk)⟩
      have w5 : mm_gi (acH g4) 93 3 = nI (S 0 3) := (e05 93 3 (by decide) (by omega) (by omega) (by omega) (by unfold xRt; omega)).trans h93
      refine ⟨⟨W_kd_91 H5, W_s_91 H5⟩, sp_mlaw (d := 990) H5 T5 kw5 w5 z6 R (fun f q => by cases q) (fun N' cl' q g6 F6 f18 f13 f20 f93 ML => ⟨⟨_, rfl, rfl⟩, ?_⟩)⟩
      cases q
      -- the whole heap
      have G6 : GR (S 0 3) h (mm_pi g6 91 1 0) := GR_tr G5 (GR_tr (GR_fx F6 (fun c j q => Or.inr (Or.inr (Or.inr (Or.inr (Or.inl q))))) (fun c q => q)) (GR_pi (by unfold xTx; omega)))
      have e6 : ∀ c j, ¬ (c = 91 ∧ j = 1) → mm_gi (mm_pi g6 91 1 0) c j = mm_gi g6 c j := fun c j q => by rw [mm_gi_pi, if_neg q]
      have e56 : ∀ c j, ¬ xLw (S 0 3) c j → mm_gi g6 c j = mm_gi (acH g4) c j := F6.2.1
      have r6 : ∀ c j, mm_gr (mm_pi g6 91 1 0) c j = mm_gr g4 c j := fun c j => by
        show mm_gr g6 c j = _
        rw [F6.1.2.2.1]
        rfl
      have s6 : mm_sz (mm_pi g6 91 1 0) = mm_sz g3 := by
        show mm_sz g6 = _
        rw [F6.1.2.2.2, ← s4]
        rfl
      have k6 : mm_kd (mm_pi g6 91 1 0) = mm_kd g3 := by
        show mm_kd g6 = _
        rw [F6.1.1, ← k4]
        rfl
      have l6 : mm_ln (mm_pi g6 91 1 0) = mm_ln g3 := by
        show mm_ln g6 = _
        rw [F6.1.2.1, ← l4]
        rfl
      have big : ∀ c, 122 ≤ c → c < mm_sz h → mm_kd (mm_pi g6 91 1 0) c = mm_kd h c ∧ mm_ln (mm_pi g6 91 1 0) c = mm_ln h c ∧ (∀ j, mm_gi (mm_pi g6 91 1 0) c j = mm_gi h c j) ∧ ∀ j, mm_gr (mm_pi g6 91 1 0) c j = mm_gr h c j := fun c c1 c2 => ⟨(G6.2.1 c c2).1, (G6.2.1 c c2).2, fun j => G6.2.2.2.1 c j c2 (by unfold xTx xRt xLw xMw xMt xMd xRw; omega), fun j => G6.2.2.1 c j c2 (by omega)⟩
      have new : ∀ c j, 122 ≤ c → mm_gi (mm_pi g6 91 1 0) c j = mm_gi g3 c j := fun c j hc => by rw [e6 c j (by omega), e56 c j (by unfold xLw xMw xMt xMd xRw; omega), e5 c j (by omega), e4' c j (by omega)]
      have f6 : ∀ j, ¬ (75 + 900 * S 0 3 ≤ j ∧ j < 75 + 900 * S 0 3 + 900) → j ≠ 3 → mm_gi (mm_pi g6 91 1 0) 93 j = mm_gi h 93 j := fun j q1 q2 => by rw [e6 93 j (by omega), e56 93 j (by unfold xLw xMw xMt xMd xRw; omega)]; exact e05 93 j (by decide) (by omega) (by omega) (by omega) (by unfold xRt; omega)
      have f63 : mm_gi (mm_pi g6 91 1 0) 93 3 = nI (S 0 3 + 1) := (e6 93 3 (by omega)).trans f93
      have ML6 : MLW (mm_gi (mm_pi g6 91 1 0) 93) (75 + 900 * S 0 3) (lwOf N cl) := MLW_cg (fun j _ => e6 93 _ (by omega)) ML
      have tx : txS (mm_pi g6 91 1 0) (mm_sz g2) N z := by
        unfold txS
        rw [k6, l6, s6]
        simp only [r6]
        have rr : ∀ f j, j < 7 → f = flT j → mm_gr g4 (mm_sz g2) f = some (mm_sz g2 + 1 + j) := fun f j hj hf => by
          rw [r4 _ _ (by omega), hf]
          exact (A5 j hj).2.2
        refine ⟨⟨A4, by omega⟩, ⟨rr 1 0 (by decide) rfl, rr 2 1 (by decide) rfl, rr 3 2 (by decide) rfl, rr 4 3 (by decide) rfl, rr 5 4 (by decide) rfl, rr 7 5 (by decide) rfl, rr 8 6 (by decide) rfl⟩, ⟨(A5 0 (by decide)).1, (A5 1 (by decide)).1, (A5 2 (by decide)).1, (A5 3 (by decide)).1, (A5 4 (by decide)).1, (A5 5 (by decide)).1, (A5 6 (by decide)).1⟩, (A5 0 (by decide)).2.1, (A5 1 (by decide)).2.1, (A5 2 (by decide)).2.1, (A5 3 (by decide)).2.1, (A5 4 (by decide)).2.1, (A5 5 (by decide)).2.1, (A5 6 (by decide)).2.1⟩
      obtain ⟨cw, xt⟩ := clw_of (k := mm_pi g6 91 1 0) C wf tx (by omega) ((new _ _ s2).trans A6) ((new _ _ s2).trans A7) (fun i hi j hj => by
        rw [new _ _ (by omega), A8 i hi j hj, eg2, mm_gi_pi, if_neg (by omega)])
      -- the house with one law more
      have v' : HV (fun a b => if a = 0 ∧ b = 3 then S 0 3 + 1 else S a b) := by
        obtain ⟨⟨v1, v2, v3, v4, v5, v6⟩, w1, w2, w3, w4⟩ := v
        exact ⟨⟨v1, v2, v3, z6, v5, Nat.le_succ_of_le v6⟩, w1, w2, w3, w4⟩
      have ei : ∀ c j, c < 122 → ¬ xTx (S 0 3) c j → mm_gi (mm_pi g6 91 1 0) c j = mm_gi h c j := fun c j hc q => G6.2.2.2.1 c j (ltz c hc) q
      refine Inv_grow (S' := fun a b => if a = 0 ∧ b = 3 then S 0 3 + 1 else S a b) hI G6 ?_ ⟨0, by decide, ?_, ?_, fun i hi => by omega⟩ ?_ v' ?_ ?_ ⟨?_, ?_⟩ (I_trail_cg ?_ ?_ (fun j => ?_) (fun j => ?_) (fun j => ?_) ⟨rfl, rfl, rfl, rfl⟩ htr)
      · obtain ⟨⟨m1, m2, m3, m4⟩, m5, m6, m7, m8, m9⟩ := mi
        refine ⟨⟨?_, ?_, ?_, ?_⟩, ?_, ?_, ?_, ?_, ?_⟩
        · rw [e6 0 12 (by omega), e56 0 12 (by unfold xLw xMw xMt xMd xRw; omega)]
          unfold acH
          rw [mm_gi_pi, if_pos ⟨rfl, rfl⟩, mm_gi_pi, if_pos ⟨rfl, rfl⟩]
        · rw [e6 0 13 (by omega), e56 0 13 (by unfold xLw xMw xMt xMd xRw; omega), e05 0 13 (by decide) (by omega) (by omega) (by omega) (by unfold xRt; omega), e6 91 52 (by omega), e56 91 52 (by unfold xLw xMw xMt xMd xRw; omega), e05 91 52 (by decide) (by omega) (by omega) (by omega) (by unfold xRt; omega)]
          exact m2
        · rw [ei 0 14 (by decide) (by unfold xTx xRt xLw xMw xMt xMd xRw; omega), ei 91 11 (by decide) (by unfold xTx xRt xLw xMw xMt xMd xRw; omega)]
          exact m3
        · rw [e6 56 4 (by omega), e56 56 4 (by unfold xLw xMw xMt xMd xRw; omega), e5 56 4 (by omega), e4' 56 4 (by omega), e3 56 4 (by decide), eg2, mm_gi_pi, if_neg (by omega), e6 91 18 (by omega), f18]
          exact C.1.2.2.1.2.1
        all_goals rw [e6 90 _ (by omega), e56 90 _ (by unfold xLw xMw xMt xMd xRw; omega), e05 90 _ (by decide) (by omega) (by omega) (by omega) (by unfold xRt; omega), e6 92 _ (by omega), e56 92 _ (by unfold xLw xMw xMt xMd xRw; omega), e05 92 _ (by decide) (by omega) (by omega) (by omega) (by unfold xRt; omega)]
        · exact m5
        · exact m6
        · exact m7
        · exact m8
        · exact m9
      · rw [e6 54 1 (by omega), e56 54 1 (by unfold xLw xMw xMt xMd xRw; omega), e5 54 1 (by omega), e4' 54 1 (by omega), e3 54 1 (by decide), eg2, mm_gi_pi, if_pos ⟨rfl, rfl⟩]
        rfl
      · rw [e6 91 13 (by omega)]; exact f13
      · rw [e6 91 20 (by omega)]; exact f20
      · obtain ⟨⟨c1, c2, c3, c4, c5, c6⟩, d1, d2, d3, d4⟩ := hc
        have ec : ∀ c j, 4 ≤ c → c ≤ 13 → ¬ (c = 4 ∧ j = 14) → mm_gi (mm_pi g6 91 1 0) c j = mm_gi h c j := fun c j q1 q2 q3 => ei c j (by omega) (by unfold xTx xRt xLw xMw xMt xMd xRw; omega)
        refine ⟨⟨?_, ?_, ?_, ?_, ?_, ?_⟩, fun c hc => ?_, fun l hl => ?_, fun t ht => ?_, fun k hk => ?_⟩
        · rw [ec 4 1 (by omega) (by omega) (by omega)]; exact c1
        · rw [ec 4 6 (by omega) (by omega) (by omega)]; exact c2
        · rw [ec 4 10 (by omega) (by omega) (by omega)]; exact c3
        · rw [e6 4 14 (by omega), e56 4 14 (by unfold xLw xMw xMt xMd xRw; omega), e5 4 14 (by omega)]; exact g414
        · rw [ec 4 5 (by omega) (by omega) (by omega)]; exact c5
        · rw [ec 4 16 (by omega) (by omega) (by omega)]; exact c6
        · rw [ec 8 c (by omega) (by omega) (by omega), ec 10 c (by omega) (by omega) (by omega), ec 9 c (by omega) (by omega) (by omega)]; exact d1 c hc
        · rw [ec 5 l (by omega) (by omega) (by omega), ec 6 l (by omega) (by omega) (by omega), ec 7 l (by omega) (by omega) (by omega)]; exact d2 l hl
        · rw [ec 11 t (by omega) (by omega) (by omega), ec 12 t (by omega) (by omega) (by omega)]; exact d3 t ht
        · rw [ec 13 k (by omega) (by omega) (by omega)]; exact d4 k hk
      · obtain ⟨⟨c1, c2, c3, c4, c5⟩, d1, d2, d3, d4⟩ := hm
        have ec : ∀ j, j < 75 → j ≠ 3 → mm_gi (mm_pi g6 91 1 0) 93 j = mm_gi h 93 j := fun j q1 q2 => f6 j (by omega) q2
        have L8 := v.1.1
        have C6 := v.1.2.1
        have T8 := v.1.2.2.1
        refine ⟨⟨?_, ?_, ?_, f63, ?_⟩, fun c hc => ?_, fun l hl => ?_, fun t ht => ?_, fun k hk => ?_⟩
        · rw [ec 0 (by omega) (by omega)]; exact c1
        · rw [ec (0 + 1) (by omega) (by omega)]; exact c2
        · rw [ec (0 + 2) (by omega) (by omega)]; exact c3
        · rw [ec (0 + 4) (by omega) (by omega)]; exact c5
        · have hc : c < S 0 1 := hc
          rw [ec _ (by omega) (by omega), ec _ (by omega) (by omega), ec _ (by omega) (by omega)]; exact d1 c hc
        · have hl : l < S 0 0 := hl
          rw [ec _ (by omega) (by omega), ec _ (by omega) (by omega), ec _ (by omega) (by omega), ec _ (by omega) (by omega)]; exact d2 l hl
        · have ht : t < S 0 2 := ht
          rw [ec _ (by omega) (by omega), ec _ (by omega) (by omega)]; exact d3 t ht
        · rw [ec _ (by omega) (by omega)]; exact d4 k hk
      · intro w hw
        have hw : w < S 0 3 + 1 := hw
        by_cases q : w = S 0 3
        · subst q
          refine ⟨mm_sz g2, by rw [r6, r14, if_pos rfl], s2, lwOf N cl, cw, ?_, xt⟩
          rw [Nat.zero_add]
          exact ML6
        · obtain ⟨tt, t1, t2, t3⟩ := hl.1 w (by omega)
          refine ⟨tt, by rw [r6, r14, if_neg q]; exact t1, t2, FRw h _ tt _ _ _ _ t2 t3 big G6.1 (fun j hj => ?_)⟩
          exact f6 _ (by omega) (by omega)
      · intro w hw tt ht
        rw [r6, r14] at ht
        by_cases q : w = S 0 3
        · rw [if_pos q] at ht
          cases ht
          exact ⟨s2, by rw [k6]; exact A4, by rw [s6]; omega⟩
        · rw [if_neg q] at ht
          obtain ⟨q1, q2, q3⟩ := hl.2 w hw tt ht
          exact ⟨q1, by rw [(G6.2.1 tt q3).1]; exact q2, Nat.lt_of_lt_of_le q3 G6.1⟩
      · exact ei 50 1 (by decide) (by unfold xTx xRt xLw xMw xMt xMd xRw; omega)
      · exact ei 91 8 (by decide) (by unfold xTx xRt xLw xMw xMt xMd xRw; omega)
      · exact ei 51 j (by decide) (by unfold xTx xRt xLw xMw xMt xMd xRw; omega)
      · exact ei 96 j (by decide) (by unfold xTx xRt xLw xMw xMt xMd xRw; omega)
      · exact ei 97 j (by decide) (by unfold xTx xRt xLw xMw xMt xMd xRw; omega)
    · -- refused
      have Hg1 := fx_WS F1 H
      have eg1 : ∀ c j, ¬ xRt c j → mm_gi g1 c j = mm_gi h c j := F1.2.1
      obtain ⟨g2, eg2⟩ : ∃ g2 : mmH, g2 = mm_pi g1 54 1 0 := ⟨_, rfl⟩
      have Hg2 : WS g2 := by rw [eg2]; exact WS_pi Hg1
      refine t_X9_law_35 _ _ _ ?_
      simp only [s_iadd, s_isub, s_imul, s_iand, s_ior, s_ixor, s_ishl, s_ishr, s_iushr, s_idiv, s_irem, s_ladd, s_lsub, s_lmul, s_ldiv, s_lrem, s_ineg, s_i2l, s_l2i, s_i2c, s_lcmp, s_ic, s_lc, s_nul, s_str, s_il, s_ll, s_al, s_dup, s_dup2, s_pop, s_ifne, s_icne, s_ifeq, s_iflt, s_ifge, s_ifgt, s_ifle, s_iceq, s_iclt, s_icge, s_icgt, s_icle, s_ifnull, s_ifnonnull, s_is, s_ls, s_as, s_ii, s_gi, s_gl, s_gr, s_pi, s_pz, s_pl, s_pr, s_iald, s_zald, s_lald, s_aald, s_alen, s_iast, s_zast, s_last, s_iret, s_zret, s_lret, s_aret, s_vret, s_sw, s_aast, mm_sw, mm_ld, mm_s1, mm_s2, mm_kl, Value.category, va_rf, List.nil_append, List.cons_append, Option.toList, true_and, and_true, and_self, true_or, or_true, eq_self, not_true_eq_false, false_implies, true_implies, not_false_eq_true, mm_10, mm_01, false_or, or_false, Nat.left_eq_add, Nat.add_eq_left, Nat.add_left_cancel_iff, Nat.reduceEqDiff, false_and, and_false, reduceIte, mm_kd_pi, mm_ln_pi, mm_gl_pi, mm_gr_pi, mm_sz_pi, mm_gi_pi, mm_kd_pl, mm_ln_pl, mm_gi_pl, mm_gr_pl, mm_sz_pl, mm_gl_pl, mm_kd_pr, mm_ln_pr, mm_gi_pr, mm_gl_pr, mm_sz_pr, mm_gr_pr, mm_kd_pa, mm_ln_pa, mm_gl_pa, mm_gr_pa, mm_sz_pa, mm_gi_pa, W_kd_0 Hg1, W_s_0 Hg1, W_gr_0_0 Hg1, W_gr_0_1 Hg1, W_gr_0_2 Hg1, W_gr_0_3 Hg1, W_gr_0_4 Hg1, W_gr_0_5 Hg1, W_gr_0_6 Hg1, W_gr_0_7 Hg1, W_gr_0_8 Hg1, W_gr_0_9 Hg1, W_gr_0_10 Hg1, W_gr_0_11 Hg1, W_kd_54 Hg1, W_s_54 Hg1, W_gr_54_0 Hg1, ← eg2]
      refine c_X9_law_75 (bb := (0, 0)) (b := (8, 880)) (Nat.le_of_ble_eq_true rfl) ⟨rfl, rfl⟩ (W_kd_0 Hg2) (W_s_0 Hg2) (sp_refuse (r := -6) (p := 4) Hg2 (by simp) ?_)
      refine t_X9_law_78 _ _ _ ?_
      simp only [s_iadd, s_isub, s_imul, s_iand, s_ior, s_ixor, s_ishl, s_ishr, s_iushr, s_idiv, s_irem, s_ladd, s_lsub, s_lmul, s_ldiv, s_lrem, s_ineg, s_i2l, s_l2i, s_i2c, s_lcmp, s_ic, s_lc, s_nul, s_str, s_il, s_ll, s_al, s_dup, s_dup2, s_pop, s_ifne, s_icne, s_ifeq, s_iflt, s_ifge, s_ifgt, s_ifle, s_iceq, s_iclt, s_icge, s_icgt, s_icle, s_ifnull, s_ifnonnull, s_is, s_ls, s_as, s_ii, s_gi, s_gl, s_gr, s_pi, s_pz, s_pl, s_pr, s_iald, s_zald, s_lald, s_aald, s_alen, s_iast, s_zast, s_last, s_iret, s_zret, s_lret, s_aret, s_vret, s_sw, s_aast, mm_sw, mm_ld, mm_s1, mm_s2, mm_kl, Value.category, va_rf, List.nil_append, List.cons_append, Option.toList, true_and, and_true, and_self, true_or, or_true, eq_self, not_true_eq_false, false_implies, true_implies, not_false_eq_true, mm_10, mm_01, false_or, or_false, Nat.left_eq_add, Nat.add_eq_left, Nat.add_left_cancel_iff, Nat.reduceEqDiff, false_and, and_false, reduceIte, mm_kd_pi, mm_ln_pi, mm_gl_pi, mm_gr_pi, mm_sz_pi, mm_gi_pi, mm_kd_pl, mm_ln_pl, mm_gi_pl, mm_gr_pl, mm_sz_pl, mm_gl_pl, mm_kd_pr, mm_ln_pr, mm_gi_pr, mm_gl_pr, mm_sz_pr, mm_gr_pr, mm_kd_pa, mm_ln_pa, mm_gl_pa, mm_gr_pa, mm_sz_pa, mm_gi_pa]
      have H3 : WS (rfH g2 (-6) 4) := WS_pi (WS_pi Hg2)
      have e3 : ∀ c j, ¬ (c = 0 ∧ j = 12) → ¬ (c = 90 ∧ j = 4) → mm_gi (rfH g2 (-6) 4) c j = mm_gi g2 c j := fun c j q1 q2 => by unfold rfH; rw [mm_gi_pi, if_neg q2, mm_gi_pi, if_neg q1]
      have e03 : ∀ c j, ¬ xRt c j → ¬ (c = 54 ∧ j = 1) → ¬ (c = 0 ∧ j = 12) → ¬ (c = 90 ∧ j = 4) → mm_gi (rfH g2 (-6) 4) c j = mm_gi h c j := fun c j q1 q2 q3 q4 => by rw [e3 c j q3 q4, eg2, mm_gi_pi, if_neg q2]; exact eg1 c j q1
      have G3 : GR (S 0 3) h (rfH g2 (-6) 4) := by
        refine GR_tr (GR_fx F1 (fun _ _ q => Or.inl q) (fun _ q => q.elim)) ?_
        refine GR_tr (k := rfH g2 (-6) 4) (g := g2) ?_ ?_
        · rw [eg2]; exact GR_pi (by unfold xTx; omega)
        · unfold rfH
          exact GR_tr (GR_pi (a := 0) (j := 12) (by unfold xTx; omega)) (GR_pi (a := 90) (j := 4) (by unfold xTx; omega))
      have T3 : TPM (rfH g2 (-6) 4) n t := ⟨T2.1, (e03 91 13 (by unfold xRt; omega) (by omega) (by omega) (by omega)).trans T2.2.1, fun i hi => ⟨(T2.2.2 i hi).1, (e03 100 i (by unfold xRt; omega) (by omega) (by omega) (by omega)).trans (T2.2.2 i hi).2⟩⟩
      have ltz : ∀ c, c < 122 → c < mm_sz h := fun c hc => Nat.lt_of_lt_of_le hc H.1
      have kw3 : KW (rfH g2 (-6) 4) := by
        obtain ⟨c1, c2, c3, c4, c5⟩ := kw
        exact ⟨fun k hk => (G3.2.2.2.2 106 (ltz _ (by decide)) (by decide) k).trans (c1 k hk), fun k hk => (G3.2.2.2.2 107 (ltz _ (by decide)) (by decide) k).trans (c2 k hk), fun k hk => (G3.2.2.2.2 108 (ltz _ (by decide)) (by decide) k).trans (c3 k hk), fun k hk => (G3.2.2.2.2 118 (ltz _ (by decide)) (by decide) k).trans (c4 k hk), fun k hk => (G3.2.2.2.2 119 (ltz _ (by decide)) (by decide) k).trans (c5 k hk)⟩
      have w3 : mm_gi (rfH g2 (-6) 4) 93 3 = nI (S 0 3) := (e03 93 3 (by unfold xRt; omega) (by omega) (by omega) (by omega)).trans h93
      refine ⟨⟨W_kd_91 H3, W_s_91 H3⟩, sp_mlaw (d := 990) H3 T3 kw3 w3 z6 R (fun f' q g4 F4 f18 f13 f20 => ⟨⟨_, rfl, rfl⟩, ?_⟩) (fun _ _ q => by cases q)⟩
      cases q
      have e4 : ∀ c j, ¬ xMw c j → mm_gi g4 c j = mm_gi (rfH g2 (-6) 4) c j := F4.2.1
      have e5 : ∀ c j, ¬ (c = 91 ∧ j = 1) → ¬ (c = 92 ∧ j = 6) → mm_gi (tlH g4 (-6) 6) c j = mm_gi g4 c j := fun c j q1 q2 => by unfold tlH; rw [mm_gi_pi, if_neg q2, mm_gi_pi, if_neg q1]
      have G5 : GR (S 0 3) h (tlH g4 (-6) 6) := by
        refine GR_tr G3 (GR_tr (GR_fx F4 (fun c j q => Or.inr (Or.inr (Or.inr (Or.inr (Or.inl (Or.inl q)))))) (fun c q => q)) ?_)
        unfold tlH
        exact GR_tr (GR_pi (a := 91) (j := 1) (by unfold xTx; omega)) (GR_pi (a := 92) (j := 6) (by unfold xTx; omega))
      have r5 : ∀ j, mm_gr (tlH g4 (-6) 6) 14 j = mm_gr h 14 j := fun j => by
        show mm_gr g4 14 j = _
        rw [F4.1.2.2.1]
        show mm_gr g2 14 j = _
        rw [eg2]
        show mm_gr g1 14 j = _
        rw [F1.1.2.2.1]
      refine Inv_txf hI v hc hm hl htr G5 (fun j => ?_) ?_ r5 ?_ ?_ ?_ ?_
      · rw [e5 93 j (by omega) (by omega), e4 93 j (by unfold xMw xMt xMd; omega)]
        exact e03 93 j (by unfold xRt; omega) (by omega) (by omega) (by omega)
      · rw [e5 4 14 (by omega) (by omega), e4 4 14 (by unfold xMw xMt xMd; omega)]
        exact e03 4 14 (by unfold xRt; omega) (by omega) (by omega) (by omega)
      · obtain ⟨⟨m1, m2, m3, m4⟩, m5, m6, m7, m8, m9⟩ := mi
        refine ⟨⟨?_, ?_, ?_, ?_⟩, ?_, ?_, ?_, ?_, ?_⟩
        · rw [e5 0 12 (by omega) (by omega), e4 0 12 (by unfold xMw xMt xMd; omega)]
          unfold rfH tlH
          rw [mm_gi_pi, if_neg (by omega), mm_gi_pi, if_pos ⟨rfl, rfl⟩, mm_gi_pi, if_neg (by omega), mm_gi_pi, if_pos ⟨rfl, rfl⟩]
        · rw [e5 0 13 (by omega) (by omega), e4 0 13 (by unfold xMw xMt xMd; omega), e03 0 13 (by unfold xRt; omega) (by omega) (by omega) (by omega), e5 91 52 (by omega) (by omega), e4 91 52 (by unfold xMw xMt xMd; omega), e03 91 52 (by unfold xRt; omega) (by omega) (by omega) (by omega)]
          exact m2
        · rw [e5 0 14 (by omega) (by omega), e4 0 14 (by unfold xMw xMt xMd; omega), e03 0 14 (by unfold xRt; omega) (by omega) (by omega) (by omega), e5 91 11 (by omega) (by omega), e4 91 11 (by unfold xMw xMt xMd; omega), e03 91 11 (by unfold xRt; omega) (by omega) (by omega) (by omega)]
          exact m3
        · rw [e5 56 4 (by omega) (by omega), e4 56 4 (by unfold xMw xMt xMd; omega), e3 56 4 (by omega) (by omega), eg2, mm_gi_pi, if_neg (by omega), e5 91 18 (by omega) (by omega), f18]
          exact ‹mm_gi g1 56 4 = nI _›
        · rw [e5 90 0 (by omega) (by omega), e4 90 0 (by unfold xMw xMt xMd; omega), e03 90 0 (by unfold xRt; omega) (by omega) (by omega) (by omega), e5 92 1 (by omega) (by omega), e4 92 1 (by unfold xMw xMt xMd; omega), e03 92 1 (by unfold xRt; omega) (by omega) (by omega) (by omega)]
          exact m5
        · rw [e5 90 1 (by omega) (by omega), e4 90 1 (by unfold xMw xMt xMd; omega), e03 90 1 (by unfold xRt; omega) (by omega) (by omega) (by omega), e5 92 2 (by omega) (by omega), e4 92 2 (by unfold xMw xMt xMd; omega), e03 92 2 (by unfold xRt; omega) (by omega) (by omega) (by omega)]
          exact m6
        · rw [e5 90 2 (by omega) (by omega), e4 90 2 (by unfold xMw xMt xMd; omega), e03 90 2 (by unfold xRt; omega) (by omega) (by omega) (by omega), e5 92 3 (by omega) (by omega), e4 92 3 (by unfold xMw xMt xMd; omega), e03 92 3 (by unfold xRt; omega) (by omega) (by omega) (by omega)]
          exact m7
        · rw [e5 90 3 (by omega) (by omega), e4 90 3 (by unfold xMw xMt xMd; omega), e03 90 3 (by unfold xRt; omega) (by omega) (by omega) (by omega), e5 92 5 (by omega) (by omega), e4 92 5 (by unfold xMw xMt xMd; omega), e03 92 5 (by unfold xRt; omega) (by omega) (by omega) (by omega)]
          exact m8
        · have x1 : mm_gi (tlH g4 (-6) 6) 92 6 = mm_gi h 92 6 + 1 := by
            unfold tlH
            rw [mm_gi_pi, if_pos ⟨rfl, rfl⟩, e4 92 6 (by unfold xMw xMt xMd; omega), e03 92 6 (by unfold xRt; omega) (by omega) (by omega) (by omega)]
          have x2 : mm_gi (tlH g4 (-6) 6) 90 4 = mm_gi h 90 4 + 1 := by
            rw [e5 90 4 (by omega) (by omega), e4 90 4 (by unfold xMw xMt xMd; omega)]
            unfold rfH
            rw [mm_gi_pi, if_pos ⟨rfl, rfl⟩, eg2, mm_gi_pi, if_neg (by omega), eg1 90 4 (by unfold xRt; omega)]
          rw [x1, x2, m9]
      · rw [e5 54 1 (by omega) (by omega), e4 54 1 (by unfold xMw xMt xMd; omega), e3 54 1 (by omega) (by omega), eg2, mm_gi_pi, if_pos ⟨rfl, rfl⟩]
      · rw [e5 91 13 (by omega) (by omega)]; exact f13
      · rw [e5 91 20 (by omega) (by omega)]; exact f20
  · -- no room
    have e6 : S 0 3 = 6 := by omega
    obtain ⟨g2, eg2⟩ : ∃ g2 : mmH, g2 = mm_pi h 54 1 0 := ⟨_, rfl⟩
    have Hg2 : WS g2 := by rw [eg2]; exact WS_pi H
    simp only [s_iadd, s_isub, s_imul, s_iand, s_ior, s_ixor, s_ishl, s_ishr, s_iushr, s_idiv, s_irem, s_ladd, s_lsub, s_lmul, s_ldiv, s_lrem, s_ineg, s_i2l, s_l2i, s_i2c, s_lcmp, s_ic, s_lc, s_nul, s_str, s_il, s_ll, s_al, s_dup, s_dup2, s_pop, s_ifne, s_icne, s_ifeq, s_iflt, s_ifge, s_ifgt, s_ifle, s_iceq, s_iclt, s_icge, s_icgt, s_icle, s_ifnull, s_ifnonnull, s_is, s_ls, s_as, s_ii, s_gi, s_gl, s_gr, s_pi, s_pz, s_pl, s_pr, s_iald, s_zald, s_lald, s_aald, s_alen, s_iast, s_zast, s_last, s_iret, s_zret, s_lret, s_aret, s_vret, s_sw, s_aast, mm_sw, mm_ld, mm_s1, mm_s2, mm_kl, Value.category, va_rf, List.nil_append, List.cons_append, Option.toList, true_and, and_true, and_self, true_or, or_true, eq_self, not_true_eq_false, false_implies, true_implies, not_false_eq_true, mm_10, mm_01, false_or, or_false, Nat.left_eq_add, Nat.add_eq_left, Nat.add_left_cancel_iff, Nat.reduceEqDiff, false_and, and_false, reduceIte, mm_kd_pi, mm_ln_pi, mm_gl_pi, mm_gr_pi, mm_sz_pi, mm_gi_pi, mm_kd_pl, mm_ln_pl, mm_gi_pl, mm_gr_pl, mm_sz_pl, mm_gl_pl, mm_kd_pr, mm_ln_pr, mm_gi_pr, mm_gl_pr, mm_sz_pr, mm_gr_pr, mm_kd_pa, mm_ln_pa, mm_gl_pa, mm_gr_pa, mm_sz_pa, mm_gi_pa, W_kd_0 H, W_s_0 H, W_gr_0_0 H, W_gr_0_1 H, W_gr_0_2 H, W_gr_0_3 H, W_gr_0_4 H, W_gr_0_5 H, W_gr_0_6 H, W_gr_0_7 H, W_gr_0_8 H, W_gr_0_9 H, W_gr_0_10 H, W_gr_0_11 H, W_kd_4 H, W_s_4 H, W_gr_4_0 H, W_gr_4_2 H, W_gr_4_3 H, W_gr_4_4 H, W_gr_4_7 H, W_gr_4_8 H, W_gr_4_9 H, W_gr_4_11 H, W_gr_4_12 H, W_gr_4_13 H, W_gr_4_15 H, W_kd_54 H, W_s_54 H, W_gr_54_0 H, h14, show (nI (S 0 3) < 6) = False from eq_false (nI_nlt (b := 6) (by omega) (by omega)), ← eg2]
    refine c_X9_law_23 (bb := (0, 0)) (b := (8, 880)) (Nat.le_of_ble_eq_true rfl) ⟨rfl, rfl⟩ (W_kd_0 Hg2) (W_s_0 Hg2) (sp_refuse (r := -5) (p := 3) Hg2 (by simp) ?_)
    refine t_X9_law_26 _ _ _ ?_
    simp only [s_iadd, s_isub, s_imul, s_iand, s_ior, s_ixor, s_ishl, s_ishr, s_iushr, s_idiv, s_irem, s_ladd, s_lsub, s_lmul, s_ldiv, s_lrem, s_ineg, s_i2l, s_l2i, s_i2c, s_lcmp, s_ic, s_lc, s_nul, s_str, s_il, s_ll, s_al, s_dup, s_dup2, s_pop, s_ifne, s_icne, s_ifeq, s_iflt, s_ifge, s_ifgt, s_ifle, s_iceq, s_iclt, s_icge, s_icgt, s_icle, s_ifnull, s_ifnonnull, s_is, s_ls, s_as, s_ii, s_gi, s_gl, s_gr, s_pi, s_pz, s_pl, s_pr, s_iald, s_zald, s_lald, s_aald, s_alen, s_iast, s_zast, s_last, s_iret, s_zret, s_lret, s_aret, s_vret, s_sw, s_aast, mm_sw, mm_ld, mm_s1, mm_s2, mm_kl, Value.category, va_rf, List.nil_append, List.cons_append, Option.toList, true_and, and_true, and_self, true_or, or_true, eq_self, not_true_eq_false, false_implies, true_implies, not_false_eq_true, mm_10, mm_01, false_or, or_false, Nat.left_eq_add, Nat.add_eq_left, Nat.add_left_cancel_iff, Nat.reduceEqDiff, false_and, and_false, reduceIte, mm_kd_pi, mm_ln_pi, mm_gl_pi, mm_gr_pi, mm_sz_pi, mm_gi_pi, mm_kd_pl, mm_ln_pl, mm_gi_pl, mm_gr_pl, mm_sz_pl, mm_gl_pl, mm_kd_pr, mm_ln_pr, mm_gi_pr, mm_gl_pr, mm_sz_pr, mm_gr_pr, mm_kd_pa, mm_ln_pa, mm_gl_pa, mm_gr_pa, mm_sz_pa, mm_gi_pa]
    have H3 : WS (rfH g2 (-5) 3) := WS_pi (WS_pi Hg2)
    have e03 : ∀ c j, ¬ (c = 54 ∧ j = 1) → ¬ (c = 0 ∧ j = 12) → ¬ (c = 90 ∧ j = 3) → mm_gi (rfH g2 (-5) 3) c j = mm_gi h c j := fun c j q2 q3 q4 => by unfold rfH; rw [mm_gi_pi, if_neg q4, mm_gi_pi, if_neg q3, eg2, mm_gi_pi, if_neg q2]
    have w3 : mm_gi (rfH g2 (-5) 3) 93 3 = nI (S 0 3) := (e03 93 3 (by omega) (by omega) (by omega)).trans h93
    obtain ⟨g4, eg4⟩ : ∃ g4 : mmH, g4 = mm_pi (rfH g2 (-5) 3) 91 0 0 := ⟨_, rfl⟩
    obtain ⟨g5, eg5⟩ : ∃ g5 : mmH, g5 = mm_pi g4 91 13 0 := ⟨_, rfl⟩
    have Hg4 : WS g4 := by rw [eg4]; exact WS_pi H3
    have Hg5 : WS g5 := by rw [eg5]; exact WS_pi Hg4
    have w4 : mm_gi g4 93 3 = nI (S 0 3) := by rw [eg4, mm_gi_pi, if_neg (by omega)]; exact w3
    refine ⟨⟨W_kd_91 H3, W_s_91 H3⟩, e_X10_law (t_X10_law_0 _ _ _ ?_)⟩
    simp only [s_iadd, s_isub, s_imul, s_iand, s_ior, s_ixor, s_ishl, s_ishr, s_iushr, s_idiv, s_irem, s_ladd, s_lsub, s_lmul, s_ldiv, s_lrem, s_ineg, s_i2l, s_l2i, s_i2c, s_lcmp, s_ic, s_lc, s_nul, s_str, s_il, s_ll, s_al, s_dup, s_dup2, s_pop, s_ifne, s_icne, s_ifeq, s_iflt, s_ifge, s_ifgt, s_ifle, s_iceq, s_iclt, s_icge, s_icgt, s_icle, s_ifnull, s_ifnonnull, s_is, s_ls, s_as, s_ii, s_gi, s_gl, s_gr, s_pi, s_pz, s_pl, s_pr, s_iald, s_zald, s_lald, s_aald, s_alen, s_iast, s_zast, s_last, s_iret, s_zret, s_lret, s_aret, s_vret, s_sw, s_aast, mm_sw, mm_ld, mm_s1, mm_s2, mm_kl, Value.category, va_rf, List.nil_append, List.cons_append, Option.toList, true_and, and_true, and_self, true_or, or_true, eq_self, not_true_eq_false, false_implies, true_implies, not_false_eq_true, mm_10, mm_01, false_or, or_false, Nat.left_eq_add, Nat.add_eq_left, Nat.add_left_cancel_iff, Nat.reduceEqDiff, false_and, and_false, reduceIte, mm_kd_pi, mm_ln_pi, mm_gl_pi, mm_gr_pi, mm_sz_pi, mm_gi_pi, mm_kd_pl, mm_ln_pl, mm_gi_pl, mm_gr_pl, mm_sz_pl, mm_gl_pl, mm_kd_pr, mm_ln_pr, mm_gi_pr, mm_gl_pr, mm_sz_pr, mm_gr_pr, mm_kd_pa, mm_ln_pa, mm_gl_pa, mm_gr_pa, mm_sz_pa, mm_gi_pa, W_kd_91 H3, W_s_91 H3, W_gr_91_2 H3, W_gr_91_3 H3, W_gr_91_4 H3, W_gr_91_5 H3, W_gr_91_6 H3, W_gr_91_7 H3, W_gr_91_9 H3, W_gr_91_10 H3, W_gr_91_12 H3, W_gr_91_22 H3, W_gr_91_24 H3, W_gr_91_25 H3, W_gr_91_27 H3, W_gr_91_28 H3, W_gr_91_31 H3, W_gr_91_32 H3, W_gr_91_33 H3, W_gr_91_35 H3, W_gr_91_36 H3, W_gr_91_37 H3, W_gr_91_41 H3, W_gr_91_42 H3, W_gr_91_43 H3, W_gr_91_44 H3, W_gr_91_45 H3, W_gr_91_46 H3, W_gr_91_47 H3, W_gr_91_48 H3, W_gr_91_49 H3, W_gr_91_55 H3, ← eg4, W_kd_91 Hg4, W_s_91 Hg4, W_gr_91_2 Hg4, W_gr_91_3 Hg4, W_gr_91_4 Hg4, W_gr_91_5 Hg4, W_gr_91_6 Hg4, W_gr_91_7 Hg4, W_gr_91_9 Hg4, W_gr_91_10 Hg4, W_gr_91_12 Hg4, W_gr_91_22 Hg4, W_gr_91_24 Hg4, W_gr_91_25 Hg4, W_gr_91_27 Hg4, W_gr_91_28 Hg4, W_gr_91_31 Hg4, W_gr_91_32 Hg4, W_gr_91_33 Hg4, W_gr_91_35 Hg4, W_gr_91_36 Hg4, W_gr_91_37 Hg4, W_gr_91_41 Hg4, W_gr_91_42 Hg4, W_gr_91_43 Hg4, W_gr_91_44 Hg4, W_gr_91_45 Hg4, W_gr_91_46 Hg4, W_gr_91_47 Hg4, W_gr_91_48 Hg4, W_gr_91_49 Hg4, W_gr_91_55 Hg4, W_kd_93 Hg4, W_s_93 Hg4, W_ln_93 Hg4, show (3 : Int32).toNatClampNeg = 3 from rfl, show vp_in (3 : Int32) 5475 from vp_in_nI (n := 3) (by decide) (by decide), w4, show (nI (S 0 3) = 6) = True from eq_true (by rw [e6]; rfl), ← eg5]
    refine c_X10_law_24 (bb := (0, 0)) (b := (0, 0)) (Nat.le_of_ble_eq_true rfl) ⟨rfl, rfl⟩ (W_kd_91 Hg5) (W_s_91 Hg5) (sp_tell_no (r := -5) (p := 5) Hg5 (by simp) ?_)
    refine t_X10_law_27 _ _ _ ?_
    simp only [s_iadd, s_isub, s_imul, s_iand, s_ior, s_ixor, s_ishl, s_ishr, s_iushr, s_idiv, s_irem, s_ladd, s_lsub, s_lmul, s_ldiv, s_lrem, s_ineg, s_i2l, s_l2i, s_i2c, s_lcmp, s_ic, s_lc, s_nul, s_str, s_il, s_ll, s_al, s_dup, s_dup2, s_pop, s_ifne, s_icne, s_ifeq, s_iflt, s_ifge, s_ifgt, s_ifle, s_iceq, s_iclt, s_icge, s_icgt, s_icle, s_ifnull, s_ifnonnull, s_is, s_ls, s_as, s_ii, s_gi, s_gl, s_gr, s_pi, s_pz, s_pl, s_pr, s_iald, s_zald, s_lald, s_aald, s_alen, s_iast, s_zast, s_last, s_iret, s_zret, s_lret, s_aret, s_vret, s_sw, s_aast, mm_sw, mm_ld, mm_s1, mm_s2, mm_kl, Value.category, va_rf, List.nil_append, List.cons_append, Option.toList, true_and, and_true, and_self, true_or, or_true, eq_self, not_true_eq_false, false_implies, true_implies, not_false_eq_true, mm_10, mm_01, false_or, or_false, Nat.left_eq_add, Nat.add_eq_left, Nat.add_left_cancel_iff, Nat.reduceEqDiff, false_and, and_false, reduceIte, mm_kd_pi, mm_ln_pi, mm_gl_pi, mm_gr_pi, mm_sz_pi, mm_gi_pi, mm_kd_pl, mm_ln_pl, mm_gi_pl, mm_gr_pl, mm_sz_pl, mm_gl_pl, mm_kd_pr, mm_ln_pr, mm_gi_pr, mm_gl_pr, mm_sz_pr, mm_gr_pr, mm_kd_pa, mm_ln_pa, mm_gl_pa, mm_gr_pa, mm_sz_pa, mm_gi_pa]
    refine ⟨⟨_, rfl⟩, ?_⟩
    have ea : ∀ c j, ¬ (c = 54 ∧ j = 1) → ¬ (c = 0 ∧ j = 12) → ¬ (c = 90 ∧ j = 3) → ¬ (c = 91 ∧ (j = 0 ∨ j = 1 ∨ j = 13)) → ¬ (c = 92 ∧ j = 5) → mm_gi (tlH g5 (-5) 5) c j = mm_gi h c j := fun c j q1 q2 q3 q4 q5 => by
      unfold tlH
      rw [mm_gi_pi, if_neg q5, mm_gi_pi, if_neg (by omega), eg5, mm_gi_pi, if_neg (by omega), eg4, mm_gi_pi, if_neg (by omega)]
      exact e03 c j q1 q2 q3
    have G5 : GR (S 0 3) h (tlH g5 (-5) 5) := by
      refine GR_tr (g := g2) (by rw [eg2]; exact GR_pi (by unfold xTx; omega)) (GR_tr (g := rfH g2 (-5) 3) ?_ (GR_tr (g := g4) (by rw [eg4]; exact GR_pi (by unfold xTx xLw xMw; omega)) (GR_tr (g := g5) (by rw [eg5]; exact GR_pi (by unfold xTx xLw xMw; omega)) ?_)))
      · unfold rfH
        exact GR_tr (GR_pi (a := 0) (j := 12) (by unfold xTx; omega)) (GR_pi (a := 90) (j := 3) (by unfold xTx; omega))
      · unfold tlH
        exact GR_tr (GR_pi (a := 91) (j := 1) (by unfold xTx; omega)) (GR_pi (a := 92) (j := 5) (by unfold xTx; omega))
    refine Inv_txf hI v hc hm hl htr G5 (fun j => ea 93 j (by omega) (by omega) (by omega) (by omega) (by omega)) (ea 4 14 (by omega) (by omega) (by omega) (by omega) (by omega)) (fun j => ?_) ?_ ?_ ?_ ?_
    · show mm_gr g5 14 j = _
      rw [eg5, eg4, eg2]
      rfl
    · obtain ⟨⟨m1, m2, m3, m4⟩, m5, m6, m7, m8, m9⟩ := mi
      refine ⟨⟨?_, ?_, ?_, ?_⟩, ?_, ?_, ?_, ?_, ?_⟩
      · unfold tlH
        rw [mm_gi_pi, if_neg (by omega), mm_gi_pi, if_neg (by omega), eg5, mm_gi_pi, if_neg (by omega), eg4, mm_gi_pi, if_neg (by omega)]
        unfold rfH
        rw [mm_gi_pi, if_neg (by omega), mm_gi_pi, if_pos ⟨rfl, rfl⟩, mm_gi_pi, if_neg (by omega), mm_gi_pi, if_pos ⟨rfl, rfl⟩]
      · rw [ea 0 13 (by omega) (by omega) (by omega) (by omega) (by omega), ea 91 52 (by omega) (by omega) (by omega) (by omega) (by omega)]; exact m2
      · rw [ea 0 14 (by omega) (by omega) (by omega) (by omega) (by omega), ea 91 11 (by omega) (by omega) (by omega) (by omega) (by omega)]; exact m3
      · rw [ea 56 4 (by omega) (by omega) (by omega) (by omega) (by omega), ea 91 18 (by omega) (by omega) (by omega) (by omega) (by omega)]; exact m4
      · rw [ea 90 0 (by omega) (by omega) (by omega) (by omega) (by omega), ea 92 1 (by omega) (by omega) (by omega) (by omega) (by omega)]; exact m5
      · rw [ea 90 1 (by omega) (by omega) (by omega) (by omega) (by omega), ea 92 2 (by omega) (by omega) (by omega) (by omega) (by omega)]; exact m6
      · rw [ea 90 2 (by omega) (by omega) (by omega) (by omega) (by omega), ea 92 3 (by omega) (by omega) (by omega) (by omega) (by omega)]; exact m7
      · have x1 : mm_gi (tlH g5 (-5) 5) 92 5 = mm_gi h 92 5 + 1 := by
          unfold tlH
          rw [mm_gi_pi, if_pos ⟨rfl, rfl⟩, eg5, mm_gi_pi, if_neg (by omega), eg4, mm_gi_pi, if_neg (by omega), e03 92 5 (by omega) (by omega) (by omega)]
        have x2 : mm_gi (tlH g5 (-5) 5) 90 3 = mm_gi h 90 3 + 1 := by
          unfold tlH
          rw [mm_gi_pi, if_neg (by omega), mm_gi_pi, if_neg (by omega), eg5, mm_gi_pi, if_neg (by omega), eg4, mm_gi_pi, if_neg (by omega)]
          unfold rfH
          rw [mm_gi_pi, if_pos ⟨rfl, rfl⟩, eg2, mm_gi_pi, if_neg (by omega)]
        rw [x1, x2, m8]
      · rw [ea 90 4 (by omega) (by omega) (by omega) (by omega) (by omega), ea 92 6 (by omega) (by omega) (by omega) (by omega) (by omega)]; exact m9
    · unfold tlH
      rw [mm_gi_pi, if_neg (by omega), mm_gi_pi, if_neg (by omega), eg5, mm_gi_pi, if_neg (by omega), eg4, mm_gi_pi, if_neg (by omega)]
      unfold rfH
      rw [mm_gi_pi, if_neg (by omega), mm_gi_pi, if_neg (by omega), eg2, mm_gi_pi, if_pos ⟨rfl, rfl⟩]
    · unfold tlH
      rw [mm_gi_pi, if_neg (by omega), mm_gi_pi, if_neg (by omega), eg5, mm_gi_pi, if_pos ⟨rfl, rfl⟩]
    · rw [ea 91 20 (by omega) (by omega) (by omega) (by omega) (by omega)]
      exact co.2.2.2.2.2
end
