/-! orders: the model runs a clause -/
def Gr (A : Option lwD) (h0 : mmH) (S : HSt) (n : Nat) (te : Nat → tEn) (dn : Nat) (la : Int) (y : Nat) (J : jM) (N : Nat) (cl : Nat → cDt) (g : mmH) : Prop := fx xMr yMr h0 g ∧ MI g S A n te ∧ MWS g true (oE S dn la) ∧ LPr g y J N cl ∧ mm_gi g 91 50 = nI dn ∧ mm_gi g 91 51 = i32 la
section
variable {d : Nat} {h g g' h0 : mmH} {K : Option Value → mmH → Prop} {A : Option lwD} {S : HSt} {n : Nat} {te : Nat → tEn} {dn : Nat} {la : Int} {y N : Nat} {J : jM} {cl : Nat → cDt} {s : oS}
theorem MWS_of (hm : HM (mm_gi g 93) 0 S) (v : HV S) (a : ∀ j, j < 4 → mm_gl g 110 (j + 1) = i64 (oE S dn la j)) : MWS g true (oE S dn la) :=
  ⟨a, S 0 1, S 1, S 2, hm.1.2.1, v.1.2.1, fun c hc => ⟨(HM_c hm hc).1, (v.2.1 c hc).1, (HM_c hm hc).2.1, (v.2.1 c hc).2.1⟩, fun c hc => oE_k hc⟩
theorem Gr_su (G : Gr A h0 S n te dn la y J N cl g) (F : fx xSu ySu g g') : Gr A h0 S n te dn la y J N cl g' := by
  obtain ⟨a, b, c, e, f1, f2⟩ := G
  refine ⟨fx_tr a (fx_mo (fun c j q => Or.inr (by unfold xSu at q; omega)) (fun c q => by unfold ySu at q; unfold yMr; omega) F), MI_s F (fun c j hc => by unfold xSu; omega) b, ?_, LPr_cg (fun c j q => F.2.1 c j (by unfold xSu; omega)) e, (F.2.1 91 50 (by unfold xSu; omega)).trans f1, (F.2.1 91 51 (by unfold xSu; omega)).trans f2⟩
  obtain ⟨a1, Cn, kn, gw, b1, b2, b3, b4⟩ := c
  refine ⟨fun j hj => by rw [F.2.2.1 110 (by unfold ySu; omega)]; exact a1 j hj, Cn, kn, gw, (F.2.1 93 1 (by unfold xSu; omega)).trans b1, b2, fun c hc => ?_, b4⟩
  rw [F.2.1 93 _ (by unfold xSu; omega), F.2.1 93 _ (by unfold xSu; omega)]
  exact b3 c hc
theorem ms_run {r : Option oS} {k : Nat} (R : ONx A (cl k) s r) (M : MOr A h s) (P : LPr h y J N cl) (hk : k < N) (wf : WFo (cl k)) (hT : ∀ D, (cl k).2.2.2.2 = some D → xT 16 D) (hd : s.2.2.2.1 ≤ 999) (k1 : ∀ s', r = some s' → ∀ g, MOr A g s' → fx xMr yMr h g → K (some (.int 0)) g) (k0 : r = none → ∀ g, fx xMr yMr h g → K (some (.int (-3))) g) : mm_MV q_X10_run (d + 10) (0, 0) [.ref 91, .int (nI (8 * k))] h K := by
  obtain ⟨Q, e50, e51, b1, b2, b3⟩ := M
  obtain ⟨S, n, te, dn, la⟩ := s
  have Q : MI h S A n te := Q
  have e50 : mm_gi h 91 50 = nI dn := e50
  have e51 : mm_gi h 91 51 = i32 la := e51
  have b2 : -1 ≤ la := b2
  have b3 : la ≤ 1000 := b3
  have hd : dn ≤ 999 := hd
  have H := Q.1
  have v := Q.2.1
  have hm := Q.2.2.1
  have okE : xOk 16 (oE S dn la) := oX_ok v (by omega) b2 b3
  have N12 := P.1.2.2.2
  obtain ⟨L8, _, _, _, A2, _⟩ := v.1
  have d9 : S 9 0 ≤ 999 := v.2.2.2.2 0 (by decide)
  have op := opn_bits (S 0 0) L8 (S 0 4) (mm_gi h 93) A2 (fun l hl => (HM_l hm hl).2.2.2)
  obtain ⟨g1, eg1⟩ : ∃ g1 : mmH, g1 = mm_pl h 110 1 (i64 (S 9 0 : Int)) := ⟨_, rfl⟩
  obtain ⟨g2, eg2⟩ : ∃ g2 : mmH, g2 = mm_pl g1 110 2 (i64 (dn : Int)) := ⟨_, rfl⟩
  obtain ⟨g3, eg3⟩ : ∃ g3 : mmH, g3 = mm_pl g2 110 3 (i64 la) := ⟨_, rfl⟩
  obtain ⟨g4, eg4⟩ : ∃ g4 : mmH, g4 = mm_pl g3 110 4 (i64 ((S 0 0 - pop (S 0 4) : Nat) : Int)) := ⟨_, rfl⟩
  obtain ⟨g5, eg5⟩ : ∃ g5 : mmH, g5 = mm_pi g4 91 53 0 := ⟨_, rfl⟩
  have H1 : WS g1 := by rw [eg1]; exact WS_pl H
  have H2 : WS g2 := by rw [eg2]; exact WS_pl H1
  have H3 : WS g3 := by rw [eg3]; exact WS_pl H2
  have H4 : WS g4 := by rw [eg4]; exact WS_pl H3
  have q2 : ∀ c j, mm_gi g2 c j = mm_gi h c j := fun c j => by rw [eg2, mm_gi_pl, eg1, mm_gi_pl]
  have q1 : ∀ c j, mm_gi g1 c j = mm_gi h c j := fun c j => by rw [eg1, mm_gi_pl]
  have q3 : ∀ c j, mm_gi g3 c j = mm_gi h c j := fun c j => by rw [eg3, mm_gi_pl]; exact q2 c j
  have q4 : ∀ c j, mm_gi g4 c j = mm_gi h c j := fun c j => by rw [eg4, mm_gi_pl]; exact q3 c j
  have F5 : fx (fun c j => c = 91 ∧ j = 53) (fun c => c = 110) h g5 := by
    rw [eg5]; refine fx_pi ⟨rfl, rfl⟩ ?_
    rw [eg4]; refine fx_pl rfl ?_
    rw [eg3]; refine fx_pl rfl ?_
    rw [eg2]; refine fx_pl rfl ?_
    rw [eg1]; exact fx_pl rfl fx_rf
  have Q5 : MI g5 S A n te := MI_s F5 (fun c j hc => by omega) Q
  have W5 : MWS g5 true (oE S dn la) := by
    refine MWS_of Q5.2.2.1 v (fun j hj => ?_)
    have gl4 : ∀ j', mm_gl g5 110 j' = if j' = 4 then i64 ((S 0 0 - pop (S 0 4) : Nat) : Int) else if j' = 3 then i64 la else if j' = 2 then i64 (dn : Int) else if j' = 1 then i64 (S 9 0 : Int) else mm_gl h 110 j' := fun j' => by
      rw [eg5, mm_gl_pi, eg4, mm_gl_pl]
      by_cases u4 : j' = 4
      · rw [if_pos ⟨rfl, u4⟩, if_pos u4]
      rw [if_neg (fun u => u4 u.2), if_neg u4, eg3, mm_gl_pl]
      by_cases u3 : j' = 3
      · rw [if_pos ⟨rfl, u3⟩, if_pos u3]
      rw [if_neg (fun u => u3 u.2), if_neg u3, eg2, mm_gl_pl]
      by_cases u2 : j' = 2
      · rw [if_pos ⟨rfl, u2⟩, if_pos u2]
      rw [if_neg (fun u => u2 u.2), if_neg u2, eg1, mm_gl_pl]
      by_cases u1 : j' = 1
      · rw [if_pos ⟨rfl, u1⟩, if_pos u1]
      rw [if_neg (fun u => u1 u.2), if_neg u1]
    have : j = 0 ∨ j = 1 ∨ j = 2 ∨ j = 3 := by omega
    rw [gl4]
    rcases this with rfl | rfl | rfl | rfl <;> rfl
  have P5 : LPr g5 y J N cl := LPr_cg (fun c j q => F5.2.1 c j (by omega)) P
  have G5 : Gr A h S n te dn la y J N cl g5 := ⟨fx_mo (fun c j q => Or.inr (by omega)) (fun c q => by unfold yMr; omega) F5, Q5, W5, P5, (F5.2.1 91 50 (by omega)).trans e50, (F5.2.1 91 51 (by omega)).trans e51⟩
  have o5 : mm_gi g5 91 53 = 0 := by rw [eg5, mm_gi_pi, if_pos ⟨rfl, rfl⟩]
  obtain ⟨m0, m1, m2, m3, m4, m5⟩ := P5.2.2.2.2 k hk
  -- nothing is done
  have skip : ∀ g v2 v3 v4, Gr A h S n te dn la y J N cl g → r = some (S, n, te, dn, la) → mm_V q_X10_run (d + 10) (0, 0) K 90 [some (.ref 91), some (.int (nI (8 * k))), v2, v3, v4] [] g := by
    intro g v2 v3 v4 G er
    refine t_X10_run_90 _ _ _ ?_
    simp only [s_iadd, s_isub, s_imul, s_iand, s_ior, s_ixor, s_ishl, s_ishr, s_iushr, s_idiv, s_irem, s_ladd, s_lsub, s_lmul, s_ldiv, s_lrem, s_ineg, s_i2l, s_l2i, s_i2c, s_lcmp, s_ic, s_lc, s_nul, s_str, s_il, s_ll, s_al, s_dup, s_dup2, s_pop, s_ifne, s_icne, s_ifeq, s_iflt, s_ifge, s_ifgt, s_ifle, s_iceq, s_iclt, s_icge, s_icgt, s_icle, s_ifnull, s_ifnonnull, s_is, s_ls, s_as, s_ii, s_gi, s_gl, s_gr, s_pi, s_pz, s_pl, s_pr, s_iald, s_zald, s_lald, s_aald, s_alen, s_iast, s_zast, s_last, s_iret, s_zret, s_lret, s_aret, s_vret, s_sw, s_aast, mm_sw, mm_ld, mm_s1, mm_s2, mm_kl, Value.category, va_rf, List.nil_append, List.cons_append, Option.toList, true_and, and_true, and_self, true_or, or_true, eq_self, not_true_eq_false, false_implies, true_implies, not_false_eq_true, mm_10, mm_01, false_or, or_false, Nat.left_eq_add, Nat.add_eq_left, Nat.add_left_cancel_iff, Nat.reduceEqDiff, false_and, and_false, reduceIte, mm_kd_pi, mm_ln_pi, mm_gl_pi, mm_gr_pi, mm_sz_pi, mm_gi_pi, mm_kd_pl, mm_ln_pl, mm_gi_pl, mm_gr_pl, mm_sz_pl, mm_gl_pl, mm_kd_pr, mm_ln_pr, mm_gi_pr, mm_gl_pr, mm_sz_pr, mm_gr_pr, mm_kd_pa, mm_ln_pa, mm_gl_pa, mm_gr_pa, mm_sz_pa, mm_gi_pa]
    exact k1 _ er g ⟨G.2.1, G.2.2.2.2.1, G.2.2.2.2.2, b1, b2, b3⟩ G.1
  -- the deed
  have act : ∀ g xv yv v2 v4, Gr A h S n te dn la y J N cl g → mm_gi g 91 53 = 0 → mm_gi g 120 (8 * k) = nI (cl k).1 → v2 = some (Value.int xv) → ((dE S A (cl k).1 xv yv ≠ 0 ∧ r = none) ∨ ∃ p q, dOk S A (cl k).1 xv yv p q ∧ r = some (dS S A (cl k).1 p q, pshN n, pshT n te (entr S (cl k).1), dn + 1, if (cl k).1 = 1 then (dR S A (cl k).1 p q).toInt else la)) → mm_V q_X10_run (d + 10) (0, 0) K 107 [some (.ref 91), some (.int (nI (8 * k))), v2, none, v4] [.int yv] g := by
    intro g xv yv v2 v4 G o0 e0 e2 RR
    subst e2
    have Hg := G.2.1.1
    refine t_X10_run_107 _ _ _ ?_
    simp only [s_iadd, s_isub, s_imul, s_iand, s_ior, s_ixor, s_ishl, s_ishr, s_iushr, s_idiv, s_irem, s_ladd, s_lsub, s_lmul, s_ldiv, s_lrem, s_ineg, s_i2l, s_l2i, s_i2c, s_lcmp, s_ic, s_lc, s_nul, s_str, s_il, s_ll, s_al, s_dup, s_dup2, s_pop, s_ifne, s_icne, s_ifeq, s_iflt, s_ifge, s_ifgt, s_ifle, s_iceq, s_iclt, s_icge, s_icgt, s_icle, s_ifnull, s_ifnonnull, s_is, s_ls, s_as, s_ii, s_gi, s_gl, s_gr, s_pi, s_pz, s_pl, s_pr, s_iald, s_zald, s_lald, s_aald, s_alen, s_iast, s_zast, s_last, s_iret, s_zret, s_lret, s_aret, s_vret, s_sw, s_aast, mm_sw, mm_ld, mm_s1, mm_s2, mm_kl, Value.category, va_rf, List.nil_append, List.cons_append, Option.toList, true_and, and_true, and_self, true_or, or_true, eq_self, not_true_eq_false, false_implies, true_implies, not_false_eq_true, mm_10, mm_01, false_or, or_false, Nat.left_eq_add, Nat.add_eq_left, Nat.add_left_cancel_iff, Nat.reduceEqDiff, false_and, and_false, reduceIte, mm_kd_pi, mm_ln_pi, mm_gl_pi, mm_gr_pi, mm_sz_pi, mm_gi_pi, mm_kd_pl, mm_ln_pl, mm_gi_pl, mm_gr_pl, mm_sz_pl, mm_gl_pl, mm_kd_pr, mm_ln_pr, mm_gi_pr, mm_gl_pr, mm_sz_pr, mm_gr_pr, mm_kd_pa, mm_ln_pa, mm_gl_pa, mm_gr_pa, mm_sz_pa, mm_gi_pa, W_kd_91 Hg, W_s_91 Hg, W_gr_91_2 Hg, W_gr_91_3 Hg, W_gr_91_4 Hg, W_gr_91_5 Hg, W_gr_91_6 Hg, W_gr_91_7 Hg, W_gr_91_9 Hg, W_gr_91_10 Hg, W_gr_91_12 Hg, W_gr_91_22 Hg, W_gr_91_24 Hg, W_gr_91_25 Hg, W_gr_91_27 Hg, W_gr_91_28 Hg, W_gr_91_31 Hg, W_gr_91_32 Hg, W_gr_91_33 Hg, W_gr_91_35 Hg, W_gr_91_36 Hg, W_gr_91_37 Hg, W_gr_91_41 Hg, W_gr_91_42 Hg, W_gr_91_43 Hg, W_gr_91_44 Hg, W_gr_91_45 Hg, W_gr_91_46 Hg, W_gr_91_47 Hg, W_gr_91_48 Hg, W_gr_91_49 Hg, W_gr_91_55 Hg, W_kd_120 Hg, W_s_120 Hg, W_ln_120 Hg, o0, nI_clamp (show 8 * k < 2 ^ 31 by omega), vp_in_nI (show 8 * k < 96 by omega) (show 96 < 2 ^ 31 by decide), e0]
    refine c_X10_run_127 (bb := (0, 0)) (b := (0, 0)) (Nat.le_of_ble_eq_true rfl) ⟨rfl, rfl⟩ (W_kd_91 Hg) (W_s_91 Hg) (ms_act (d := d) m0.2 G.2.1 (fun g2 F2 zz => ?_) (fun p q g2 ok F2 M2 => ?_)) <;> refine t_X10_run_130 _ _ _ ?_
    · have neg : (0 ≤ dE S A (cl k).1 xv yv) = False := eq_false (by
        rcases dE_cases S A (cl k).1 xv yv with e | e | e | e
        · exact absurd e zz
        · rw [e]; decide
        · rw [e]; decide
        · rw [e]; decide)
      simp only [s_iadd, s_isub, s_imul, s_iand, s_ior, s_ixor, s_ishl, s_ishr, s_iushr, s_idiv, s_irem, s_ladd, s_lsub, s_lmul, s_ldiv, s_lrem, s_ineg, s_i2l, s_l2i, s_i2c, s_lcmp, s_ic, s_lc, s_nul, s_str, s_il, s_ll, s_al, s_dup, s_dup2, s_pop, s_ifne, s_icne, s_ifeq, s_iflt, s_ifge, s_ifgt, s_ifle, s_iceq, s_iclt, s_icge, s_icgt, s_icle, s_ifnull, s_ifnonnull, s_is, s_ls, s_as, s_ii, s_gi, s_gl, s_gr, s_pi, s_pz, s_pl, s_pr, s_iald, s_zald, s_lald, s_aald, s_alen, s_iast, s_zast, s_last, s_iret, s_zret, s_lret, s_aret, s_vret, s_sw, s_aast, mm_sw, mm_ld, mm_s1, mm_s2, mm_kl, Value.category, va_rf, List.nil_append, List.cons_append, Option.toList, true_and, and_true, and_self, true_or, or_true, eq_self, not_true_eq_false, false_implies, true_implies, not_false_eq_true, mm_10, mm_01, false_or, or_false, Nat.left_eq_add, Nat.add_eq_left, Nat.add_left_cancel_iff, Nat.reduceEqDiff, false_and, and_false, reduceIte, mm_kd_pi, mm_ln_pi, mm_gl_pi, mm_gr_pi, mm_sz_pi, mm_gi_pi, mm_kd_pl, mm_ln_pl, mm_gi_pl, mm_gr_pl, mm_sz_pl, mm_gl_pl, mm_kd_pr, mm_ln_pr, mm_gi_pr, mm_gl_pr, mm_sz_pr, mm_gr_pr, mm_kd_pa, mm_ln_pa, mm_gl_pa, mm_gr_pa, mm_sz_pa, mm_gi_pa, neg]
      rcases RR with ⟨_, er⟩ | ⟨p, q, ok, _⟩
      · exact k0 er g2 (fx_tr G.1 (fx_mo (fun c j q => Or.inl (Or.inl (Or.inl q))) (fun c q => by unfold yL at q; unfold yMr; omega) F2))
      · exact absurd (dOk_0 v m0.2 ok) zz
    · rcases RR with ⟨zz, _⟩ | ⟨p', q', ok', er⟩
      · exact absurd (dOk_0 v m0.2 ok) zz
      obtain ⟨u1, u2⟩ := dOk_u v m0.2 ok ok'
      rw [u1, u2] at er
      obtain ⟨rr, r1, r2⟩ := dR_nn m0.2 v ok
      have Hg2 := M2.1
      have nn : (0 ≤ dR S A (cl k).1 p q) = True := eq_true (by rw [r2]; exact nI_pos' (by omega))
      have e0' : mm_gi g2 120 (8 * k) = nI (cl k).1 := (F2.2.1 120 _ (by unfold xMa xrw xL xrm; omega)).trans e0
      have c50 : mm_gi g2 91 50 = nI dn := (F2.2.1 91 50 (by unfold xMa xrw xL xrm; omega)).trans G.2.2.2.2.1
      have c51 : mm_gi g2 91 51 = i32 la := (F2.2.1 91 51 (by unfold xMa xrw xL xrm; omega)).trans G.2.2.2.2.2
      have Fm : fx xMr yMr h g2 := fx_tr G.1 (fx_mo (fun c j q => Or.inl q) (fun c q => by unfold yL at q; unfold yMr; omega) F2)
      -- the end
      have fin : ∀ w : Int32, w = i32 (if (cl k).1 = 1 then (dR S A (cl k).1 p q).toInt else la) → ∀ lv : mmL, mm_V q_X10_run (d + 10) (0, 0) K 160 lv [.int w, .ref 91] g2 ∨ True := fun _ _ _ => Or.inr trivial
      have goal : ∀ w : Int32, w = i32 (if (cl k).1 = 1 then (dR S A (cl k).1 p q).toInt else la) → K (some (.int 0)) (mm_pi (mm_pi g2 91 51 w) 91 50 (nI (dn + 1))) := by
        intro w ew
        have F6 : fx (fun c j => c = 91 ∧ (j = 50 ∨ j = 51)) y0 g2 (mm_pi (mm_pi g2 91 51 w) 91 50 (nI (dn + 1))) := fx_pi ⟨rfl, Or.inl rfl⟩ (fx_pi ⟨rfl, Or.inr rfl⟩ fx_rf)
        refine k1 _ er _ ⟨MI_s F6 (fun c j hc => by omega) M2, by rw [mm_gi_pi, if_pos ⟨rfl, rfl⟩], ?_, ?_, ?_, ?_⟩ (fx_tr Fm (fx_mo (fun c j q => Or.inr (by omega)) (fun c q => q.elim) F6))
        · rw [mm_gi_pi, if_neg (by omega), mm_gi_pi, if_pos ⟨rfl, rfl⟩]; exact ew
        · show dn + 1 ≤ 1000; omega
        · show -1 ≤ (if (cl k).1 = 1 then (dR S A (cl k).1 p q).toInt else la)
          split
          · rw [r2, nI_toInt (by omega)]; omega
          · exact b2
        · show (if (cl k).1 = 1 then (dR S A (cl k).1 p q).toInt else la) ≤ 1000
          split
          · rw [r2, nI_toInt (by omega)]; omega
          · exact b3
      have k4 := m0.2
      by_cases ka : (cl k).1 = 1
      · have g7 := goal (dR S A (cl k).1 p q) (by rw [if_pos ka, r2, nI_toInt (by omega), i32_nat])
        obtain ⟨g3', eg3'⟩ : ∃ g3' : mmH, g3' = mm_pi g2 91 51 (dR S A (cl k).1 p q) := ⟨_, rfl⟩
        have H3' : WS g3' := by rw [eg3']; exact WS_pi Hg2
        have c50' : mm_gi g3' 91 50 = nI dn := by rw [eg3', mm_gi_pi, if_neg (by omega)]; exact c50
        rw [← eg3'] at g7
        simp only [s_iadd, s_isub, s_imul, s_iand, s_ior, s_ixor, s_ishl, s_ishr, s_iushr, s_idiv, s_irem, s_ladd, s_lsub, s_lmul, s_ldiv, s_lrem, s_ineg, s_i2l, s_l2i, s_i2c, s_lcmp, s_ic, s_lc, s_nul, s_str, s_il, s_ll, s_al, s_dup, s_dup2, s_pop, s_ifne, s_icne, s_ifeq, s_iflt, s_ifge, s_ifgt, s_ifle, s_iceq, s_iclt, s_icge, s_icgt, s_icle, s_ifnull, s_ifnonnull, s_is, s_ls, s_as, s_ii, s_gi, s_gl, s_gr, s_pi, s_pz, s_pl, s_pr, s_iald, s_zald, s_lald, s_aald, s_alen, s_iast, s_zast, s_last, s_iret, s_zret, s_lret, s_aret, s_vret, s_sw, s_aast, mm_sw, mm_ld, mm_s1, mm_s2, mm_kl, Value.category, va_rf, List.nil_append, List.cons_append, Option.toList, true_and, and_true, and_self, true_or, or_true, eq_self, not_true_eq_false, false_implies, true_implies, not_false_eq_true, mm_10, mm_01, false_or, or_false, Nat.left_eq_add, Nat.add_eq_left, Nat.add_left_cancel_iff, Nat.reduceEqDiff, false_and, and_false, reduceIte, mm_kd_pi, mm_ln_pi, mm_gl_pi, mm_gr_pi, mm_sz_pi, mm_gi_pi, mm_kd_pl, mm_ln_pl, mm_gi_pl, mm_gr_pl, mm_sz_pl, mm_gl_pl, mm_kd_pr, mm_ln_pr, mm_gi_pr, mm_gl_pr, mm_sz_pr, mm_gr_pr, mm_kd_pa, mm_ln_pa, mm_gl_pa, mm_gr_pa, mm_sz_pa, mm_gi_pa, nn, W_kd_91 Hg2, W_s_91 Hg2, W_gr_91_2 Hg2, W_gr_91_3 Hg2, W_gr_91_4 Hg2, W_gr_91_5 Hg2, W_gr_91_6 Hg2, W_gr_91_7 Hg2, W_gr_91_9 Hg2, W_gr_91_10 Hg2, W_gr_91_12 Hg2, W_gr_91_22 Hg2, W_gr_91_24 Hg2, W_gr_91_25 Hg2, W_gr_91_27 Hg2, W_gr_91_28 Hg2, W_gr_91_31 Hg2, W_gr_91_32 Hg2, W_gr_91_33 Hg2, W_gr_91_35 Hg2, W_gr_91_36 Hg2, W_gr_91_37 Hg2, W_gr_91_41 Hg2, W_gr_91_42 Hg2, W_gr_91_43 Hg2, W_gr_91_44 Hg2, W_gr_91_45 Hg2, W_gr_91_46 Hg2, W_gr_91_47 Hg2, W_gr_91_48 Hg2, W_gr_91_49 Hg2, W_gr_91_55 Hg2, W_kd_120 Hg2, W_s_120 Hg2, W_ln_120 Hg2, nI_clamp (show 8 * k < 2 ^ 31 by omega), vp_in_nI (show 8 * k < 96 by omega) (show 96 < 2 ^ 31 by decide), e0', show (nI (cl k).1 = 1) = True from eq_true (by rw [ka]; rfl)]
        refine t_X10_run_160 _ _ _ ?_
        simp only [s_iadd, s_isub, s_imul, s_iand, s_ior, s_ixor, s_ishl, s_ishr, s_iushr, s_idiv, s_irem, s_ladd, s_lsub, s_lmul, s_ldiv, s_lrem, s_ineg, s_i2l, s_l2i, s_i2c, s_lcmp, s_ic, s_lc, s_nul, s_str, s_il, s_ll, s_al, s_dup, s_dup2, s_pop, s_ifne, s_icne, s_ifeq, s_iflt, s_ifge, s_ifgt, s_ifle, s_iceq, s_iclt, s_icge, s_icgt, s_icle, s_ifnull, s_ifnonnull, s_is, s_ls, s_as, s_ii, s_gi, s_gl, s_gr, s_pi, s_pz, s_pl, s_pr, s_iald, s_zald, s_lald, s_aald, s_alen, s_iast, s_zast, s_last, s_iret, s_zret, s_lret, s_aret, s_vret, s_sw, s_aast, mm_sw, mm_ld, mm_s1, mm_s2, mm_kl, Value.category, va_rf, List.nil_append, List.cons_append, Option.toList, true_and, and_true, and_self, true_or, or_true, eq_self, not_true_eq_false, false_implies, true_implies, not_false_eq_true, mm_10, mm_01, false_or, or_false, Nat.left_eq_add, Nat.add_eq_left, Nat.add_left_cancel_iff, Nat.reduceEqDiff, false_and, and_false, reduceIte, mm_kd_pi, mm_ln_pi, mm_gl_pi, mm_gr_pi, mm_sz_pi, mm_gi_pi, mm_kd_pl, mm_ln_pl, mm_gi_pl, mm_gr_pl, mm_sz_pl, mm_gl_pl, mm_kd_pr, mm_ln_pr, mm_gi_pr, mm_gl_pr, mm_sz_pr, mm_gr_pr, mm_kd_pa, mm_ln_pa, mm_gl_pa, mm_gr_pa, mm_sz_pa, mm_gi_pa, W_kd_91 Hg2, W_s_91 Hg2, W_gr_91_2 Hg2, W_gr_91_3 Hg2, W_gr_91_4 Hg2, W_gr_91_5 Hg2, W_gr_91_6 Hg2, W_gr_91_7 Hg2, W_gr_91_9 Hg2, W_gr_91_10 Hg2, W_gr_91_12 Hg2, W_gr_91_22 Hg2, W_gr_91_24 Hg2, W_gr_91_25 Hg2, W_gr_91_27 Hg2, W_gr_91_28 Hg2, W_gr_91_31 Hg2, W_gr_91_32 Hg2, W_gr_91_33 Hg2, W_gr_91_35 Hg2, W_gr_91_36 Hg2, W_gr_91_37 Hg2, W_gr_91_41 Hg2, W_gr_91_42 Hg2, W_gr_91_43 Hg2, W_gr_91_44 Hg2, W_gr_91_45 Hg2, W_gr_91_46 Hg2, W_gr_91_47 Hg2, W_gr_91_48 Hg2, W_gr_91_49 Hg2, W_gr_91_55 Hg2, ← eg3', W_kd_91 H3', W_s_91 H3', W_gr_91_2 H3', W_gr_91_3 H3', W_gr_91_4 H3', W_gr_91_5 H3', W_gr_91_6 H3', W_gr_91_7 H3', W_gr_91_9 H3', W_gr_91_10 H3', W_gr_91_12 H3', W_gr_91_22 H3', W_gr_91_24 H3', W_gr_91_25 H3', W_gr_91_27 H3', W_gr_91_28 H3', W_gr_91_31 H3', W_gr_91_32 H3', W_gr_91_33 H3', W_gr_91_35 H3', W_gr_91_36 H3', W_gr_91_37 H3', W_gr_91_41 H3', W_gr_91_42 H3', W_gr_91_43 H3', W_gr_91_44 H3', W_gr_91_45 H3', W_gr_91_46 H3', W_gr_91_47 H3', W_gr_91_48 H3', W_gr_91_49 H3', W_gr_91_55 H3', c50', nI_1]
        exact g7
      · have g7 := goal (i32 la) (by rw [if_neg ka])
        obtain ⟨g3', eg3'⟩ : ∃ g3' : mmH, g3' = mm_pi g2 91 51 (i32 la) := ⟨_, rfl⟩
        have H3' : WS g3' := by rw [eg3']; exact WS_pi Hg2
        have c50' : mm_gi g3' 91 50 = nI dn := by rw [eg3', mm_gi_pi, if_neg (by omega)]; exact c50
        rw [← eg3'] at g7
        simp only [s_iadd, s_isub, s_imul, s_iand, s_ior, s_ixor, s_ishl, s_ishr, s_iushr, s_idiv, s_irem, s_ladd, s_lsub, s_lmul, s_ldiv, s_lrem, s_ineg, s_i2l, s_l2i, s_i2c, s_lcmp, s_ic, s_lc, s_nul, s_str, s_il, s_ll, s_al, s_dup, s_dup2, s_pop, s_ifne, s_icne, s_ifeq, s_iflt, s_ifge, s_ifgt, s_ifle, s_iceq, s_iclt, s_icge, s_icgt, s_icle, s_ifnull, s_ifnonnull, s_is, s_ls, s_as, s_ii, s_gi, s_gl, s_gr, s_pi, s_pz, s_pl, s_pr, s_iald, s_zald, s_lald, s_aald, s_alen, s_iast, s_zast, s_last, s_iret, s_zret, s_lret, s_aret, s_vret, s_sw, s_aast, mm_sw, mm_ld, mm_s1, mm_s2, mm_kl, Value.category, va_rf, List.nil_append, List.cons_append, Option.toList, true_and, and_true, and_self, true_or, or_true, eq_self, not_true_eq_false, false_implies, true_implies, not_false_eq_true, mm_10, mm_01, false_or, or_false, Nat.left_eq_add, Nat.add_eq_left, Nat.add_left_cancel_iff, Nat.reduceEqDiff, false_and, and_false, reduceIte, mm_kd_pi, mm_ln_pi, mm_gl_pi, mm_gr_pi, mm_sz_pi, mm_gi_pi, mm_kd_pl, mm_ln_pl, mm_gi_pl, mm_gr_pl, mm_sz_pl, mm_gl_pl, mm_kd_pr, mm_ln_pr, mm_gi_pr, mm_gl_pr, mm_sz_pr, mm_gr_pr, mm_kd_pa, mm_ln_pa, mm_gl_pa, mm_gr_pa, mm_sz_pa, mm_gi_pa, nn, W_kd_91 Hg2, W_s_91 Hg2, W_gr_91_2 Hg2, W_gr_91_3 Hg2, W_gr_91_4 Hg2, W_gr_91_5 Hg2, W_gr_91_6 Hg2, W_gr_91_7 Hg2, W_gr_91_9 Hg2, W_gr_91_10 Hg2, W_gr_91_12 Hg2, W_gr_91_22 Hg2, W_gr_91_24 Hg2, W_gr_91_25 Hg2, W_gr_91_27 Hg2, W_gr_91_28 Hg2, W_gr_91_31 Hg2, W_gr_91_32 Hg2, W_gr_91_33 Hg2, W_gr_91_35 Hg2, W_gr_91_36 Hg2, W_gr_91_37 Hg2, W_gr_91_41 Hg2, W_gr_91_42 Hg2, W_gr_91_43 Hg2, W_gr_91_44 Hg2, W_gr_91_45 Hg2, W_gr_91_46 Hg2, W_gr_91_47 Hg2, W_gr_91_48 Hg2, W_gr_91_49 Hg2, W_gr_91_55 Hg2, W_kd_120 Hg2, W_s_120 Hg2, W_ln_120 Hg2, nI_clamp (show 8 * k < 2 ^ 31 by omega), vp_in_nI (show 8 * k < 96 by omega) (show 96 < 2 ^ 31 by decide), e0', show (nI (cl k).1 = 1) = False from eq_false (fun u => ka ((nI_eq (b := 1) (by omega) (by decide)).mp u)), c51]
        refine t_X10_run_160 _ _ _ ?_
        simp only [s_iadd, s_isub, s_imul, s_iand, s_ior, s_ixor, s_ishl, s_ishr, s_iushr, s_idiv, s_irem, s_ladd, s_lsub, s_lmul, s_ldiv, s_lrem, s_ineg, s_i2l, s_l2i, s_i2c, s_lcmp, s_ic, s_lc, s_nul, s_str, s_il, s_ll, s_al, s_dup, s_dup2, s_pop, s_ifne, s_icne, s_ifeq, s_iflt, s_ifge, s_ifgt, s_ifle, s_iceq, s_iclt, s_icge, s_icgt, s_icle, s_ifnull, s_ifnonnull, s_is, s_ls, s_as, s_ii, s_gi, s_gl, s_gr, s_pi, s_pz, s_pl, s_pr, s_iald, s_zald, s_lald, s_aald, s_alen, s_iast, s_zast, s_last, s_iret, s_zret, s_lret, s_aret, s_vret, s_sw, s_aast, mm_sw, mm_ld, mm_s1, mm_s2, mm_kl, Value.category, va_rf, List.nil_append, List.cons_append, Option.toList, true_and, and_true, and_self, true_or, or_true, eq_self, not_true_eq_false, false_implies, true_implies, not_false_eq_true, mm_10, mm_01, false_or, or_false, Nat.left_eq_add, Nat.add_eq_left, Nat.add_left_cancel_iff, Nat.reduceEqDiff, false_and, and_false, reduceIte, mm_kd_pi, mm_ln_pi, mm_gl_pi, mm_gr_pi, mm_sz_pi, mm_gi_pi, mm_kd_pl, mm_ln_pl, mm_gi_pl, mm_gr_pl, mm_sz_pl, mm_gl_pl, mm_kd_pr, mm_ln_pr, mm_gi_pr, mm_gl_pr, mm_sz_pr, mm_gr_pr, mm_kd_pa, mm_ln_pa, mm_gl_pa, mm_gr_pa, mm_sz_pa, mm_gi_pa, W_kd_91 Hg2, W_s_91 Hg2, W_gr_91_2 Hg2, W_gr_91_3 Hg2, W_gr_91_4 Hg2, W_gr_91_5 Hg2, W_gr_91_6 Hg2, W_gr_91_7 Hg2, W_gr_91_9 Hg2, W_gr_91_10 Hg2, W_gr_91_12 Hg2, W_gr_91_22 Hg2, W_gr_91_24 Hg2, W_gr_91_25 Hg2, W_gr_91_27 Hg2, W_gr_91_28 Hg2, W_gr_91_31 Hg2, W_gr_91_32 Hg2, W_gr_91_33 Hg2, W_gr_91_35 Hg2, W_gr_91_36 Hg2, W_gr_91_37 Hg2, W_gr_91_41 Hg2, W_gr_91_42 Hg2, W_gr_91_43 Hg2, W_gr_91_44 Hg2, W_gr_91_45 Hg2, W_gr_91_46 Hg2, W_gr_91_47 Hg2, W_gr_91_48 Hg2, W_gr_91_49 Hg2, W_gr_91_55 Hg2, ← eg3', W_kd_91 H3', W_s_91 H3', W_gr_91_2 H3', W_gr_91_3 H3', W_gr_91_4 H3', W_gr_91_5 H3', W_gr_91_6 H3', W_gr_91_7 H3', W_gr_91_9 H3', W_gr_91_10 H3', W_gr_91_12 H3', W_gr_91_22 H3', W_gr_91_24 H3', W_gr_91_25 H3', W_gr_91_27 H3', W_gr_91_28 H3', W_gr_91_31 H3', W_gr_91_32 H3', W_gr_91_33 H3', W_gr_91_35 H3', W_gr_91_36 H3', W_gr_91_37 H3', W_gr_91_41 H3', W_gr_91_42 H3', W_gr_91_43 H3', W_gr_91_44 H3', W_gr_91_45 H3', W_gr_91_46 H3', W_gr_91_47 H3', W_gr_91_48 H3', W_gr_91_49 H3', W_gr_91_55 H3', c50', nI_1]
        exact g7
  -- a sum that breaks
  have fail : ∀ g yv v2 v4, Gr A h S n te dn la y J N cl g → mm_gi g 91 53 = 1 → r = none → mm_V q_X10_run (d + 10) (0, 0) K 107 [some (.ref 91), some (.int (nI (8 * k))), v2, none, v4] [.int yv] g := by
    intro g yv v2 v4 G o1 er
    have Hg := G.2.1.1
    refine t_X10_run_107 _ _ _ ?_
    simp only [s_iadd, s_isub, s_imul, s_iand, s_ior, s_ixor, s_ishl, s_ishr, s_iushr, s_idiv, s_irem, s_ladd, s_lsub, s_lmul, s_ldiv, s_lrem, s_ineg, s_i2l, s_l2i, s_i2c, s_lcmp, s_ic, s_lc, s_nul, s_str, s_il, s_ll, s_al, s_dup, s_dup2, s_pop, s_ifne, s_icne, s_ifeq, s_iflt, s_ifge, s_ifgt, s_ifle, s_iceq, s_iclt, s_icge, s_icgt, s_icle, s_ifnull, s_ifnonnull, s_is, s_ls, s_as, s_ii, s_gi, s_gl, s_gr, s_pi, s_pz, s_pl, s_pr, s_iald, s_zald, s_lald, s_aald, s_alen, s_iast, s_zast, s_last, s_iret, s_zret, s_lret, s_aret, s_vret, s_sw, s_aast, mm_sw, mm_ld, mm_s1, mm_s2, mm_kl, Value.category, va_rf, List.nil_append, List.cons_append, Option.toList, true_and, and_true, and_self, true_or, or_true, eq_self, not_true_eq_false, false_implies, true_implies, not_false_eq_true, mm_10, mm_01, false_or, or_false, Nat.left_eq_add, Nat.add_eq_left, Nat.add_left_cancel_iff, Nat.reduceEqDiff, false_and, and_false, reduceIte, mm_kd_pi, mm_ln_pi, mm_gl_pi, mm_gr_pi, mm_sz_pi, mm_gi_pi, mm_kd_pl, mm_ln_pl, mm_gi_pl, mm_gr_pl, mm_sz_pl, mm_gl_pl, mm_kd_pr, mm_ln_pr, mm_gi_pr, mm_gl_pr, mm_sz_pr, mm_gr_pr, mm_kd_pa, mm_ln_pa, mm_gl_pa, mm_gr_pa, mm_sz_pa, mm_gi_pa, W_kd_91 Hg, W_s_91 Hg, W_gr_91_2 Hg, W_gr_91_3 Hg, W_gr_91_4 Hg, W_gr_91_5 Hg, W_gr_91_6 Hg, W_gr_91_7 Hg, W_gr_91_9 Hg, W_gr_91_10 Hg, W_gr_91_12 Hg, W_gr_91_22 Hg, W_gr_91_24 Hg, W_gr_91_25 Hg, W_gr_91_27 Hg, W_gr_91_28 Hg, W_gr_91_31 Hg, W_gr_91_32 Hg, W_gr_91_33 Hg, W_gr_91_35 Hg, W_gr_91_36 Hg, W_gr_91_37 Hg, W_gr_91_41 Hg, W_gr_91_42 Hg, W_gr_91_43 Hg, W_gr_91_44 Hg, W_gr_91_45 Hg, W_gr_91_46 Hg, W_gr_91_47 Hg, W_gr_91_48 Hg, W_gr_91_49 Hg, W_gr_91_55 Hg, o1, show ((1 : Int32) = 0) = False by decide]
    exact k0 er g G.1
  -- behind the test
  have go : ∀ g v2 v4, Gr A h S n te dn la y J N cl g → mm_gi g 91 53 = 0 → (∀ D, (cl k).2.2.2.2 = some D → D (oE S dn la) = some 1) → mm_V q_X10_run (d + 10) (0, 0) K 92 [some (.ref 91), some (.int (nI (8 * k))), v2, none, v4] [] g := by
    intro g v2 v4 G o0 ht
    have RR := R
    rcases RR with ⟨⟨D, eD, nD⟩, _⟩ | ⟨_, RR⟩
    · exact absurd (ht D eD) nD
    have Hg := G.2.1.1
    obtain ⟨a0, a1, a2, a3, a4, a5⟩ := G.2.2.2.1.2.2.2.2 k hk
    refine t_X10_run_92 _ _ _ ?_
    simp only [s_iadd, s_isub, s_imul, s_iand, s_ior, s_ixor, s_ishl, s_ishr, s_iushr, s_idiv, s_irem, s_ladd, s_lsub, s_lmul, s_ldiv, s_lrem, s_ineg, s_i2l, s_l2i, s_i2c, s_lcmp, s_ic, s_lc, s_nul, s_str, s_il, s_ll, s_al, s_dup, s_dup2, s_pop, s_ifne, s_icne, s_ifeq, s_iflt, s_ifge, s_ifgt, s_ifle, s_iceq, s_iclt, s_icge, s_icgt, s_icle, s_ifnull, s_ifnonnull, s_is, s_ls, s_as, s_ii, s_gi, s_gl, s_gr, s_pi, s_pz, s_pl, s_pr, s_iald, s_zald, s_lald, s_aald, s_alen, s_iast, s_zast, s_last, s_iret, s_zret, s_lret, s_aret, s_vret, s_sw, s_aast, mm_sw, mm_ld, mm_s1, mm_s2, mm_kl, Value.category, va_rf, List.nil_append, List.cons_append, Option.toList, true_and, and_true, and_self, true_or, or_true, eq_self, not_true_eq_false, false_implies, true_implies, not_false_eq_true, mm_10, mm_01, false_or, or_false, Nat.left_eq_add, Nat.add_eq_left, Nat.add_left_cancel_iff, Nat.reduceEqDiff, false_and, and_false, reduceIte, mm_kd_pi, mm_ln_pi, mm_gl_pi, mm_gr_pi, mm_sz_pi, mm_gi_pi, mm_kd_pl, mm_ln_pl, mm_gi_pl, mm_gr_pl, mm_sz_pl, mm_gl_pl, mm_kd_pr, mm_ln_pr, mm_gi_pr, mm_gl_pr, mm_sz_pr, mm_gr_pr, mm_kd_pa, mm_ln_pa, mm_gl_pa, mm_gr_pa, mm_sz_pa, mm_gi_pa, nI_1]
    by_cases z3 : (cl k).1 = 3
    · obtain ⟨s1, s2⟩ := wf.1 z3
      rcases RR with ⟨q, _⟩ | ⟨xv, yv, ⟨_, rfl, rfl⟩ | ⟨q, _⟩, RR⟩
      · exact absurd z3 q
      · refine c_X10_run_96 (bb := (0, 0)) (b := (0, 0)) (Nat.le_of_ble_eq_true rfl) ⟨rfl, rfl⟩ (W_kd_91 Hg) (W_s_91 Hg) (su_none (d := d + 6) (at' := 8 * k + 1) Hg (by omega) (Or.inr ⟨o0, a1.2 s1⟩) ?_)
        refine t_X10_run_99 _ _ _ ?_
        simp only [s_iadd, s_isub, s_imul, s_iand, s_ior, s_ixor, s_ishl, s_ishr, s_iushr, s_idiv, s_irem, s_ladd, s_lsub, s_lmul, s_ldiv, s_lrem, s_ineg, s_i2l, s_l2i, s_i2c, s_lcmp, s_ic, s_lc, s_nul, s_str, s_il, s_ll, s_al, s_dup, s_dup2, s_pop, s_ifne, s_icne, s_ifeq, s_iflt, s_ifge, s_ifgt, s_ifle, s_iceq, s_iclt, s_icge, s_icgt, s_icle, s_ifnull, s_ifnonnull, s_is, s_ls, s_as, s_ii, s_gi, s_gl, s_gr, s_pi, s_pz, s_pl, s_pr, s_iald, s_zald, s_lald, s_aald, s_alen, s_iast, s_zast, s_last, s_iret, s_zret, s_lret, s_aret, s_vret, s_sw, s_aast, mm_sw, mm_ld, mm_s1, mm_s2, mm_kl, Value.category, va_rf, List.nil_append, List.cons_append, Option.toList, true_and, and_true, and_self, true_or, or_true, eq_self, not_true_eq_false, false_implies, true_implies, not_false_eq_true, mm_10, mm_01, false_or, or_false, Nat.left_eq_add, Nat.add_eq_left, Nat.add_left_cancel_iff, Nat.reduceEqDiff, false_and, and_false, reduceIte, mm_kd_pi, mm_ln_pi, mm_gl_pi, mm_gr_pi, mm_sz_pi, mm_gi_pi, mm_kd_pl, mm_ln_pl, mm_gi_pl, mm_gr_pl, mm_sz_pl, mm_gl_pl, mm_kd_pr, mm_ln_pr, mm_gi_pr, mm_gl_pr, mm_sz_pr, mm_gr_pr, mm_kd_pa, mm_ln_pa, mm_gl_pa, mm_gr_pa, mm_sz_pa, mm_gi_pa, show nI (8 * k) + 3 = nI (8 * k + 3) from nI_add _ 3]
        refine c_X10_run_104 (bb := (0, 0)) (b := (0, 0)) (Nat.le_of_ble_eq_true rfl) ⟨rfl, rfl⟩ (W_kd_91 Hg) (W_s_91 Hg) (su_none (d := d + 6) (at' := 8 * k + 3) Hg (by omega) (Or.inr ⟨o0, a2.2 s2⟩) ?_)
        exact act g (-1) (-1) _ _ G o0 a0.1 rfl RR
      · exact absurd z3 q
    · obtain ⟨D1, D2, w1, w2⟩ := wf.2 z3
      refine c_X10_run_96 (bb := (0, 0)) (b := (0, 0)) (Nat.le_of_ble_eq_true rfl) ⟨rfl, rfl⟩ (W_kd_91 Hg) (W_s_91 Hg) (su_val (d := d + 6) (at' := 8 * k + 1) Hg (by omega) o0 G.2.1.2.2.2.2.1 G.2.2.2.1 okE G.2.2.1 (a1.1 D1 w1) (fun g2 x F2 o2 eD xb => ?_) (fun g2 vv F2 o2 eD => ?_)) <;> refine t_X10_run_99 _ _ _ ?_
      · have G2 := Gr_su G F2
        have Hg2 := G2.2.1.1
        obtain ⟨c0, c1, c2, c3, c4, c5⟩ := G2.2.2.2.1.2.2.2.2 k hk
        simp only [s_iadd, s_isub, s_imul, s_iand, s_ior, s_ixor, s_ishl, s_ishr, s_iushr, s_idiv, s_irem, s_ladd, s_lsub, s_lmul, s_ldiv, s_lrem, s_ineg, s_i2l, s_l2i, s_i2c, s_lcmp, s_ic, s_lc, s_nul, s_str, s_il, s_ll, s_al, s_dup, s_dup2, s_pop, s_ifne, s_icne, s_ifeq, s_iflt, s_ifge, s_ifgt, s_ifle, s_iceq, s_iclt, s_icge, s_icgt, s_icle, s_ifnull, s_ifnonnull, s_is, s_ls, s_as, s_ii, s_gi, s_gl, s_gr, s_pi, s_pz, s_pl, s_pr, s_iald, s_zald, s_lald, s_aald, s_alen, s_iast, s_zast, s_last, s_iret, s_zret, s_lret, s_aret, s_vret, s_sw, s_aast, mm_sw, mm_ld, mm_s1, mm_s2, mm_kl, Value.category, va_rf, List.nil_append, List.cons_append, Option.toList, true_and, and_true, and_self, true_or, or_true, eq_self, not_true_eq_false, false_implies, true_implies, not_false_eq_true, mm_10, mm_01, false_or, or_false, Nat.left_eq_add, Nat.add_eq_left, Nat.add_left_cancel_iff, Nat.reduceEqDiff, false_and, and_false, reduceIte, mm_kd_pi, mm_ln_pi, mm_gl_pi, mm_gr_pi, mm_sz_pi, mm_gi_pi, mm_kd_pl, mm_ln_pl, mm_gi_pl, mm_gr_pl, mm_sz_pl, mm_gl_pl, mm_kd_pr, mm_ln_pr, mm_gi_pr, mm_gl_pr, mm_sz_pr, mm_gr_pr, mm_kd_pa, mm_ln_pa, mm_gl_pa, mm_gr_pa, mm_sz_pa, mm_gi_pa, show nI (8 * k) + 3 = nI (8 * k + 3) from nI_add _ 3]
        refine c_X10_run_104 (bb := (0, 0)) (b := (0, 0)) (Nat.le_of_ble_eq_true rfl) ⟨rfl, rfl⟩ (W_kd_91 Hg2) (W_s_91 Hg2) (su_val (d := d + 6) (at' := 8 * k + 3) Hg2 (by omega) o2 G2.2.1.2.2.2.2.1 G2.2.2.2.1 okE G2.2.2.1 (c2.1 D2 w2) (fun g3 x' F3 o3 eD' xb' => ?_) (fun g3 vv F3 o3 eD' => ?_))
        · have G3 := Gr_su G2 F3
          obtain ⟨f0, _⟩ := G3.2.2.2.1.2.2.2.2 k hk
          rcases RR with ⟨_, ⟨E1, E2, i1, i2, nn⟩, er⟩ | ⟨xv, yv, ⟨q, _⟩ | ⟨_, E1, E2, a, b, i1, i2, j1, j2, rfl, rfl⟩, RR⟩
          · exfalso
            rw [w1] at i1
            rw [w2] at i2
            cases i1
            cases i2
            rcases nn with nn | nn
            · have : D1 (oE S dn la) = none := nn
              rw [eD] at this; cases this
            · have : D2 (oE S dn la) = none := nn
              rw [eD'] at this; cases this
          · exact absurd q z3
          · rw [w1] at i1
            rw [w2] at i2
            cases i1
            cases i2
            have j1 : D1 (oE S dn la) = some a := j1
            have j2 : D2 (oE S dn la) = some b := j2
            rw [eD] at j1
            rw [eD'] at j2
            cases j1
            cases j2
            exact act g3 (i32 x) (i32 x') _ _ G3 o3 f0.1 rfl RR
        · have G3 := Gr_su G2 F3
          refine fail g3 _ _ _ G3 o3 ?_
          rcases RR with ⟨_, _, er⟩ | ⟨xv, yv, ⟨q, _⟩ | ⟨_, E1, E2, a, b, i1, i2, j1, j2, _, _⟩, RR⟩
          · exact er
          · exact absurd q z3
          · exfalso
            rw [w2] at i2
            cases i2
            have j2 : D2 (oE S dn la) = some b := j2
            rw [eD'] at j2
            cases j2
      · have G2 := Gr_su G F2
        have Hg2 := G2.2.1.1
        simp only [s_iadd, s_isub, s_imul, s_iand, s_ior, s_ixor, s_ishl, s_ishr, s_iushr, s_idiv, s_irem, s_ladd, s_lsub, s_lmul, s_ldiv, s_lrem, s_ineg, s_i2l, s_l2i, s_i2c, s_lcmp, s_ic, s_lc, s_nul, s_str, s_il, s_ll, s_al, s_dup, s_dup2, s_pop, s_ifne, s_icne, s_ifeq, s_iflt, s_ifge, s_ifgt, s_ifle, s_iceq, s_iclt, s_icge, s_icgt, s_icle, s_ifnull, s_ifnonnull, s_is, s_ls, s_as, s_ii, s_gi, s_gl, s_gr, s_pi, s_pz, s_pl, s_pr, s_iald, s_zald, s_lald, s_aald, s_alen, s_iast, s_zast, s_last, s_iret, s_zret, s_lret, s_aret, s_vret, s_sw, s_aast, mm_sw, mm_ld, mm_s1, mm_s2, mm_kl, Value.category, va_rf, List.nil_append, List.cons_append, Option.toList, true_and, and_true, and_self, true_or, or_true, eq_self, not_true_eq_false, false_implies, true_implies, not_false_eq_true, mm_10, mm_01, false_or, or_false, Nat.left_eq_add, Nat.add_eq_left, Nat.add_left_cancel_iff, Nat.reduceEqDiff, false_and, and_false, reduceIte, mm_kd_pi, mm_ln_pi, mm_gl_pi, mm_gr_pi, mm_sz_pi, mm_gi_pi, mm_kd_pl, mm_ln_pl, mm_gi_pl, mm_gr_pl, mm_sz_pl, mm_gl_pl, mm_kd_pr, mm_ln_pr, mm_gi_pr, mm_gl_pr, mm_sz_pr, mm_gr_pr, mm_kd_pa, mm_ln_pa, mm_gl_pa, mm_gr_pa, mm_sz_pa, mm_gi_pa, show nI (8 * k) + 3 = nI (8 * k + 3) from nI_add _ 3]
        refine c_X10_run_104 (bb := (0, 0)) (b := (0, 0)) (Nat.le_of_ble_eq_true rfl) ⟨rfl, rfl⟩ (W_kd_91 Hg2) (W_s_91 Hg2) (su_none (d := d + 6) (at' := 8 * k + 3) Hg2 (by omega) (Or.inl o2) ?_)
        refine fail g2 _ _ _ G2 o2 ?_
        rcases RR with ⟨_, _, er⟩ | ⟨xv, yv, ⟨q, _⟩ | ⟨_, E1, E2, a, b, i1, i2, j1, j2, _, _⟩, RR⟩
        · exact er
        · exact absurd q z3
        · exfalso
          rw [w1] at i1
          cases i1
          have j1 : D1 (oE S dn la) = some a := j1
          rw [eD] at j1
          cases j1
  have i50 : (nI dn).toInt64 = i64 (dn : Int) := i64_nat (by omega)
  have i9 : (nI (S 9 0)).toInt64 = i64 (S 9 0 : Int) := i64_nat (by omega)
  have ila : (i32 la).toInt64 = i64 la := i32_l (by unfold xB; omega)
  have iop : (nI (S 0 0 - pop (S 0 4))).toInt64 = i64 ((S 0 0 - pop (S 0 4) : Nat) : Int) := i64_nat (by omega)
  have r5 : mm_gi h 93 5 = nI (S 9 0) := (HM_t hm).1
  refine e_X10_run (t_X10_run_0 _ _ _ ?_)
  simp only [s_iadd, s_isub, s_imul, s_iand, s_ior, s_ixor, s_ishl, s_ishr, s_iushr, s_idiv, s_irem, s_ladd, s_lsub, s_lmul, s_ldiv, s_lrem, s_ineg, s_i2l, s_l2i, s_i2c, s_lcmp, s_ic, s_lc, s_nul, s_str, s_il, s_ll, s_al, s_dup, s_dup2, s_pop, s_ifne, s_icne, s_ifeq, s_iflt, s_ifge, s_ifgt, s_ifle, s_iceq, s_iclt, s_icge, s_icgt, s_icle, s_ifnull, s_ifnonnull, s_is, s_ls, s_as, s_ii, s_gi, s_gl, s_gr, s_pi, s_pz, s_pl, s_pr, s_iald, s_zald, s_lald, s_aald, s_alen, s_iast, s_zast, s_last, s_iret, s_zret, s_lret, s_aret, s_vret, s_sw, s_aast, mm_sw, mm_ld, mm_s1, mm_s2, mm_kl, Value.category, va_rf, List.nil_append, List.cons_append, Option.toList, true_and, and_true, and_self, true_or, or_true, eq_self, not_true_eq_false, false_implies, true_implies, not_false_eq_true, mm_10, mm_01, false_or, or_false, Nat.left_eq_add, Nat.add_eq_left, Nat.add_left_cancel_iff, Nat.reduceEqDiff, false_and, and_false, reduceIte, mm_kd_pi, mm_ln_pi, mm_gl_pi, mm_gr_pi, mm_sz_pi, mm_gi_pi, mm_kd_pl, mm_ln_pl, mm_gi_pl, mm_gr_pl, mm_sz_pl, mm_gl_pl, mm_kd_pr, mm_ln_pr, mm_gi_pr, mm_gl_pr, mm_sz_pr, mm_gr_pr, mm_kd_pa, mm_ln_pa, mm_gl_pa, mm_gr_pa, mm_sz_pa, mm_gi_pa, W_kd_91 H, W_s_91 H, W_gr_91_2 H, W_gr_91_3 H, W_gr_91_4 H, W_gr_91_5 H, W_gr_91_6 H, W_gr_91_7 H, W_gr_91_9 H, W_gr_91_10 H, W_gr_91_12 H, W_gr_91_22 H, W_gr_91_24 H, W_gr_91_25 H, W_gr_91_27 H, W_gr_91_28 H, W_gr_91_31 H, W_gr_91_32 H, W_gr_91_33 H, W_gr_91_35 H, W_gr_91_36 H, W_gr_91_37 H, W_gr_91_41 H, W_gr_91_42 H, W_gr_91_43 H, W_gr_91_44 H, W_gr_91_45 H, W_gr_91_46 H, W_gr_91_47 H, W_gr_91_48 H, W_gr_91_49 H, W_gr_91_55 H, W_kd_93 H, W_s_93 H, W_ln_93 H, W_kd_110 H, W_s_110 H, W_ln_110 H, show (5 : Int32).toNatClampNeg = 5 from rfl, show vp_in (5 : Int32) 5475 from vp_in_nI (n := 5) (by decide) (by decide), show (1 : Int32).toNatClampNeg = 1 from rfl, show vp_in (1 : Int32) 13 from vp_in_nI (n := 1) (by decide) (by decide), show (2 : Int32).toNatClampNeg = 2 from rfl, show vp_in (2 : Int32) 13 from vp_in_nI (n := 2) (by decide) (by decide), show (3 : Int32).toNatClampNeg = 3 from rfl, show vp_in (3 : Int32) 13 from vp_in_nI (n := 3) (by decide) (by decide), show (4 : Int32).toNatClampNeg = 4 from rfl, show vp_in (4 : Int32) 13 from vp_in_nI (n := 4) (by decide) (by decide), r5, i9, ← eg1, W_kd_91 H1, W_s_91 H1, W_gr_91_2 H1, W_gr_91_3 H1, W_gr_91_4 H1, W_gr_91_5 H1, W_gr_91_6 H1, W_gr_91_7 H1, W_gr_91_9 H1, W_gr_91_10 H1, W_gr_91_12 H1, W_gr_91_22 H1, W_gr_91_24 H1, W_gr_91_25 H1, W_gr_91_27 H1, W_gr_91_28 H1, W_gr_91_31 H1, W_gr_91_32 H1, W_gr_91_33 H1, W_gr_91_35 H1, W_gr_91_36 H1, W_gr_91_37 H1, W_gr_91_41 H1, W_gr_91_42 H1, W_gr_91_43 H1, W_gr_91_44 H1, W_gr_91_45 H1, W_gr_91_46 H1, W_gr_91_47 H1, W_gr_91_48 H1, W_gr_91_49 H1, W_gr_91_55 H1, W_kd_110 H1, W_s_110 H1, W_ln_110 H1, q1 91 50, e50, i50, ← eg2, W_kd_91 H2, W_s_91 H2, W_gr_91_2 H2, W_gr_91_3 H2, W_gr_91_4 H2, W_gr_91_5 H2, W_gr_91_6 H2, W_gr_91_7 H2, W_gr_91_9 H2, W_gr_91_10 H2, W_gr_91_12 H2, W_gr_91_22 H2, W_gr_91_24 H2, W_gr_91_25 H2, W_gr_91_27 H2, W_gr_91_28 H2, W_gr_91_31 H2, W_gr_91_32 H2, W_gr_91_33 H2, W_gr_91_35 H2, W_gr_91_36 H2, W_gr_91_37 H2, W_gr_91_41 H2, W_gr_91_42 H2, W_gr_91_43 H2, W_gr_91_44 H2, W_gr_91_45 H2, W_gr_91_46 H2, W_gr_91_47 H2, W_gr_91_48 H2, W_gr_91_49 H2, W_gr_91_55 H2, W_kd_110 H2, W_s_110 H2, W_ln_110 H2, q2 91 51, e51, ila, ← eg3, W_kd_91 H3, W_s_91 H3, W_gr_91_2 H3, W_gr_91_3 H3, W_gr_91_4 H3, W_gr_91_5 H3, W_gr_91_6 H3, W_gr_91_7 H3, W_gr_91_9 H3, W_gr_91_10 H3, W_gr_91_12 H3, W_gr_91_22 H3, W_gr_91_24 H3, W_gr_91_25 H3, W_gr_91_27 H3, W_gr_91_28 H3, W_gr_91_31 H3, W_gr_91_32 H3, W_gr_91_33 H3, W_gr_91_35 H3, W_gr_91_36 H3, W_gr_91_37 H3, W_gr_91_41 H3, W_gr_91_42 H3, W_gr_91_43 H3, W_gr_91_44 H3, W_gr_91_45 H3, W_gr_91_46 H3, W_gr_91_47 H3, W_gr_91_48 H3, W_gr_91_49 H3, W_gr_91_55 H3]
  refine c_X10_run_41 (bb := (0, 0)) (b := (0, 0)) (Nat.le_of_ble_eq_true rfl) ⟨rfl, rfl⟩ (W_kd_91 H3) (W_s_91 H3) (sp_openOnes (L := S 0 0) H3 (by rw [q3]; exact hm.1.1) L8 ?_)
  rw [show mm_gi g3 93 = mm_gi h 93 from funext fun j => q3 93 j, op.2]
  have f5 : mm_gi g4 120 (8 * k + 5) = mm_gi g5 120 (8 * k + 5) := by rw [eg5, mm_gi_pi, if_neg (by omega)]
  have H5 := Q5.1
  refine t_X10_run_44 _ _ _ ?_
  cases eT : (cl k).2.2.2.2 with
  | none =>
    obtain ⟨rr, r4, t5, t6⟩ := m4 eT
    simp only [s_iadd, s_isub, s_imul, s_iand, s_ior, s_ixor, s_ishl, s_ishr, s_iushr, s_idiv, s_irem, s_ladd, s_lsub, s_lmul, s_ldiv, s_lrem, s_ineg, s_i2l, s_l2i, s_i2c, s_lcmp, s_ic, s_lc, s_nul, s_str, s_il, s_ll, s_al, s_dup, s_dup2, s_pop, s_ifne, s_icne, s_ifeq, s_iflt, s_ifge, s_ifgt, s_ifle, s_iceq, s_iclt, s_icge, s_icgt, s_icle, s_ifnull, s_ifnonnull, s_is, s_ls, s_as, s_ii, s_gi, s_gl, s_gr, s_pi, s_pz, s_pl, s_pr, s_iald, s_zald, s_lald, s_aald, s_alen, s_iast, s_zast, s_last, s_iret, s_zret, s_lret, s_aret, s_vret, s_sw, s_aast, mm_sw, mm_ld, mm_s1, mm_s2, mm_kl, Value.category, va_rf, List.nil_append, List.cons_append, Option.toList, true_and, and_true, and_self, true_or, or_true, eq_self, not_true_eq_false, false_implies, true_implies, not_false_eq_true, mm_10, mm_01, false_or, or_false, Nat.left_eq_add, Nat.add_eq_left, Nat.add_left_cancel_iff, Nat.reduceEqDiff, false_and, and_false, reduceIte, mm_kd_pi, mm_ln_pi, mm_gl_pi, mm_gr_pi, mm_sz_pi, mm_gi_pi, mm_kd_pl, mm_ln_pl, mm_gi_pl, mm_gr_pl, mm_sz_pl, mm_gl_pl, mm_kd_pr, mm_ln_pr, mm_gi_pr, mm_gl_pr, mm_sz_pr, mm_gr_pr, mm_kd_pa, mm_ln_pa, mm_gl_pa, mm_gr_pa, mm_sz_pa, mm_gi_pa, W_kd_110 H3, W_s_110 H3, W_ln_110 H3, show (4 : Int32).toNatClampNeg = 4 from rfl, show vp_in (4 : Int32) 13 from vp_in_nI (n := 4) (by decide) (by decide), iop, ← eg4, W_kd_91 H4, W_s_91 H4, W_gr_91_2 H4, W_gr_91_3 H4, W_gr_91_4 H4, W_gr_91_5 H4, W_gr_91_6 H4, W_gr_91_7 H4, W_gr_91_9 H4, W_gr_91_10 H4, W_gr_91_12 H4, W_gr_91_22 H4, W_gr_91_24 H4, W_gr_91_25 H4, W_gr_91_27 H4, W_gr_91_28 H4, W_gr_91_31 H4, W_gr_91_32 H4, W_gr_91_33 H4, W_gr_91_35 H4, W_gr_91_36 H4, W_gr_91_37 H4, W_gr_91_41 H4, W_gr_91_42 H4, W_gr_91_43 H4, W_gr_91_44 H4, W_gr_91_45 H4, W_gr_91_46 H4, W_gr_91_47 H4, W_gr_91_48 H4, W_gr_91_49 H4, W_gr_91_55 H4, ← eg5, W_kd_91 H5, W_s_91 H5, W_gr_91_2 H5, W_gr_91_3 H5, W_gr_91_4 H5, W_gr_91_5 H5, W_gr_91_6 H5, W_gr_91_7 H5, W_gr_91_9 H5, W_gr_91_10 H5, W_gr_91_12 H5, W_gr_91_22 H5, W_gr_91_24 H5, W_gr_91_25 H5, W_gr_91_27 H5, W_gr_91_28 H5, W_gr_91_31 H5, W_gr_91_32 H5, W_gr_91_33 H5, W_gr_91_35 H5, W_gr_91_36 H5, W_gr_91_37 H5, W_gr_91_41 H5, W_gr_91_42 H5, W_gr_91_43 H5, W_gr_91_44 H5, W_gr_91_45 H5, W_gr_91_46 H5, W_gr_91_47 H5, W_gr_91_48 H5, W_gr_91_49 H5, W_gr_91_55 H5, W_kd_120 H5, W_s_120 H5, W_ln_120 H5, show nI (8 * k) + 5 = nI (8 * k + 5) from nI_add _ 5, show nI (8 * k) + 6 = nI (8 * k + 6) from nI_add _ 6, nI_clamp (show 8 * k + 5 < 2 ^ 31 by omega), vp_in_nI (show 8 * k + 5 < 96 by omega) (show 96 < 2 ^ 31 by decide), nI_clamp (show 8 * k + 6 < 2 ^ 31 by omega), vp_in_nI (show 8 * k + 6 < 96 by omega) (show 96 < 2 ^ 31 by decide), t5, t6, eq_true (nI_le (Nat.le_refl rr) (show rr < 2 ^ 31 by omega))]
    exact go g5 _ _ G5 o5 (fun D q => by rw [eT] at q; cases q)
  | some DT =>
    have X5 := m5 DT eT
    obtain ⟨pp, qq, ww, ep, eq, qy, w5, PP⟩ := id X5
    have pq := PP.1.1
    have y4 := P5.2.1.2
    simp only [s_iadd, s_isub, s_imul, s_iand, s_ior, s_ixor, s_ishl, s_ishr, s_iushr, s_idiv, s_irem, s_ladd, s_lsub, s_lmul, s_ldiv, s_lrem, s_ineg, s_i2l, s_l2i, s_i2c, s_lcmp, s_ic, s_lc, s_nul, s_str, s_il, s_ll, s_al, s_dup, s_dup2, s_pop, s_ifne, s_icne, s_ifeq, s_iflt, s_ifge, s_ifgt, s_ifle, s_iceq, s_iclt, s_icge, s_icgt, s_icle, s_ifnull, s_ifnonnull, s_is, s_ls, s_as, s_ii, s_gi, s_gl, s_gr, s_pi, s_pz, s_pl, s_pr, s_iald, s_zald, s_lald, s_aald, s_alen, s_iast, s_zast, s_last, s_iret, s_zret, s_lret, s_aret, s_vret, s_sw, s_aast, mm_sw, mm_ld, mm_s1, mm_s2, mm_kl, Value.category, va_rf, List.nil_append, List.cons_append, Option.toList, true_and, and_true, and_self, true_or, or_true, eq_self, not_true_eq_false, false_implies, true_implies, not_false_eq_true, mm_10, mm_01, false_or, or_false, Nat.left_eq_add, Nat.add_eq_left, Nat.add_left_cancel_iff, Nat.reduceEqDiff, false_and, and_false, reduceIte, mm_kd_pi, mm_ln_pi, mm_gl_pi, mm_gr_pi, mm_sz_pi, mm_gi_pi, mm_kd_pl, mm_ln_pl, mm_gi_pl, mm_gr_pl, mm_sz_pl, mm_gl_pl, mm_kd_pr, mm_ln_pr, mm_gi_pr, mm_gl_pr, mm_sz_pr, mm_gr_pr, mm_kd_pa, mm_ln_pa, mm_gl_pa, mm_gr_pa, mm_sz_pa, mm_gi_pa, W_kd_110 H3, W_s_110 H3, W_ln_110 H3, show (4 : Int32).toNatClampNeg = 4 from rfl, show vp_in (4 : Int32) 13 from vp_in_nI (n := 4) (by decide) (by decide), iop, ← eg4, W_kd_91 H4, W_s_91 H4, W_gr_91_2 H4, W_gr_91_3 H4, W_gr_91_4 H4, W_gr_91_5 H4, W_gr_91_6 H4, W_gr_91_7 H4, W_gr_91_9 H4, W_gr_91_10 H4, W_gr_91_12 H4, W_gr_91_22 H4, W_gr_91_24 H4, W_gr_91_25 H4, W_gr_91_27 H4, W_gr_91_28 H4, W_gr_91_31 H4, W_gr_91_32 H4, W_gr_91_33 H4, W_gr_91_35 H4, W_gr_91_36 H4, W_gr_91_37 H4, W_gr_91_41 H4, W_gr_91_42 H4, W_gr_91_43 H4, W_gr_91_44 H4, W_gr_91_45 H4, W_gr_91_46 H4, W_gr_91_47 H4, W_gr_91_48 H4, W_gr_91_49 H4, W_gr_91_55 H4, ← eg5, W_kd_91 H5, W_s_91 H5, W_gr_91_2 H5, W_gr_91_3 H5, W_gr_91_4 H5, W_gr_91_5 H5, W_gr_91_6 H5, W_gr_91_7 H5, W_gr_91_9 H5, W_gr_91_10 H5, W_gr_91_12 H5, W_gr_91_22 H5, W_gr_91_24 H5, W_gr_91_25 H5, W_gr_91_27 H5, W_gr_91_28 H5, W_gr_91_31 H5, W_gr_91_32 H5, W_gr_91_33 H5, W_gr_91_35 H5, W_gr_91_36 H5, W_gr_91_37 H5, W_gr_91_41 H5, W_gr_91_42 H5, W_gr_91_43 H5, W_gr_91_44 H5, W_gr_91_45 H5, W_gr_91_46 H5, W_gr_91_47 H5, W_gr_91_48 H5, W_gr_91_49 H5, W_gr_91_55 H5, W_kd_120 H5, W_s_120 H5, W_ln_120 H5, show nI (8 * k) + 5 = nI (8 * k + 5) from nI_add _ 5, show nI (8 * k) + 6 = nI (8 * k + 6) from nI_add _ 6, nI_clamp (show 8 * k + 5 < 2 ^ 31 by omega), vp_in_nI (show 8 * k + 5 < 96 by omega) (show 96 < 2 ^ 31 by decide), nI_clamp (show 8 * k + 6 < 2 ^ 31 by omega), vp_in_nI (show 8 * k + 6 < 96 by omega) (show 96 < 2 ^ 31 by decide), ep, eq, eq_false (nI_ge pq (show qq < 2 ^ 31 by omega))]
    refine c_X10_run_75 (bb := (0, 0)) (b := (0, 0)) (Nat.le_of_ble_eq_true rfl) ⟨rfl, rfl⟩ (W_kd_91 H5) (W_s_91 H5) (su_val (d := d + 6) (at' := 8 * k + 5) H5 (by omega) o5 Q5.2.2.2.2.1 P5 okE W5 X5 (fun g6 x F6 o6 eD xb => ?_) (fun g6 vv F6 o6 eD => ?_)) <;> refine t_X10_run_78 _ _ _ ?_
    · have G6 := Gr_su G5 F6
      have H6 := G6.2.1.1
      rcases hT DT eT _ okE x eD with e0 | e0
      · subst e0
        simp only [s_iadd, s_isub, s_imul, s_iand, s_ior, s_ixor, s_ishl, s_ishr, s_iushr, s_idiv, s_irem, s_ladd, s_lsub, s_lmul, s_ldiv, s_lrem, s_ineg, s_i2l, s_l2i, s_i2c, s_lcmp, s_ic, s_lc, s_nul, s_str, s_il, s_ll, s_al, s_dup, s_dup2, s_pop, s_ifne, s_icne, s_ifeq, s_iflt, s_ifge, s_ifgt, s_ifle, s_iceq, s_iclt, s_icge, s_icgt, s_icle, s_ifnull, s_ifnonnull, s_is, s_ls, s_as, s_ii, s_gi, s_gl, s_gr, s_pi, s_pz, s_pl, s_pr, s_iald, s_zald, s_lald, s_aald, s_alen, s_iast, s_zast, s_last, s_iret, s_zret, s_lret, s_aret, s_vret, s_sw, s_aast, mm_sw, mm_ld, mm_s1, mm_s2, mm_kl, Value.category, va_rf, List.nil_append, List.cons_append, Option.toList, true_and, and_true, and_self, true_or, or_true, eq_self, not_true_eq_false, false_implies, true_implies, not_false_eq_true, mm_10, mm_01, false_or, or_false, Nat.left_eq_add, Nat.add_eq_left, Nat.add_left_cancel_iff, Nat.reduceEqDiff, false_and, and_false, reduceIte, mm_kd_pi, mm_ln_pi, mm_gl_pi, mm_gr_pi, mm_sz_pi, mm_gi_pi, mm_kd_pl, mm_ln_pl, mm_gi_pl, mm_gr_pl, mm_sz_pl, mm_gl_pl, mm_kd_pr, mm_ln_pr, mm_gi_pr, mm_gl_pr, mm_sz_pr, mm_gr_pr, mm_kd_pa, mm_ln_pa, mm_gl_pa, mm_gr_pa, mm_sz_pa, mm_gi_pa, W_kd_91 H6, W_s_91 H6, W_gr_91_2 H6, W_gr_91_3 H6, W_gr_91_4 H6, W_gr_91_5 H6, W_gr_91_6 H6, W_gr_91_7 H6, W_gr_91_9 H6, W_gr_91_10 H6, W_gr_91_12 H6, W_gr_91_22 H6, W_gr_91_24 H6, W_gr_91_25 H6, W_gr_91_27 H6, W_gr_91_28 H6, W_gr_91_31 H6, W_gr_91_32 H6, W_gr_91_33 H6, W_gr_91_35 H6, W_gr_91_36 H6, W_gr_91_37 H6, W_gr_91_41 H6, W_gr_91_42 H6, W_gr_91_43 H6, W_gr_91_44 H6, W_gr_91_45 H6, W_gr_91_46 H6, W_gr_91_47 H6, W_gr_91_48 H6, W_gr_91_49 H6, W_gr_91_55 H6, o6, show (i32 0 = 0) = True by decide]
        refine skip g6 _ _ _ G6 ?_
        rcases R with ⟨_, er⟩ | ⟨ht, _⟩
        · exact er
        · exfalso
          have : DT (oE S dn la) = some 1 := ht DT eT
          rw [eD] at this
          cases this
      · subst e0
        simp only [s_iadd, s_isub, s_imul, s_iand, s_ior, s_ixor, s_ishl, s_ishr, s_iushr, s_idiv, s_irem, s_ladd, s_lsub, s_lmul, s_ldiv, s_lrem, s_ineg, s_i2l, s_l2i, s_i2c, s_lcmp, s_ic, s_lc, s_nul, s_str, s_il, s_ll, s_al, s_dup, s_dup2, s_pop, s_ifne, s_icne, s_ifeq, s_iflt, s_ifge, s_ifgt, s_ifle, s_iceq, s_iclt, s_icge, s_icgt, s_icle, s_ifnull, s_ifnonnull, s_is, s_ls, s_as, s_ii, s_gi, s_gl, s_gr, s_pi, s_pz, s_pl, s_pr, s_iald, s_zald, s_lald, s_aald, s_alen, s_iast, s_zast, s_last, s_iret, s_zret, s_lret, s_aret, s_vret, s_sw, s_aast, mm_sw, mm_ld, mm_s1, mm_s2, mm_kl, Value.category, va_rf, List.nil_append, List.cons_append, Option.toList, true_and, and_true, and_self, true_or, or_true, eq_self, not_true_eq_false, false_implies, true_implies, not_false_eq_true, mm_10, mm_01, false_or, or_false, Nat.left_eq_add, Nat.add_eq_left, Nat.add_left_cancel_iff, Nat.reduceEqDiff, false_and, and_false, reduceIte, mm_kd_pi, mm_ln_pi, mm_gl_pi, mm_gr_pi, mm_sz_pi, mm_gi_pi, mm_kd_pl, mm_ln_pl, mm_gi_pl, mm_gr_pl, mm_sz_pl, mm_gl_pl, mm_kd_pr, mm_ln_pr, mm_gi_pr, mm_gl_pr, mm_sz_pr, mm_gr_pr, mm_kd_pa, mm_ln_pa, mm_gl_pa, mm_gr_pa, mm_sz_pa, mm_gi_pa, W_kd_91 H6, W_s_91 H6, W_gr_91_2 H6, W_gr_91_3 H6, W_gr_91_4 H6, W_gr_91_5 H6, W_gr_91_6 H6, W_gr_91_7 H6, W_gr_91_9 H6, W_gr_91_10 H6, W_gr_91_12 H6, W_gr_91_22 H6, W_gr_91_24 H6, W_gr_91_25 H6, W_gr_91_27 H6, W_gr_91_28 H6, W_gr_91_31 H6, W_gr_91_32 H6, W_gr_91_33 H6, W_gr_91_35 H6, W_gr_91_36 H6, W_gr_91_37 H6, W_gr_91_41 H6, W_gr_91_42 H6, W_gr_91_43 H6, W_gr_91_44 H6, W_gr_91_45 H6, W_gr_91_46 H6, W_gr_91_47 H6, W_gr_91_48 H6, W_gr_91_49 H6, W_gr_91_55 H6, o6, show (i32 1 = 0) = False by decide]
        exact go g6 _ _ G6 o6 (fun D q => by rw [eT] at q; cases q; exact eD)
    · have G6 := Gr_su G5 F6
      have H6 := G6.2.1.1
      simp only [s_iadd, s_isub, s_imul, s_iand, s_ior, s_ixor, s_ishl, s_ishr, s_iushr, s_idiv, s_irem, s_ladd, s_lsub, s_lmul, s_ldiv, s_lrem, s_ineg, s_i2l, s_l2i, s_i2c, s_lcmp, s_ic, s_lc, s_nul, s_str, s_il, s_ll, s_al, s_dup, s_dup2, s_pop, s_ifne, s_icne, s_ifeq, s_iflt, s_ifge, s_ifgt, s_ifle, s_iceq, s_iclt, s_icge, s_icgt, s_icle, s_ifnull, s_ifnonnull, s_is, s_ls, s_as, s_ii, s_gi, s_gl, s_gr, s_pi, s_pz, s_pl, s_pr, s_iald, s_zald, s_lald, s_aald, s_alen, s_iast, s_zast, s_last, s_iret, s_zret, s_lret, s_aret, s_vret, s_sw, s_aast, mm_sw, mm_ld, mm_s1, mm_s2, mm_kl, Value.category, va_rf, List.nil_append, List.cons_append, Option.toList, true_and, and_true, and_self, true_or, or_true, eq_self, not_true_eq_false, false_implies, true_implies, not_false_eq_true, mm_10, mm_01, false_or, or_false, Nat.left_eq_add, Nat.add_eq_left, Nat.add_left_cancel_iff, Nat.reduceEqDiff, false_and, and_false, reduceIte, mm_kd_pi, mm_ln_pi, mm_gl_pi, mm_gr_pi, mm_sz_pi, mm_gi_pi, mm_kd_pl, mm_ln_pl, mm_gi_pl, mm_gr_pl, mm_sz_pl, mm_gl_pl, mm_kd_pr, mm_ln_pr, mm_gi_pr, mm_gl_pr, mm_sz_pr, mm_gr_pr, mm_kd_pa, mm_ln_pa, mm_gl_pa, mm_gr_pa, mm_sz_pa, mm_gi_pa, W_kd_91 H6, W_s_91 H6, W_gr_91_2 H6, W_gr_91_3 H6, W_gr_91_4 H6, W_gr_91_5 H6, W_gr_91_6 H6, W_gr_91_7 H6, W_gr_91_9 H6, W_gr_91_10 H6, W_gr_91_12 H6, W_gr_91_22 H6, W_gr_91_24 H6, W_gr_91_25 H6, W_gr_91_27 H6, W_gr_91_28 H6, W_gr_91_31 H6, W_gr_91_32 H6, W_gr_91_33 H6, W_gr_91_35 H6, W_gr_91_36 H6, W_gr_91_37 H6, W_gr_91_41 H6, W_gr_91_42 H6, W_gr_91_43 H6, W_gr_91_44 H6, W_gr_91_45 H6, W_gr_91_46 H6, W_gr_91_47 H6, W_gr_91_48 H6, W_gr_91_49 H6, W_gr_91_55 H6, o6, show ((1 : Int32) = 0) = False by decide]
      refine skip g6 _ _ _ G6 ?_
      rcases R with ⟨_, er⟩ | ⟨ht, _⟩
      · exact er
      · exfalso
        have : DT (oE S dn la) = some 1 := ht DT eT
        rw [eD] at this
        cases this
end
