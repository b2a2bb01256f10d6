/-! pairs: read, answer, lose, pass -/
def xAll (c j : Nat) : Prop := scr c j ∨ (4 ≤ c ∧ c ≤ 13) ∨ c = 50 ∨ c = 51 ∨ (c = 93 ∧ j < 75) ∨ (c = 91 ∧ (j = 8 ∨ j = 1)) ∨ c = 96 ∨ c = 97 ∨ (c = 0 ∧ j = 12)
section
variable {LR : mmH → Nat → (Nat → Int32) → Nat → Prop}
theorem xa_t {h g : mmH} (F : fx xAll scl h g) : ∀ c, 122 ≤ c → mm_kd g c = mm_kd h c ∧ mm_ln g c = mm_ln h c ∧ (∀ j, mm_gi g c j = mm_gi h c j) ∧ ∀ j, mm_gr g c j = mm_gr h c j := fun c hc => ⟨by rw [F.1.1], by rw [F.1.2.1], fun j => F.2.1 c j (by unfold xAll scr; omega), fun j => by rw [F.1.2.2.1]⟩
theorem I_img_xa (FR : LRf LR) {h g : mmH} {k a : Nat} (ha : a = 27 ∨ a = 38) (F : fx xAll scl h g) (H : I_img LR h k a) : I_img LR g k a := by
  refine ⟨fun w hw t ht => ?_, ?_⟩
  · rw [F.1.1, F.1.2.2.2]
    rw [F.1.2.2.1] at ht
    exact H.1 w hw t ht
  · rw [F.2.1 49 k (by unfold xAll scr; omega), F.2.1 95 k (by unfold xAll scr; omega)]
    rcases H.2 with z | ⟨z1, z2, S, v, c, m, lw⟩
    · exact Or.inl z
    · have ef : mm_gi g 94 = mm_gi h 94 := funext fun j => F.2.1 94 j (by unfold xAll scr; omega)
      exact Or.inr ⟨z1, z2, S, v, HC_cg (fun c j c1 c2 => F.2.1 c j (by unfold xAll scr; omega)) c, by rw [ef]; exact m, HLw_cg FR v.1.2.2.2.1 (xa_t F) (by rw [F.1.2.2.2]; exact Nat.le_refl _) (fun w => by rw [F.1.2.2.1]) (fun j _ _ => by rw [ef]) lw⟩
theorem Inv_xa (FR : LRf LR) {h g : mmH} {S S' : HSt} (hI : Inv LR h) (hl : HLw LR h 4 (mm_gi h 93) 0 (S 0 3)) (F : fx xAll scl h g) (e12 : mm_gi g 0 12 = mm_gi g 91 1) (v' : HV S') (hc' : HC g 4 S') (hm' : HM (mm_gi g 93) 0 S') (e3 : S' 0 3 = S 0 3) (ht : I_trail g S') : Inv LR g := by
  obtain ⟨hw, ⟨⟨a1, a2, a3, a4⟩, a5, a6, a7, a8, a9⟩, ⟨n, t1, t2, t3, t4⟩, -, i0, i1, ⟨c, q1, q2, q3, q4⟩, ⟨lr1, lr2⟩, c1, c2, c3, c4, c5, c6⟩ := hI
  have e := F.2.1
  refine ⟨fx_WS F hw, ⟨⟨e12, ?_, ?_, ?_⟩, ?_, ?_, ?_, ?_, ?_⟩, ⟨n, t1, ?_, ?_, fun i hi => ?_⟩, ⟨S', v', hc', hm', ?_, ht⟩, I_img_xa FR (by decide) F i0, I_img_xa FR (by decide) F i1, ⟨c, q1, ?_, ?_, fun i hi => ?_⟩, ⟨?_, ?_⟩, ?_, ?_, ?_, ?_, ?_, ?_⟩
  · rw [e 0 13 (by unfold xAll scr; omega), e 91 52 (by unfold xAll scr; omega)]; exact a2
  · rw [e 0 14 (by unfold xAll scr; omega), e 91 11 (by unfold xAll scr; omega)]; exact a3
  · rw [e 56 4 (by unfold xAll scr; omega), e 91 18 (by unfold xAll scr; omega)]; exact a4
  · rw [e 90 0 (by unfold xAll scr; omega), e 92 1 (by unfold xAll scr; omega)]; exact a5
  · rw [e 90 1 (by unfold xAll scr; omega), e 92 2 (by unfold xAll scr; omega)]; exact a6
  · rw [e 90 2 (by unfold xAll scr; omega), e 92 3 (by unfold xAll scr; omega)]; exact a7
  · rw [e 90 3 (by unfold xAll scr; omega), e 92 5 (by unfold xAll scr; omega)]; exact a8
  · rw [e 90 4 (by unfold xAll scr; omega), e 92 6 (by unfold xAll scr; omega)]; exact a9
  · rw [e 54 1 (by unfold xAll scr; omega)]; exact t2
  · rw [e 91 13 (by unfold xAll scr; omega)]; exact t3
  · rw [e 55 i (by unfold xAll scr; omega), e 100 i (by unfold xAll scr; omega)]; exact t4 i hi
  · rw [e3]
    exact HLw_cg FR (by rw [← e3]; exact v'.1.2.2.2.1) (xa_t F) (by rw [F.1.2.2.2]; exact Nat.le_refl _) (fun w => by rw [F.1.2.2.1]) (fun j j1 _ => e 93 j (by unfold xAll scr; omega)) hl
  · rw [e 79 6 (by unfold xAll scr; omega)]; exact q2
  · rw [e 91 56 (by unfold xAll scr; omega)]; exact q3
  · rw [e 83 i (by unfold xAll scr; omega), e 85 i (by unfold xAll scr; omega), e 121 i (by unfold xAll scr; omega), e 121 (6 + i) (by unfold xAll scr; omega)]; exact q4 i hi
  · intro w hw t ht
    rw [F.1.2.2.1] at ht
    rw [F.1.1, F.1.2.2.2]
    exact lr1 w hw t ht
  · intro w hw t ht
    rw [F.1.2.2.1] at ht
    rw [F.1.1, F.1.2.2.2]
    exact lr2 w hw t ht
  · rw [F.2.2.1 106 (by unfold scl; omega)]; exact c1
  · rw [F.2.2.1 107 (by unfold scl; omega)]; exact c2
  · rw [F.2.2.1 108 (by unfold scl; omega)]; exact c3
  · rw [F.2.2.1 118 (by unfold scl; omega)]; exact c4
  · rw [F.2.2.1 119 (by unfold scl; omega)]; exact c5
  · rw [e 91 20 (by unfold xAll scr; omega)]; exact c6
end
theorem fx_tl {X g : mmH} {r : Int32} {p : Nat} (F : fx scr scl X g) : fx scr scl (tlH X r p) (tlH g r p) := by
  refine ⟨F.1, fun c j z => ?_, F.2.2⟩
  unfold tlH
  rw [mm_gi_pi, mm_gi_pi, mm_gi_pi, mm_gi_pi, F.2.1 c j z, F.2.1 92 p (by unfold scr; omega)]
theorem fx_rfH {X g : mmH} {r : Int32} {p : Nat} (F : fx scr scl X g) : fx scr scl (rfH X r p) (rfH g r p) := by
  refine ⟨F.1, fun c j z => ?_, F.2.2⟩
  unfold rfH
  rw [mm_gi_pi, mm_gi_pi, mm_gi_pi, mm_gi_pi, F.2.1 c j z, F.2.1 90 p (by unfold scr; omega)]
/-- from the invariant to both sides -/
theorem AI_of {h : mmH} (hI : Inv LRw h) : ∃ S A n te, CI h S A n te ∧ MI h S A n te ∧ TV S n te ∧ HLw LRw h 4 (mm_gi h 93) 0 (S 0 3) := by
  obtain ⟨hw, -, -, ⟨S, v, hc, hm, hl, tr⟩, -, -, -, -, -, -, -, -, -, c6⟩ := hI
  obtain ⟨A, a1, a2⟩ := AL_of v hl
  obtain ⟨n, te, t1, t2, t3⟩ := trail_of tr
  exact ⟨S, A, n, te, ⟨hw, v, hc, a1, t2, t1.1⟩, ⟨hw, v, hm, a2, c6, t3, t1.1⟩, t1, hl⟩
theorem MI_s {h g : mmH} {S : HSt} {A : Option lwD} {n : Nat} {te : Nat → tEn} {X : Nat → Nat → Prop} {Y : Nat → Prop} (F : fx X Y h g) (hX : ∀ c j, c = 93 ∨ (c = 91 ∧ (j = 20 ∨ j = 8)) ∨ (c = 96 ∧ j < 368) ∨ c = 97 → ¬ X c j) (H : MI h S A n te) : MI g S A n te := by
  obtain ⟨q1, q2, q3, q4, q5, q6, q7⟩ := H
  have e : mm_gi g 93 = mm_gi h 93 := funext fun j => F.2.1 93 j (hX _ _ (by omega))
  exact ⟨fx_WS F q1, q2, by rw [e]; exact q3, by rw [e]; exact q4, by rw [F.2.1 91 20 (hX _ _ (by omega))]; exact q5, MT_fx q2 q7 F (fun c j hc => hX _ _ (by omega)) q6, q7⟩
section
variable {d : Nat} {h : mmH} {S : HSt} {A : Option lwD} {x y : Int32} {n : Nat} {te : Nat → tEn}
theorem xAct_all {c j : Nat} (z : xAct c j) : xAll c j := by
  rcases z with (z | z) | z | z | z
  · exact Or.inl (Or.inl z)
  · exact Or.inl (Or.inr (Or.inl z))
  · exact Or.inr (Or.inl z)
  · exact Or.inr (Or.inr (Or.inl z))
  · exact Or.inr (Or.inr (Or.inr (Or.inl z)))
theorem xMa_all {c j : Nat} (z : xMa c j) : xAll c j := by
  rcases z with (⟨rfl, z⟩ | z) | ⟨rfl, z⟩ | z | z
  · exact Or.inl (by unfold scr; omega)
  · exact Or.inr (Or.inr (Or.inr (Or.inr (Or.inl ⟨z.1, by omega⟩))))
  · exact Or.inr (Or.inr (Or.inr (Or.inr (Or.inr (Or.inl ⟨rfl, Or.inl z⟩)))))
  · exact Or.inr (Or.inr (Or.inr (Or.inr (Or.inr (Or.inr (Or.inl z.1))))))
  · exact Or.inr (Or.inr (Or.inr (Or.inr (Or.inr (Or.inr (Or.inr (Or.inl z)))))))
theorem yL_scl {c : Nat} (z : yL c) : scl c := by unfold yL at z; unfold scl; omega
theorem xMa_no {c j : Nat} (h1 : c ≠ 91 ∨ (j ≠ 34 ∧ j ≠ 38 ∧ j ≠ 8)) (h2 : c ≠ 93) (h3 : c ≠ 96) (h4 : c ≠ 97) : ¬ xMa c j := by
  rintro ((⟨z, y⟩ | z) | ⟨z, y⟩ | z | z)
  · omega
  · exact h2 z.1
  · omega
  · exact h3 z.1
  · exact h4 z
/-- a deed's end, when it was done on both sides -/
theorem Inv_deed {S' : HSt} {n' : Nat} {te' : Nat → tEn} {g1 g2 : mmH} (hI : Inv LRw h) (hl : HLw LRw h 4 (mm_gi h 93) 0 (S 0 3)) (v : HV S) (s : sameC S S') (tv : TV S n' te') (F1 : fx xAct y0 h g1) (C1 : CI g1 S' A n' te') (F2 : fx xMa yL (mm_pi (acH g1) 91 0 0) g2) (M2 : MI g2 S' A n' te') : Inv LRw (mm_pi g2 91 1 0) := by
  have Fa : fx xAll scl h (mm_pi (acH g1) 91 0 0) := fx_pi (Or.inl (by unfold scr; omega)) (fx_pi (by unfold xAll; exact Or.inr (Or.inr (Or.inr (Or.inr (Or.inr (Or.inr (Or.inr (Or.inr ⟨rfl, rfl⟩)))))))) (fx_mo (fun c j z => xAct_all z) (fun c z => z.elim) F1))
  have Fb : fx xAll scl (mm_pi (acH g1) 91 0 0) g2 := fx_mo (fun c j z => xMa_all z) (fun c z => yL_scl z) F2
  have F : fx xAll scl h (mm_pi g2 91 1 0) := fx_pi (Or.inr (Or.inr (Or.inr (Or.inr (Or.inr (Or.inl ⟨rfl, Or.inr rfl⟩)))))) (fx_tr Fa Fb)
  have k12 : mm_gi (mm_pi g2 91 1 0) 0 12 = 0 := by
    rw [mm_gi_pi, if_neg (by omega), F2.2.1 0 12 (xMa_no (by omega) (by omega) (by omega) (by omega)), mm_gi_pi, if_neg (by omega), acH, mm_gi_pi, if_pos ⟨rfl, rfl⟩]
  have e93 : mm_gi (mm_pi g2 91 1 0) 93 = mm_gi g2 93 := funext fun j => by rw [mm_gi_pi, if_neg (by omega)]
  have ec : ∀ c j, (4 ≤ c ∧ c ≤ 13) ∨ c = 50 ∨ c = 51 → mm_gi (mm_pi g2 91 1 0) c j = mm_gi g1 c j := fun c j hc => by
    rw [mm_gi_pi, if_neg (by omega), F2.2.1 c j (xMa_no (by omega) (by omega) (by omega) (by omega)), mm_gi_pi, if_neg (by omega), acH, mm_gi_pi, if_neg (by omega)]
  have Fm : fx (fun c j => c = 91 ∧ j = 1) y0 g2 (mm_pi g2 91 1 0) := fx_pi ⟨rfl, rfl⟩ fx_rf
  have MM : MT (mm_pi g2 91 1 0) S' n' te' := MT_fx C1.2.1 C1.2.2.2.2.2 Fm (fun c j hc => by omega) M2.2.2.2.2.2.1
  have CC : CT (mm_pi g2 91 1 0) (S' 0 1) n' te' := by
    refine ⟨by rw [ec 50 1 (by omega)]; exact C1.2.2.2.2.1.1, ?_⟩
    rw [show mm_gi (mm_pi g2 91 1 0) 51 = mm_gi g1 51 from funext fun j => ec 51 j (by omega)]
    exact C1.2.2.2.2.1.2
  exact Inv_xa FRw (S := S) (S' := S') hI hl F (by rw [k12, mm_gi_pi, if_pos ⟨rfl, rfl⟩]) C1.2.1 (HC_cg (fun c j c1 c2 => ec c j (by omega)) C1.2.2.1) (by rw [e93]; exact M2.2.2.1) s.2.2.2.2.1 (trail_to (TV_c s tv) CC MM)
theorem dE_p {kind : Nat} (z : dE S A kind x y ≠ 0) : ∃ p p', (dE S A kind x y, p) ∈ [((-1 : Int32), 0), (-2, 1), (-3, 2), (-5, 3), (-6, 4)] ∧ (dE S A kind x y, p') ∈ [((-1 : Int32), 1), (-2, 2), (-3, 3), (-5, 5), (-6, 6)] ∧ (p, p') ∈ [(0, 1), (1, 2), (2, 3), (3, 5), (4, 6)] := by
  rcases dE_cases S A kind x y with e | e | e | e
  · exact absurd e z
  · rw [e]; exact ⟨0, 1, by simp, by simp, by simp⟩
  · rw [e]; exact ⟨1, 2, by simp, by simp, by simp⟩
  · rw [e]; exact ⟨2, 3, by simp, by simp, by simp⟩
theorem dE_pp {kind p p' : Nat} (z : dE S A kind x y ≠ 0) (m1 : (dE S A kind x y, p) ∈ [((-1 : Int32), 0), (-2, 1), (-3, 2), (-5, 3), (-6, 4)]) (m2 : (dE S A kind x y, p') ∈ [((-1 : Int32), 1), (-2, 2), (-3, 3), (-5, 5), (-6, 6)]) : (p, p') ∈ [(0, 1), (1, 2), (2, 3), (3, 5), (4, 6)] := by
  rcases dE_cases S A kind x y with e | e | e | e
  · exact absurd e z
  · rw [e] at m1 m2
    simp at m1 m2
    rw [m1, m2]; simp
  · rw [e] at m1 m2
    simp at m1 m2
    rw [m1, m2]; simp
  · rw [e] at m1 m2
    simp at m1 m2
    rw [m1, m2]; simp
end
-- PAIRS BY genact.py
section
variable {d : Nat} {h : mmH} {S : HSt} {K : Option Value → mmH → Prop} {A : Option lwD} {n : Nat} {te : Nat → tEn}
theorem sp_read_ {x1 x2 : Int32} (Q : CI h S A n te) (k0 : ∀ g p, fx xC y0 h g → dE S A 0 x1 x2 ≠ 0 → (dE S A 0 x1 x2, p) ∈ [((-1 : Int32), 0), (-2, 1), (-3, 2), (-5, 3), (-6, 4)] → K (some (.int (dE S A 0 x1 x2))) (rfH g (dE S A 0 x1 x2) p))
    (k1 : ∀ p q g, dOk S A 0 x1 x2 p q → fx xAct y0 h g → CI g (dS S A 0 p q) A (pshN n) (pshT n te (entr S 0)) → K (some (.int (dR S A 0 p q))) (acH g)) : mm_MV q_X9_read (d + 6) (0, 0) [.ref 0, .int x1, .int x2] h K := by
  have H := Q.1
  refine e_X9_read (t_X9_read_0 _ _ _ ?_)
  simp only [s_iadd, s_isub, s_imul, s_iand, s_ior, s_ixor, s_ishl, s_ishr, s_iushr, s_idiv, s_irem, s_ladd, s_lsub, s_lmul, s_ldiv, s_lrem, s_ineg, s_i2l, s_l2i, s_i2c, s_lcmp, s_ic, s_lc, s_nul, s_str, s_il, s_ll, s_al, s_dup, s_dup2, s_pop, s_ifne, s_icne, s_ifeq, s_iflt, s_ifge, s_ifgt, s_ifle, s_iceq, s_iclt, s_icge, s_icgt, s_icle, s_ifnull, s_ifnonnull, s_is, s_ls, s_as, s_ii, s_gi, s_gl, s_gr, s_pi, s_pz, s_pl, s_pr, s_iald, s_zald, s_lald, s_aald, s_alen, s_iast, s_zast, s_last, s_iret, s_zret, s_lret, s_aret, s_vret, s_sw, s_aast, mm_sw, mm_ld, mm_s1, mm_s2, mm_kl, Value.category, va_rf, List.nil_append, List.cons_append, Option.toList, true_and, and_true, and_self, true_or, or_true, eq_self, not_true_eq_false, false_implies, true_implies, not_false_eq_true, mm_10, mm_01, false_or, or_false, Nat.left_eq_add, Nat.add_eq_left, Nat.add_left_cancel_iff, Nat.reduceEqDiff, false_and, and_false, reduceIte, mm_kd_pi, mm_ln_pi, mm_gl_pi, mm_gr_pi, mm_sz_pi, mm_gi_pi, mm_kd_pl, mm_ln_pl, mm_gi_pl, mm_gr_pl, mm_sz_pl, mm_gl_pl, mm_kd_pr, mm_ln_pr, mm_gi_pr, mm_gl_pr, mm_sz_pr, mm_gr_pr, mm_kd_pa, mm_ln_pa, mm_gl_pa, mm_gr_pa, mm_sz_pa, mm_gi_pa, W_kd_0 H, W_s_0 H, W_gr_0_0 H, W_gr_0_1 H, W_gr_0_2 H, W_gr_0_3 H, W_gr_0_4 H, W_gr_0_5 H, W_gr_0_6 H, W_gr_0_7 H, W_gr_0_8 H, W_gr_0_9 H, W_gr_0_10 H, W_gr_0_11 H]
  refine c_X9_read_5 (bb := (0, 0)) (b := (0, 0)) (Nat.le_of_ble_eq_true rfl) ⟨rfl, rfl⟩ (W_kd_0 H) (W_s_0 H) (sp_act (kind := 0) Q (by decide) (fun g F z => ?_) (fun p q g ok F C => ?_))
  · obtain ⟨p, p', m1, m2, m3⟩ := dE_p z
    refine c_X9_read_8 (bb := (0, 0)) (b := (0, 0)) (Nat.le_of_ble_eq_true rfl) ⟨rfl, rfl⟩ (W_kd_0 (fx_WS F H)) (W_s_0 (fx_WS F H)) (sp_settle_no (fx_WS F H) m1 ?_)
    refine t_X9_read_11 _ _ _ ?_
    simp only [s_iadd, s_isub, s_imul, s_iand, s_ior, s_ixor, s_ishl, s_ishr, s_iushr, s_idiv, s_irem, s_ladd, s_lsub, s_lmul, s_ldiv, s_lrem, s_ineg, s_i2l, s_l2i, s_i2c, s_lcmp, s_ic, s_lc, s_nul, s_str, s_il, s_ll, s_al, s_dup, s_dup2, s_pop, s_ifne, s_icne, s_ifeq, s_iflt, s_ifge, s_ifgt, s_ifle, s_iceq, s_iclt, s_icge, s_icgt, s_icle, s_ifnull, s_ifnonnull, s_is, s_ls, s_as, s_ii, s_gi, s_gl, s_gr, s_pi, s_pz, s_pl, s_pr, s_iald, s_zald, s_lald, s_aald, s_alen, s_iast, s_zast, s_last, s_iret, s_zret, s_lret, s_aret, s_vret, s_sw, s_aast, mm_sw, mm_ld, mm_s1, mm_s2, mm_kl, Value.category, va_rf, List.nil_append, List.cons_append, Option.toList, true_and, and_true, and_self, true_or, or_true, eq_self, not_true_eq_false, false_implies, true_implies, not_false_eq_true, mm_10, mm_01, false_or, or_false, Nat.left_eq_add, Nat.add_eq_left, Nat.add_left_cancel_iff, Nat.reduceEqDiff, false_and, and_false, reduceIte, mm_kd_pi, mm_ln_pi, mm_gl_pi, mm_gr_pi, mm_sz_pi, mm_gi_pi, mm_kd_pl, mm_ln_pl, mm_gi_pl, mm_gr_pl, mm_sz_pl, mm_gl_pl, mm_kd_pr, mm_ln_pr, mm_gi_pr, mm_gl_pr, mm_sz_pr, mm_gr_pr, mm_kd_pa, mm_ln_pa, mm_gl_pa, mm_gr_pa, mm_sz_pa, mm_gi_pa]
    exact k0 g p F z m1
  · obtain ⟨r, r1, r2⟩ := dR_nn (by decide) Q.2.1 ok
    refine c_X9_read_8 (bb := (0, 0)) (b := (0, 0)) (Nat.le_of_ble_eq_true rfl) ⟨rfl, rfl⟩ (W_kd_0 C.1) (W_s_0 C.1) (sp_settle_ok C.1 (by rw [r2]; exact nI_pos' (by omega)) ?_)
    refine t_X9_read_11 _ _ _ ?_
    simp only [s_iadd, s_isub, s_imul, s_iand, s_ior, s_ixor, s_ishl, s_ishr, s_iushr, s_idiv, s_irem, s_ladd, s_lsub, s_lmul, s_ldiv, s_lrem, s_ineg, s_i2l, s_l2i, s_i2c, s_lcmp, s_ic, s_lc, s_nul, s_str, s_il, s_ll, s_al, s_dup, s_dup2, s_pop, s_ifne, s_icne, s_ifeq, s_iflt, s_ifge, s_ifgt, s_ifle, s_iceq, s_iclt, s_icge, s_icgt, s_icle, s_ifnull, s_ifnonnull, s_is, s_ls, s_as, s_ii, s_gi, s_gl, s_gr, s_pi, s_pz, s_pl, s_pr, s_iald, s_zald, s_lald, s_aald, s_alen, s_iast, s_zast, s_last, s_iret, s_zret, s_lret, s_aret, s_vret, s_sw, s_aast, mm_sw, mm_ld, mm_s1, mm_s2, mm_kl, Value.category, va_rf, List.nil_append, List.cons_append, Option.toList, true_and, and_true, and_self, true_or, or_true, eq_self, not_true_eq_false, false_implies, true_implies, not_false_eq_true, mm_10, mm_01, false_or, or_false, Nat.left_eq_add, Nat.add_eq_left, Nat.add_left_cancel_iff, Nat.reduceEqDiff, false_and, and_false, reduceIte, mm_kd_pi, mm_ln_pi, mm_gl_pi, mm_gr_pi, mm_sz_pi, mm_gi_pi, mm_kd_pl, mm_ln_pl, mm_gi_pl, mm_gr_pl, mm_sz_pl, mm_gl_pl, mm_kd_pr, mm_ln_pr, mm_gi_pr, mm_gl_pr, mm_sz_pr, mm_gr_pr, mm_kd_pa, mm_ln_pa, mm_gl_pa, mm_gr_pa, mm_sz_pa, mm_gi_pa]
    exact k1 p q g ok F C
theorem ms_read_ {x1 x2 : Int32} (Q : MI h S A n te) (k0 : ∀ g p', fx xL yL (mm_pi h 91 0 0) g → dE S A 0 x1 x2 ≠ 0 → (dE S A 0 x1 x2, p') ∈ [((-1 : Int32), 1), (-2, 2), (-3, 3), (-5, 5), (-6, 6)] → K (some (.int (dE S A 0 x1 x2))) (tlH g (dE S A 0 x1 x2) p'))
    (k1 : ∀ p q g, dOk S A 0 x1 x2 p q → fx xMa yL (mm_pi h 91 0 0) g → MI g (dS S A 0 p q) A (pshN n) (pshT n te (entr S 0)) → K (some (.int (dR S A 0 p q))) (mm_pi g 91 1 0)) : mm_MV q_X10_read (d + 9) (0, 0) [.ref 91, .int x1, .int x2] h K := by
  have H := Q.1
  have Q' : MI (mm_pi h 91 0 0) S A n te := MI_s (X := fun c j => c = 91 ∧ j = 0) (Y := y0) (fx_pi ⟨rfl, rfl⟩ fx_rf) (fun c j hc => by omega) Q
  refine e_X10_read (t_X10_read_0 _ _ _ ?_)
  simp only [s_iadd, s_isub, s_imul, s_iand, s_ior, s_ixor, s_ishl, s_ishr, s_iushr, s_idiv, s_irem, s_ladd, s_lsub, s_lmul, s_ldiv, s_lrem, s_ineg, s_i2l, s_l2i, s_i2c, s_lcmp, s_ic, s_lc, s_nul, s_str, s_il, s_ll, s_al, s_dup, s_dup2, s_pop, s_ifne, s_icne, s_ifeq, s_iflt, s_ifge, s_ifgt, s_ifle, s_iceq, s_iclt, s_icge, s_icgt, s_icle, s_ifnull, s_ifnonnull, s_is, s_ls, s_as, s_ii, s_gi, s_gl, s_gr, s_pi, s_pz, s_pl, s_pr, s_iald, s_zald, s_lald, s_aald, s_alen, s_iast, s_zast, s_last, s_iret, s_zret, s_lret, s_aret, s_vret, s_sw, s_aast, mm_sw, mm_ld, mm_s1, mm_s2, mm_kl, Value.category, va_rf, List.nil_append, List.cons_append, Option.toList, true_and, and_true, and_self, true_or, or_true, eq_self, not_true_eq_false, false_implies, true_implies, not_false_eq_true, mm_10, mm_01, false_or, or_false, Nat.left_eq_add, Nat.add_eq_left, Nat.add_left_cancel_iff, Nat.reduceEqDiff, false_and, and_false, reduceIte, mm_kd_pi, mm_ln_pi, mm_gl_pi, mm_gr_pi, mm_sz_pi, mm_gi_pi, mm_kd_pl, mm_ln_pl, mm_gi_pl, mm_gr_pl, mm_sz_pl, mm_gl_pl, mm_kd_pr, mm_ln_pr, mm_gi_pr, mm_gl_pr, mm_sz_pr, mm_gr_pr, mm_kd_pa, mm_ln_pa, mm_gl_pa, mm_gr_pa, mm_sz_pa, mm_gi_pa, W_kd_91 H, W_s_91 H, W_gr_91_2 H, W_gr_91_3 H, W_gr_91_4 H, W_gr_91_5 H, W_gr_91_6 H, W_gr_91_7 H, W_gr_91_9 H, W_gr_91_10 H, W_gr_91_12 H, W_gr_91_22 H, W_gr_91_24 H, W_gr_91_25 H, W_gr_91_27 H, W_gr_91_28 H, W_gr_91_31 H, W_gr_91_32 H, W_gr_91_33 H, W_gr_91_35 H, W_gr_91_36 H, W_gr_91_37 H, W_gr_91_41 H, W_gr_91_42 H, W_gr_91_43 H, W_gr_91_44 H, W_gr_91_45 H, W_gr_91_46 H, W_gr_91_47 H, W_gr_91_48 H, W_gr_91_49 H, W_gr_91_55 H]
  have no : ∀ g, fx xL yL (mm_pi h 91 0 0) g → dE S A 0 x1 x2 ≠ 0 → mm_V q_X10_read (d + 9) (0, 0) K 12 [some (.ref 91), some (.int x1), some (.int x2)] [.int (dE S A 0 x1 x2), .ref 91] g := by
    intro g F z
    obtain ⟨p, p', m1, m2, m3⟩ := dE_p z
    refine c_X10_read_12 (bb := (0, 0)) (b := (0, 0)) (Nat.le_of_ble_eq_true rfl) ⟨rfl, rfl⟩ (W_kd_91 (fx_WS F Q'.1)) (W_s_91 (fx_WS F Q'.1)) (sp_tell_no (fx_WS F Q'.1) m2 ?_)
    refine t_X10_read_15 _ _ _ ?_
    simp only [s_iadd, s_isub, s_imul, s_iand, s_ior, s_ixor, s_ishl, s_ishr, s_iushr, s_idiv, s_irem, s_ladd, s_lsub, s_lmul, s_ldiv, s_lrem, s_ineg, s_i2l, s_l2i, s_i2c, s_lcmp, s_ic, s_lc, s_nul, s_str, s_il, s_ll, s_al, s_dup, s_dup2, s_pop, s_ifne, s_icne, s_ifeq, s_iflt, s_ifge, s_ifgt, s_ifle, s_iceq, s_iclt, s_icge, s_icgt, s_icle, s_ifnull, s_ifnonnull, s_is, s_ls, s_as, s_ii, s_gi, s_gl, s_gr, s_pi, s_pz, s_pl, s_pr, s_iald, s_zald, s_lald, s_aald, s_alen, s_iast, s_zast, s_last, s_iret, s_zret, s_lret, s_aret, s_vret, s_sw, s_aast, mm_sw, mm_ld, mm_s1, mm_s2, mm_kl, Value.category, va_rf, List.nil_append, List.cons_append, Option.toList, true_and, and_true, and_self, true_or, or_true, eq_self, not_true_eq_false, false_implies, true_implies, not_false_eq_true, mm_10, mm_01, false_or, or_false, Nat.left_eq_add, Nat.add_eq_left, Nat.add_left_cancel_iff, Nat.reduceEqDiff, false_and, and_false, reduceIte, mm_kd_pi, mm_ln_pi, mm_gl_pi, mm_gr_pi, mm_sz_pi, mm_gi_pi, mm_kd_pl, mm_ln_pl, mm_gi_pl, mm_gr_pl, mm_sz_pl, mm_gl_pl, mm_kd_pr, mm_ln_pr, mm_gi_pr, mm_gl_pr, mm_sz_pr, mm_gr_pr, mm_kd_pa, mm_ln_pa, mm_gl_pa, mm_gr_pa, mm_sz_pa, mm_gi_pa]
    exact k0 g p' F z m2
  refine c_X10_read_9 (bb := (0, 0)) (b := (0, 0)) (Nat.le_of_ble_eq_true rfl) ⟨rfl, rfl⟩ (W_kd_91 Q'.1) (W_s_91 Q'.1) (ms_readNow Q' (fun z => no _ fx_rf z) (fun p q g ok F M => ?_))
  obtain ⟨r, r1, r2⟩ := dR_nn (by decide) Q.2.1 ok
  refine c_X10_read_12 (bb := (0, 0)) (b := (0, 0)) (Nat.le_of_ble_eq_true rfl) ⟨rfl, rfl⟩ (W_kd_91 M.1) (W_s_91 M.1) (sp_tell_ok M.1 (by rw [r2]; exact nI_pos' (by omega)) ?_)
  refine t_X10_read_15 _ _ _ ?_
  simp only [s_iadd, s_isub, s_imul, s_iand, s_ior, s_ixor, s_ishl, s_ishr, s_iushr, s_idiv, s_irem, s_ladd, s_lsub, s_lmul, s_ldiv, s_lrem, s_ineg, s_i2l, s_l2i, s_i2c, s_lcmp, s_ic, s_lc, s_nul, s_str, s_il, s_ll, s_al, s_dup, s_dup2, s_pop, s_ifne, s_icne, s_ifeq, s_iflt, s_ifge, s_ifgt, s_ifle, s_iceq, s_iclt, s_icge, s_icgt, s_icle, s_ifnull, s_ifnonnull, s_is, s_ls, s_as, s_ii, s_gi, s_gl, s_gr, s_pi, s_pz, s_pl, s_pr, s_iald, s_zald, s_lald, s_aald, s_alen, s_iast, s_zast, s_last, s_iret, s_zret, s_lret, s_aret, s_vret, s_sw, s_aast, mm_sw, mm_ld, mm_s1, mm_s2, mm_kl, Value.category, va_rf, List.nil_append, List.cons_append, Option.toList, true_and, and_true, and_self, true_or, or_true, eq_self, not_true_eq_false, false_implies, true_implies, not_false_eq_true, mm_10, mm_01, false_or, or_false, Nat.left_eq_add, Nat.add_eq_left, Nat.add_left_cancel_iff, Nat.reduceEqDiff, false_and, and_false, reduceIte, mm_kd_pi, mm_ln_pi, mm_gl_pi, mm_gr_pi, mm_sz_pi, mm_gi_pi, mm_kd_pl, mm_ln_pl, mm_gi_pl, mm_gr_pl, mm_sz_pl, mm_gl_pl, mm_kd_pr, mm_ln_pr, mm_gi_pr, mm_gl_pr, mm_sz_pr, mm_gr_pr, mm_kd_pa, mm_ln_pa, mm_gl_pa, mm_gr_pa, mm_sz_pa, mm_gi_pa]
  exact k1 p q g ok F M
end
theorem op_15 : OP_15 (Inv LRw) := by
  intro x1 x2 h hI
  obtain ⟨S, A, n, te, C, M, tv, hl⟩ := AI_of hI
  have v := C.2.1
  have v1 := v.1.1
  have v2 := v.1.2.1
  refine sp_read_ (d := 994) C (fun g p F z m1 => ?_) (fun p q g ok F C1 => ?_)
  · have Fg : fx scr scl h g := scr_C F
    have M' : MI (rfH g (dE S A 0 x1 x2) p) S A n te := MI_s (X := fun c j => xC c j ∨ (c = 0 ∧ j = 12) ∨ c = 90) (Y := y0) (fx_pi (Or.inr (Or.inr rfl)) (fx_pi (Or.inr (Or.inl ⟨rfl, rfl⟩)) (fx_mo (fun c j z => Or.inl z) (fun c z => z) F))) (fun c j hc => by unfold xC; omega) M
    refine no_pr (h := h) M'.1 (ms_read_ (d := 991) M' (fun g2 p' F2 _ m2 => ⟨rfl, ?_⟩) (fun p q g2 ok _ _ => ?_))
    · have hp := dE_pp z m1 m2
      have := Inv_rf (r := dE S A 0 x1 x2) FRw hp (Inv_fx FRw Fg hI)
      exact Inv_fx FRw (fx_tl (scr_L F2)) this
    · exfalso
      refine z ?_
      have e := ok
      obtain ⟨o1, o2, rfl, rfl⟩ := e
      rw [dE, pif_t ⟨vp_in_nI o1 (by omega), vp_in_nI o2 (by omega)⟩]
  · have M' : MI (acH g) S A n te := MI_s (X := fun c j => xAct c j ∨ (c = 0 ∧ j = 12)) (Y := y0) (fx_pi (Or.inr ⟨rfl, rfl⟩) (fx_mo (fun c j z => Or.inl z) (fun c z => z) F)) (fun c j hc => by unfold xAct; omega) M
    refine no_pr (h := h) M'.1 (ms_read_ (d := 991) M' (fun g2 p' F2 z _ => ?_) (fun p' q' g2 ok' F2 M2 => ?_))
    · exfalso
      refine z ?_
      have e := ok
      obtain ⟨o1, o2, rfl, rfl⟩ := e
      rw [dE, pif_t ⟨vp_in_nI o1 (by omega), vp_in_nI o2 (by omega)⟩]
    · obtain ⟨rfl, rfl⟩ : p' = p ∧ q' = q := by
        have a1 := ok
        have a2 := ok'
        exact ⟨(nI_eq (by have := a2.1; omega) (by have := a1.1; omega)).mp (a2.2.2.1.symm.trans a1.2.2.1), (nI_eq (by have := a2.2.1; omega) (by have := a1.2.1; omega)).mp (a2.2.2.2.symm.trans a1.2.2.2)⟩
      exact ⟨rfl, Inv_deed hI hl v (sameC_dS (by decide)) (TV_psh v (by decide) tv) F C1 F2 M2⟩
section
variable {d : Nat} {h : mmH} {S : HSt} {K : Option Value → mmH → Prop} {A : Option lwD} {n : Nat} {te : Nat → tEn}
theorem sp_answer_ {x1 x2 : Int32} (Q : CI h S A n te) (k0 : ∀ g p, fx xC y0 h g → dE S A 1 x1 x2 ≠ 0 → (dE S A 1 x1 x2, p) ∈ [((-1 : Int32), 0), (-2, 1), (-3, 2), (-5, 3), (-6, 4)] → K (some (.int (dE S A 1 x1 x2))) (rfH g (dE S A 1 x1 x2) p))
    (k1 : ∀ p q g, dOk S A 1 x1 x2 p q → fx xAct y0 h g → CI g (dS S A 1 p q) A (pshN n) (pshT n te (entr S 1)) → K (some (.int (dR S A 1 p q))) (acH g)) : mm_MV q_X9_answer (d + 6) (0, 0) [.ref 0, .int x1, .int x2] h K := by
  have H := Q.1
  refine e_X9_answer (t_X9_answer_0 _ _ _ ?_)
  simp only [s_iadd, s_isub, s_imul, s_iand, s_ior, s_ixor, s_ishl, s_ishr, s_iushr, s_idiv, s_irem, s_ladd, s_lsub, s_lmul, s_ldiv, s_lrem, s_ineg, s_i2l, s_l2i, s_i2c, s_lcmp, s_ic, s_lc, s_nul, s_str, s_il, s_ll, s_al, s_dup, s_dup2, s_pop, s_ifne, s_icne, s_ifeq, s_iflt, s_ifge, s_ifgt, s_ifle, s_iceq, s_iclt, s_icge, s_icgt, s_icle, s_ifnull, s_ifnonnull, s_is, s_ls, s_as, s_ii, s_gi, s_gl, s_gr, s_pi, s_pz, s_pl, s_pr, s_iald, s_zald, s_lald, s_aald, s_alen, s_iast, s_zast, s_last, s_iret, s_zret, s_lret, s_aret, s_vret, s_sw, s_aast, mm_sw, mm_ld, mm_s1, mm_s2, mm_kl, Value.category, va_rf, List.nil_append, List.cons_append, Option.toList, true_and, and_true, and_self, true_or, or_true, eq_self, not_true_eq_false, false_implies, true_implies, not_false_eq_true, mm_10, mm_01, false_or, or_false, Nat.left_eq_add, Nat.add_eq_left, Nat.add_left_cancel_iff, Nat.reduceEqDiff, false_and, and_false, reduceIte, mm_kd_pi, mm_ln_pi, mm_gl_pi, mm_gr_pi, mm_sz_pi, mm_gi_pi, mm_kd_pl, mm_ln_pl, mm_gi_pl, mm_gr_pl, mm_sz_pl, mm_gl_pl, mm_kd_pr, mm_ln_pr, mm_gi_pr, mm_gl_pr, mm_sz_pr, mm_gr_pr, mm_kd_pa, mm_ln_pa, mm_gl_pa, mm_gr_pa, mm_sz_pa, mm_gi_pa, W_kd_0 H, W_s_0 H, W_gr_0_0 H, W_gr_0_1 H, W_gr_0_2 H, W_gr_0_3 H, W_gr_0_4 H, W_gr_0_5 H, W_gr_0_6 H, W_gr_0_7 H, W_gr_0_8 H, W_gr_0_9 H, W_gr_0_10 H, W_gr_0_11 H]
  refine c_X9_answer_5 (bb := (0, 0)) (b := (0, 0)) (Nat.le_of_ble_eq_true rfl) ⟨rfl, rfl⟩ (W_kd_0 H) (W_s_0 H) (sp_act (kind := 1) Q (by decide) (fun g F z => ?_) (fun p q g ok F C => ?_))
  · obtain ⟨p, p', m1, m2, m3⟩ := dE_p z
    refine c_X9_answer_8 (bb := (0, 0)) (b := (0, 0)) (Nat.le_of_ble_eq_true rfl) ⟨rfl, rfl⟩ (W_kd_0 (fx_WS F H)) (W_s_0 (fx_WS F H)) (sp_settle_no (fx_WS F H) m1 ?_)
    refine t_X9_answer_11 _ _ _ ?_
    simp only [s_iadd, s_isub, s_imul, s_iand, s_ior, s_ixor, s_ishl, s_ishr, s_iushr, s_idiv, s_irem, s_ladd, s_lsub, s_lmul, s_ldiv, s_lrem, s_ineg, s_i2l, s_l2i, s_i2c, s_lcmp, s_ic, s_lc, s_nul, s_str, s_il, s_ll, s_al, s_dup, s_dup2, s_pop, s_ifne, s_icne, s_ifeq, s_iflt, s_ifge, s_ifgt, s_ifle, s_iceq, s_iclt, s_icge, s_icgt, s_icle, s_ifnull, s_ifnonnull, s_is, s_ls, s_as, s_ii, s_gi, s_gl, s_gr, s_pi, s_pz, s_pl, s_pr, s_iald, s_zald, s_lald, s_aald, s_alen, s_iast, s_zast, s_last, s_iret, s_zret, s_lret, s_aret, s_vret, s_sw, s_aast, mm_sw, mm_ld, mm_s1, mm_s2, mm_kl, Value.category, va_rf, List.nil_append, List.cons_append, Option.toList, true_and, and_true, and_self, true_or, or_true, eq_self, not_true_eq_false, false_implies, true_implies, not_false_eq_true, mm_10, mm_01, false_or, or_false, Nat.left_eq_add, Nat.add_eq_left, Nat.add_left_cancel_iff, Nat.reduceEqDiff, false_and, and_false, reduceIte, mm_kd_pi, mm_ln_pi, mm_gl_pi, mm_gr_pi, mm_sz_pi, mm_gi_pi, mm_kd_pl, mm_ln_pl, mm_gi_pl, mm_gr_pl, mm_sz_pl, mm_gl_pl, mm_kd_pr, mm_ln_pr, mm_gi_pr, mm_gl_pr, mm_sz_pr, mm_gr_pr, mm_kd_pa, mm_ln_pa, mm_gl_pa, mm_gr_pa, mm_sz_pa, mm_gi_pa]
    exact k0 g p F z m1
  · obtain ⟨r, r1, r2⟩ := dR_nn (by decide) Q.2.1 ok
    refine c_X9_answer_8 (bb := (0, 0)) (b := (0, 0)) (Nat.le_of_ble_eq_true rfl) ⟨rfl, rfl⟩ (W_kd_0 C.1) (W_s_0 C.1) (sp_settle_ok C.1 (by rw [r2]; exact nI_pos' (by omega)) ?_)
    refine t_X9_answer_11 _ _ _ ?_
    simp only [s_iadd, s_isub, s_imul, s_iand, s_ior, s_ixor, s_ishl, s_ishr, s_iushr, s_idiv, s_irem, s_ladd, s_lsub, s_lmul, s_ldiv, s_lrem, s_ineg, s_i2l, s_l2i, s_i2c, s_lcmp, s_ic, s_lc, s_nul, s_str, s_il, s_ll, s_al, s_dup, s_dup2, s_pop, s_ifne, s_icne, s_ifeq, s_iflt, s_ifge, s_ifgt, s_ifle, s_iceq, s_iclt, s_icge, s_icgt, s_icle, s_ifnull, s_ifnonnull, s_is, s_ls, s_as, s_ii, s_gi, s_gl, s_gr, s_pi, s_pz, s_pl, s_pr, s_iald, s_zald, s_lald, s_aald, s_alen, s_iast, s_zast, s_last, s_iret, s_zret, s_lret, s_aret, s_vret, s_sw, s_aast, mm_sw, mm_ld, mm_s1, mm_s2, mm_kl, Value.category, va_rf, List.nil_append, List.cons_append, Option.toList, true_and, and_true, and_self, true_or, or_true, eq_self, not_true_eq_false, false_implies, true_implies, not_false_eq_true, mm_10, mm_01, false_or, or_false, Nat.left_eq_add, Nat.add_eq_left, Nat.add_left_cancel_iff, Nat.reduceEqDiff, false_and, and_false, reduceIte, mm_kd_pi, mm_ln_pi, mm_gl_pi, mm_gr_pi, mm_sz_pi, mm_gi_pi, mm_kd_pl, mm_ln_pl, mm_gi_pl, mm_gr_pl, mm_sz_pl, mm_gl_pl, mm_kd_pr, mm_ln_pr, mm_gi_pr, mm_gl_pr, mm_sz_pr, mm_gr_pr, mm_kd_pa, mm_ln_pa, mm_gl_pa, mm_gr_pa, mm_sz_pa, mm_gi_pa]
    exact k1 p q g ok F C
theorem ms_answer_ {x1 x2 : Int32} (Q : MI h S A n te) (k0 : ∀ g p', fx xL yL (mm_pi h 91 0 0) g → dE S A 1 x1 x2 ≠ 0 → (dE S A 1 x1 x2, p') ∈ [((-1 : Int32), 1), (-2, 2), (-3, 3), (-5, 5), (-6, 6)] → K (some (.int (dE S A 1 x1 x2))) (tlH g (dE S A 1 x1 x2) p'))
    (k1 : ∀ p q g, dOk S A 1 x1 x2 p q → fx xMa yL (mm_pi h 91 0 0) g → MI g (dS S A 1 p q) A (pshN n) (pshT n te (entr S 1)) → K (some (.int (dR S A 1 p q))) (mm_pi g 91 1 0)) : mm_MV q_X10_answer (d + 9) (0, 0) [.ref 91, .int x1, .int x2] h K := by
  have H := Q.1
  have Q' : MI (mm_pi h 91 0 0) S A n te := MI_s (X := fun c j => c = 91 ∧ j = 0) (Y := y0) (fx_pi ⟨rfl, rfl⟩ fx_rf) (fun c j hc => by omega) Q
  refine e_X10_answer (t_X10_answer_0 _ _ _ ?_)
  simp only [s_iadd, s_isub, s_imul, s_iand, s_ior, s_ixor, s_ishl, s_ishr, s_iushr, s_idiv, s_irem, s_ladd, s_lsub, s_lmul, s_ldiv, s_lrem, s_ineg, s_i2l, s_l2i, s_i2c, s_lcmp, s_ic, s_lc, s_nul, s_str, s_il, s_ll, s_al, s_dup, s_dup2, s_pop, s_ifne, s_icne, s_ifeq, s_iflt, s_ifge, s_ifgt, s_ifle, s_iceq, s_iclt, s_icge, s_icgt, s_icle, s_ifnull, s_ifnonnull, s_is, s_ls, s_as, s_ii, s_gi, s_gl, s_gr, s_pi, s_pz, s_pl, s_pr, s_iald, s_zald, s_lald, s_aald, s_alen, s_iast, s_zast, s_last, s_iret, s_zret, s_lret, s_aret, s_vret, s_sw, s_aast, mm_sw, mm_ld, mm_s1, mm_s2, mm_kl, Value.category, va_rf, List.nil_append, List.cons_append, Option.toList, true_and, and_true, and_self, true_or, or_true, eq_self, not_true_eq_false, false_implies, true_implies, not_false_eq_true, mm_10, mm_01, false_or, or_false, Nat.left_eq_add, Nat.add_eq_left, Nat.add_left_cancel_iff, Nat.reduceEqDiff, false_and, and_false, reduceIte, mm_kd_pi, mm_ln_pi, mm_gl_pi, mm_gr_pi, mm_sz_pi, mm_gi_pi, mm_kd_pl, mm_ln_pl, mm_gi_pl, mm_gr_pl, mm_sz_pl, mm_gl_pl, mm_kd_pr, mm_ln_pr, mm_gi_pr, mm_gl_pr, mm_sz_pr, mm_gr_pr, mm_kd_pa, mm_ln_pa, mm_gl_pa, mm_gr_pa, mm_sz_pa, mm_gi_pa, W_kd_91 H, W_s_91 H, W_gr_91_2 H, W_gr_91_3 H, W_gr_91_4 H, W_gr_91_5 H, W_gr_91_6 H, W_gr_91_7 H, W_gr_91_9 H, W_gr_91_10 H, W_gr_91_12 H, W_gr_91_22 H, W_gr_91_24 H, W_gr_91_25 H, W_gr_91_27 H, W_gr_91_28 H, W_gr_91_31 H, W_gr_91_32 H, W_gr_91_33 H, W_gr_91_35 H, W_gr_91_36 H, W_gr_91_37 H, W_gr_91_41 H, W_gr_91_42 H, W_gr_91_43 H, W_gr_91_44 H, W_gr_91_45 H, W_gr_91_46 H, W_gr_91_47 H, W_gr_91_48 H, W_gr_91_49 H, W_gr_91_55 H]
  have no : ∀ g, fx xL yL (mm_pi h 91 0 0) g → dE S A 1 x1 x2 ≠ 0 → mm_V q_X10_answer (d + 9) (0, 0) K 12 [some (.ref 91), some (.int x1), some (.int x2)] [.int (dE S A 1 x1 x2), .ref 91] g := by
    intro g F z
    obtain ⟨p, p', m1, m2, m3⟩ := dE_p z
    refine c_X10_answer_12 (bb := (0, 0)) (b := (0, 0)) (Nat.le_of_ble_eq_true rfl) ⟨rfl, rfl⟩ (W_kd_91 (fx_WS F Q'.1)) (W_s_91 (fx_WS F Q'.1)) (sp_tell_no (fx_WS F Q'.1) m2 ?_)
    refine t_X10_answer_15 _ _ _ ?_
    simp only [s_iadd, s_isub, s_imul, s_iand, s_ior, s_ixor, s_ishl, s_ishr, s_iushr, s_idiv, s_irem, s_ladd, s_lsub, s_lmul, s_ldiv, s_lrem, s_ineg, s_i2l, s_l2i, s_i2c, s_lcmp, s_ic, s_lc, s_nul, s_str, s_il, s_ll, s_al, s_dup, s_dup2, s_pop, s_ifne, s_icne, s_ifeq, s_iflt, s_ifge, s_ifgt, s_ifle, s_iceq, s_iclt, s_icge, s_icgt, s_icle, s_ifnull, s_ifnonnull, s_is, s_ls, s_as, s_ii, s_gi, s_gl, s_gr, s_pi, s_pz, s_pl, s_pr, s_iald, s_zald, s_lald, s_aald, s_alen, s_iast, s_zast, s_last, s_iret, s_zret, s_lret, s_aret, s_vret, s_sw, s_aast, mm_sw, mm_ld, mm_s1, mm_s2, mm_kl, Value.category, va_rf, List.nil_append, List.cons_append, Option.toList, true_and, and_true, and_self, true_or, or_true, eq_self, not_true_eq_false, false_implies, true_implies, not_false_eq_true, mm_10, mm_01, false_or, or_false, Nat.left_eq_add, Nat.add_eq_left, Nat.add_left_cancel_iff, Nat.reduceEqDiff, false_and, and_false, reduceIte, mm_kd_pi, mm_ln_pi, mm_gl_pi, mm_gr_pi, mm_sz_pi, mm_gi_pi, mm_kd_pl, mm_ln_pl, mm_gi_pl, mm_gr_pl, mm_sz_pl, mm_gl_pl, mm_kd_pr, mm_ln_pr, mm_gi_pr, mm_gl_pr, mm_sz_pr, mm_gr_pr, mm_kd_pa, mm_ln_pa, mm_gl_pa, mm_gr_pa, mm_sz_pa, mm_gi_pa]
    exact k0 g p' F z m2
  refine c_X10_answer_9 (bb := (0, 0)) (b := (0, 0)) (Nat.le_of_ble_eq_true rfl) ⟨rfl, rfl⟩ (W_kd_91 Q'.1) (W_s_91 Q'.1) (ms_answerNow Q' (fun g F z => no g F z) (fun p q g ok F M => ?_))
  obtain ⟨r, r1, r2⟩ := dR_nn (by decide) Q.2.1 ok
  refine c_X10_answer_12 (bb := (0, 0)) (b := (0, 0)) (Nat.le_of_ble_eq_true rfl) ⟨rfl, rfl⟩ (W_kd_91 M.1) (W_s_91 M.1) (sp_tell_ok M.1 (by rw [r2]; exact nI_pos' (by omega)) ?_)
  refine t_X10_answer_15 _ _ _ ?_
  simp only [s_iadd, s_isub, s_imul, s_iand, s_ior, s_ixor, s_ishl, s_ishr, s_iushr, s_idiv, s_irem, s_ladd, s_lsub, s_lmul, s_ldiv, s_lrem, s_ineg, s_i2l, s_l2i, s_i2c, s_lcmp, s_ic, s_lc, s_nul, s_str, s_il, s_ll, s_al, s_dup, s_dup2, s_pop, s_ifne, s_icne, s_ifeq, s_iflt, s_ifge, s_ifgt, s_ifle, s_iceq, s_iclt, s_icge, s_icgt, s_icle, s_ifnull, s_ifnonnull, s_is, s_ls, s_as, s_ii, s_gi, s_gl, s_gr, s_pi, s_pz, s_pl, s_pr, s_iald, s_zald, s_lald, s_aald, s_alen, s_iast, s_zast, s_last, s_iret, s_zret, s_lret, s_aret, s_vret, s_sw, s_aast, mm_sw, mm_ld, mm_s1, mm_s2, mm_kl, Value.category, va_rf, List.nil_append, List.cons_append, Option.toList, true_and, and_true, and_self, true_or, or_true, eq_self, not_true_eq_false, false_implies, true_implies, not_false_eq_true, mm_10, mm_01, false_or, or_false, Nat.left_eq_add, Nat.add_eq_left, Nat.add_left_cancel_iff, Nat.reduceEqDiff, false_and, and_false, reduceIte, mm_kd_pi, mm_ln_pi, mm_gl_pi, mm_gr_pi, mm_sz_pi, mm_gi_pi, mm_kd_pl, mm_ln_pl, mm_gi_pl, mm_gr_pl, mm_sz_pl, mm_gl_pl, mm_kd_pr, mm_ln_pr, mm_gi_pr, mm_gl_pr, mm_sz_pr, mm_gr_pr, mm_kd_pa, mm_ln_pa, mm_gl_pa, mm_gr_pa, mm_sz_pa, mm_gi_pa]
  exact k1 p q g ok F M
end
theorem op_16 : OP_16 (Inv LRw) := by
  intro x1 x2 h hI
  obtain ⟨S, A, n, te, C, M, tv, hl⟩ := AI_of hI
  have v := C.2.1
  have v1 := v.1.1
  have v2 := v.1.2.1
  refine sp_answer_ (d := 994) C (fun g p F z m1 => ?_) (fun p q g ok F C1 => ?_)
  · have Fg : fx scr scl h g := scr_C F
    have M' : MI (rfH g (dE S A 1 x1 x2) p) S A n te := MI_s (X := fun c j => xC c j ∨ (c = 0 ∧ j = 12) ∨ c = 90) (Y := y0) (fx_pi (Or.inr (Or.inr rfl)) (fx_pi (Or.inr (Or.inl ⟨rfl, rfl⟩)) (fx_mo (fun c j z => Or.inl z) (fun c z => z) F))) (fun c j hc => by unfold xC; omega) M
    refine no_pr (h := h) M'.1 (ms_answer_ (d := 991) M' (fun g2 p' F2 _ m2 => ⟨rfl, ?_⟩) (fun p q g2 ok _ _ => ?_))
    · have hp := dE_pp z m1 m2
      have := Inv_rf (r := dE S A 1 x1 x2) FRw hp (Inv_fx FRw Fg hI)
      exact Inv_fx FRw (fx_tl (scr_L F2)) this
    · exfalso
      refine z ?_
      have e := ok
      obtain ⟨o1, o2, rfl, rfl, o3⟩ := e
      rw [dE, pif_t ⟨vp_in_nI o1 (by omega), vp_in_nI o2 (by omega)⟩, nI_clamp (by omega), nI_clamp (by omega), pif_t o3]
  · have M' : MI (acH g) S A n te := MI_s (X := fun c j => xAct c j ∨ (c = 0 ∧ j = 12)) (Y := y0) (fx_pi (Or.inr ⟨rfl, rfl⟩) (fx_mo (fun c j z => Or.inl z) (fun c z => z) F)) (fun c j hc => by unfold xAct; omega) M
    refine no_pr (h := h) M'.1 (ms_answer_ (d := 991) M' (fun g2 p' F2 z _ => ?_) (fun p' q' g2 ok' F2 M2 => ?_))
    · exfalso
      refine z ?_
      have e := ok
      obtain ⟨o1, o2, rfl, rfl, o3⟩ := e
      rw [dE, pif_t ⟨vp_in_nI o1 (by omega), vp_in_nI o2 (by omega)⟩, nI_clamp (by omega), nI_clamp (by omega), pif_t o3]
    · obtain ⟨rfl, rfl⟩ : p' = p ∧ q' = q := by
        have a1 := ok
        have a2 := ok'
        exact ⟨(nI_eq (by have := a2.1; omega) (by have := a1.1; omega)).mp (a2.2.2.1.symm.trans a1.2.2.1), (nI_eq (by have := a2.2.1; omega) (by have := a1.2.1; omega)).mp (a2.2.2.2.1.symm.trans a1.2.2.2.1)⟩
      exact ⟨rfl, Inv_deed hI hl v (sameC_dS (by decide)) (TV_psh v (by decide) tv) F C1 F2 M2⟩
section
variable {d : Nat} {h : mmH} {S : HSt} {K : Option Value → mmH → Prop} {A : Option lwD} {n : Nat} {te : Nat → tEn}
theorem sp_lose_ {x1 x2 : Int32} (Q : CI h S A n te) (k0 : ∀ g p, fx xC y0 h g → dE S A 2 x1 x2 ≠ 0 → (dE S A 2 x1 x2, p) ∈ [((-1 : Int32), 0), (-2, 1), (-3, 2), (-5, 3), (-6, 4)] → K (some (.int (dE S A 2 x1 x2))) (rfH g (dE S A 2 x1 x2) p))
    (k1 : ∀ p q g, dOk S A 2 x1 x2 p q → fx xAct y0 h g → CI g (dS S A 2 p q) A (pshN n) (pshT n te (entr S 2)) → K (some (.int (dR S A 2 p q))) (acH g)) : mm_MV q_X9_lose (d + 6) (0, 0) [.ref 0, .int x1, .int x2] h K := by
  have H := Q.1
  refine e_X9_lose (t_X9_lose_0 _ _ _ ?_)
  simp only [s_iadd, s_isub, s_imul, s_iand, s_ior, s_ixor, s_ishl, s_ishr, s_iushr, s_idiv, s_irem, s_ladd, s_lsub, s_lmul, s_ldiv, s_lrem, s_ineg, s_i2l, s_l2i, s_i2c, s_lcmp, s_ic, s_lc, s_nul, s_str, s_il, s_ll, s_al, s_dup, s_dup2, s_pop, s_ifne, s_icne, s_ifeq, s_iflt, s_ifge, s_ifgt, s_ifle, s_iceq, s_iclt, s_icge, s_icgt, s_icle, s_ifnull, s_ifnonnull, s_is, s_ls, s_as, s_ii, s_gi, s_gl, s_gr, s_pi, s_pz, s_pl, s_pr, s_iald, s_zald, s_lald, s_aald, s_alen, s_iast, s_zast, s_last, s_iret, s_zret, s_lret, s_aret, s_vret, s_sw, s_aast, mm_sw, mm_ld, mm_s1, mm_s2, mm_kl, Value.category, va_rf, List.nil_append, List.cons_append, Option.toList, true_and, and_true, and_self, true_or, or_true, eq_self, not_true_eq_false, false_implies, true_implies, not_false_eq_true, mm_10, mm_01, false_or, or_false, Nat.left_eq_add, Nat.add_eq_left, Nat.add_left_cancel_iff, Nat.reduceEqDiff, false_and, and_false, reduceIte, mm_kd_pi, mm_ln_pi, mm_gl_pi, mm_gr_pi, mm_sz_pi, mm_gi_pi, mm_kd_pl, mm_ln_pl, mm_gi_pl, mm_gr_pl, mm_sz_pl, mm_gl_pl, mm_kd_pr, mm_ln_pr, mm_gi_pr, mm_gl_pr, mm_sz_pr, mm_gr_pr, mm_kd_pa, mm_ln_pa, mm_gl_pa, mm_gr_pa, mm_sz_pa, mm_gi_pa, W_kd_0 H, W_s_0 H, W_gr_0_0 H, W_gr_0_1 H, W_gr_0_2 H, W_gr_0_3 H, W_gr_0_4 H, W_gr_0_5 H, W_gr_0_6 H, W_gr_0_7 H, W_gr_0_8 H, W_gr_0_9 H, W_gr_0_10 H, W_gr_0_11 H]
  refine c_X9_lose_5 (bb := (0, 0)) (b := (0, 0)) (Nat.le_of_ble_eq_true rfl) ⟨rfl, rfl⟩ (W_kd_0 H) (W_s_0 H) (sp_act (kind := 2) Q (by decide) (fun g F z => ?_) (fun p q g ok F C => ?_))
  · obtain ⟨p, p', m1, m2, m3⟩ := dE_p z
    refine c_X9_lose_8 (bb := (0, 0)) (b := (0, 0)) (Nat.le_of_ble_eq_true rfl) ⟨rfl, rfl⟩ (W_kd_0 (fx_WS F H)) (W_s_0 (fx_WS F H)) (sp_settle_no (fx_WS F H) m1 ?_)
    refine t_X9_lose_11 _ _ _ ?_
    simp only [s_iadd, s_isub, s_imul, s_iand, s_ior, s_ixor, s_ishl, s_ishr, s_iushr, s_idiv, s_irem, s_ladd, s_lsub, s_lmul, s_ldiv, s_lrem, s_ineg, s_i2l, s_l2i, s_i2c, s_lcmp, s_ic, s_lc, s_nul, s_str, s_il, s_ll, s_al, s_dup, s_dup2, s_pop, s_ifne, s_icne, s_ifeq, s_iflt, s_ifge, s_ifgt, s_ifle, s_iceq, s_iclt, s_icge, s_icgt, s_icle, s_ifnull, s_ifnonnull, s_is, s_ls, s_as, s_ii, s_gi, s_gl, s_gr, s_pi, s_pz, s_pl, s_pr, s_iald, s_zald, s_lald, s_aald, s_alen, s_iast, s_zast, s_last, s_iret, s_zret, s_lret, s_aret, s_vret, s_sw, s_aast, mm_sw, mm_ld, mm_s1, mm_s2, mm_kl, Value.category, va_rf, List.nil_append, List.cons_append, Option.toList, true_and, and_true, and_self, true_or, or_true, eq_self, not_true_eq_false, false_implies, true_implies, not_false_eq_true, mm_10, mm_01, false_or, or_false, Nat.left_eq_add, Nat.add_eq_left, Nat.add_left_cancel_iff, Nat.reduceEqDiff, false_and, and_false, reduceIte, mm_kd_pi, mm_ln_pi, mm_gl_pi, mm_gr_pi, mm_sz_pi, mm_gi_pi, mm_kd_pl, mm_ln_pl, mm_gi_pl, mm_gr_pl, mm_sz_pl, mm_gl_pl, mm_kd_pr, mm_ln_pr, mm_gi_pr, mm_gl_pr, mm_sz_pr, mm_gr_pr, mm_kd_pa, mm_ln_pa, mm_gl_pa, mm_gr_pa, mm_sz_pa, mm_gi_pa]
    exact k0 g p F z m1
  · obtain ⟨r, r1, r2⟩ := dR_nn (by decide) Q.2.1 ok
    refine c_X9_lose_8 (bb := (0, 0)) (b := (0, 0)) (Nat.le_of_ble_eq_true rfl) ⟨rfl, rfl⟩ (W_kd_0 C.1) (W_s_0 C.1) (sp_settle_ok C.1 (by rw [r2]; exact nI_pos' (by omega)) ?_)
    refine t_X9_lose_11 _ _ _ ?_
    simp only [s_iadd, s_isub, s_imul, s_iand, s_ior, s_ixor, s_ishl, s_ishr, s_iushr, s_idiv, s_irem, s_ladd, s_lsub, s_lmul, s_ldiv, s_lrem, s_ineg, s_i2l, s_l2i, s_i2c, s_lcmp, s_ic, s_lc, s_nul, s_str, s_il, s_ll, s_al, s_dup, s_dup2, s_pop, s_ifne, s_icne, s_ifeq, s_iflt, s_ifge, s_ifgt, s_ifle, s_iceq, s_iclt, s_icge, s_icgt, s_icle, s_ifnull, s_ifnonnull, s_is, s_ls, s_as, s_ii, s_gi, s_gl, s_gr, s_pi, s_pz, s_pl, s_pr, s_iald, s_zald, s_lald, s_aald, s_alen, s_iast, s_zast, s_last, s_iret, s_zret, s_lret, s_aret, s_vret, s_sw, s_aast, mm_sw, mm_ld, mm_s1, mm_s2, mm_kl, Value.category, va_rf, List.nil_append, List.cons_append, Option.toList, true_and, and_true, and_self, true_or, or_true, eq_self, not_true_eq_false, false_implies, true_implies, not_false_eq_true, mm_10, mm_01, false_or, or_false, Nat.left_eq_add, Nat.add_eq_left, Nat.add_left_cancel_iff, Nat.reduceEqDiff, false_and, and_false, reduceIte, mm_kd_pi, mm_ln_pi, mm_gl_pi, mm_gr_pi, mm_sz_pi, mm_gi_pi, mm_kd_pl, mm_ln_pl, mm_gi_pl, mm_gr_pl, mm_sz_pl, mm_gl_pl, mm_kd_pr, mm_ln_pr, mm_gi_pr, mm_gl_pr, mm_sz_pr, mm_gr_pr, mm_kd_pa, mm_ln_pa, mm_gl_pa, mm_gr_pa, mm_sz_pa, mm_gi_pa]
    exact k1 p q g ok F C
theorem ms_lose_ {x1 x2 : Int32} (Q : MI h S A n te) (k0 : ∀ g p', fx xL yL (mm_pi h 91 0 0) g → dE S A 2 x1 x2 ≠ 0 → (dE S A 2 x1 x2, p') ∈ [((-1 : Int32), 1), (-2, 2), (-3, 3), (-5, 5), (-6, 6)] → K (some (.int (dE S A 2 x1 x2))) (tlH g (dE S A 2 x1 x2) p'))
    (k1 : ∀ p q g, dOk S A 2 x1 x2 p q → fx xMa yL (mm_pi h 91 0 0) g → MI g (dS S A 2 p q) A (pshN n) (pshT n te (entr S 2)) → K (some (.int (dR S A 2 p q))) (mm_pi g 91 1 0)) : mm_MV q_X10_lose (d + 9) (0, 0) [.ref 91, .int x1, .int x2] h K := by
  have H := Q.1
  have Q' : MI (mm_pi h 91 0 0) S A n te := MI_s (X := fun c j => c = 91 ∧ j = 0) (Y := y0) (fx_pi ⟨rfl, rfl⟩ fx_rf) (fun c j hc => by omega) Q
  refine e_X10_lose (t_X10_lose_0 _ _ _ ?_)
  simp only [s_iadd, s_isub, s_imul, s_iand, s_ior, s_ixor, s_ishl, s_ishr, s_iushr, s_idiv, s_irem, s_ladd, s_lsub, s_lmul, s_ldiv, s_lrem, s_ineg, s_i2l, s_l2i, s_i2c, s_lcmp, s_ic, s_lc, s_nul, s_str, s_il, s_ll, s_al, s_dup, s_dup2, s_pop, s_ifne, s_icne, s_ifeq, s_iflt, s_ifge, s_ifgt, s_ifle, s_iceq, s_iclt, s_icge, s_icgt, s_icle, s_ifnull, s_ifnonnull, s_is, s_ls, s_as, s_ii, s_gi, s_gl, s_gr, s_pi, s_pz, s_pl, s_pr, s_iald, s_zald, s_lald, s_aald, s_alen, s_iast, s_zast, s_last, s_iret, s_zret, s_lret, s_aret, s_vret, s_sw, s_aast, mm_sw, mm_ld, mm_s1, mm_s2, mm_kl, Value.category, va_rf, List.nil_append, List.cons_append, Option.toList, true_and, and_true, and_self, true_or, or_true, eq_self, not_true_eq_false, false_implies, true_implies, not_false_eq_true, mm_10, mm_01, false_or, or_false, Nat.left_eq_add, Nat.add_eq_left, Nat.add_left_cancel_iff, Nat.reduceEqDiff, false_and, and_false, reduceIte, mm_kd_pi, mm_ln_pi, mm_gl_pi, mm_gr_pi, mm_sz_pi, mm_gi_pi, mm_kd_pl, mm_ln_pl, mm_gi_pl, mm_gr_pl, mm_sz_pl, mm_gl_pl, mm_kd_pr, mm_ln_pr, mm_gi_pr, mm_gl_pr, mm_sz_pr, mm_gr_pr, mm_kd_pa, mm_ln_pa, mm_gl_pa, mm_gr_pa, mm_sz_pa, mm_gi_pa, W_kd_91 H, W_s_91 H, W_gr_91_2 H, W_gr_91_3 H, W_gr_91_4 H, W_gr_91_5 H, W_gr_91_6 H, W_gr_91_7 H, W_gr_91_9 H, W_gr_91_10 H, W_gr_91_12 H, W_gr_91_22 H, W_gr_91_24 H, W_gr_91_25 H, W_gr_91_27 H, W_gr_91_28 H, W_gr_91_31 H, W_gr_91_32 H, W_gr_91_33 H, W_gr_91_35 H, W_gr_91_36 H, W_gr_91_37 H, W_gr_91_41 H, W_gr_91_42 H, W_gr_91_43 H, W_gr_91_44 H, W_gr_91_45 H, W_gr_91_46 H, W_gr_91_47 H, W_gr_91_48 H, W_gr_91_49 H, W_gr_91_55 H]
  have no : ∀ g, fx xL yL (mm_pi h 91 0 0) g → dE S A 2 x1 x2 ≠ 0 → mm_V q_X10_lose (d + 9) (0, 0) K 12 [some (.ref 91), some (.int x1), some (.int x2)] [.int (dE S A 2 x1 x2), .ref 91] g := by
    intro g F z
    obtain ⟨p, p', m1, m2, m3⟩ := dE_p z
    refine c_X10_lose_12 (bb := (0, 0)) (b := (0, 0)) (Nat.le_of_ble_eq_true rfl) ⟨rfl, rfl⟩ (W_kd_91 (fx_WS F Q'.1)) (W_s_91 (fx_WS F Q'.1)) (sp_tell_no (fx_WS F Q'.1) m2 ?_)
    refine t_X10_lose_15 _ _ _ ?_
    simp only [s_iadd, s_isub, s_imul, s_iand, s_ior, s_ixor, s_ishl, s_ishr, s_iushr, s_idiv, s_irem, s_ladd, s_lsub, s_lmul, s_ldiv, s_lrem, s_ineg, s_i2l, s_l2i, s_i2c, s_lcmp, s_ic, s_lc, s_nul, s_str, s_il, s_ll, s_al, s_dup, s_dup2, s_pop, s_ifne, s_icne, s_ifeq, s_iflt, s_ifge, s_ifgt, s_ifle, s_iceq, s_iclt, s_icge, s_icgt, s_icle, s_ifnull, s_ifnonnull, s_is, s_ls, s_as, s_ii, s_gi, s_gl, s_gr, s_pi, s_pz, s_pl, s_pr, s_iald, s_zald, s_lald, s_aald, s_alen, s_iast, s_zast, s_last, s_iret, s_zret, s_lret, s_aret, s_vret, s_sw, s_aast, mm_sw, mm_ld, mm_s1, mm_s2, mm_kl, Value.category, va_rf, List.nil_append, List.cons_append, Option.toList, true_and, and_true, and_self, true_or, or_true, eq_self, not_true_eq_false, false_implies, true_implies, not_false_eq_true, mm_10, mm_01, false_or, or_false, Nat.left_eq_add, Nat.add_eq_left, Nat.add_left_cancel_iff, Nat.reduceEqDiff, false_and, and_false, reduceIte, mm_kd_pi, mm_ln_pi, mm_gl_pi, mm_gr_pi, mm_sz_pi, mm_gi_pi, mm_kd_pl, mm_ln_pl, mm_gi_pl, mm_gr_pl, mm_sz_pl, mm_gl_pl, mm_kd_pr, mm_ln_pr, mm_gi_pr, mm_gl_pr, mm_sz_pr, mm_gr_pr, mm_kd_pa, mm_ln_pa, mm_gl_pa, mm_gr_pa, mm_sz_pa, mm_gi_pa]
    exact k0 g p' F z m2
  refine c_X10_lose_9 (bb := (0, 0)) (b := (0, 0)) (Nat.le_of_ble_eq_true rfl) ⟨rfl, rfl⟩ (W_kd_91 Q'.1) (W_s_91 Q'.1) (ms_loseNow Q' (fun z => no _ fx_rf z) (fun p q g ok F M => ?_))
  obtain ⟨r, r1, r2⟩ := dR_nn (by decide) Q.2.1 ok
  refine c_X10_lose_12 (bb := (0, 0)) (b := (0, 0)) (Nat.le_of_ble_eq_true rfl) ⟨rfl, rfl⟩ (W_kd_91 M.1) (W_s_91 M.1) (sp_tell_ok M.1 (by rw [r2]; exact nI_pos' (by omega)) ?_)
  refine t_X10_lose_15 _ _ _ ?_
  simp only [s_iadd, s_isub, s_imul, s_iand, s_ior, s_ixor, s_ishl, s_ishr, s_iushr, s_idiv, s_irem, s_ladd, s_lsub, s_lmul, s_ldiv, s_lrem, s_ineg, s_i2l, s_l2i, s_i2c, s_lcmp, s_ic, s_lc, s_nul, s_str, s_il, s_ll, s_al, s_dup, s_dup2, s_pop, s_ifne, s_icne, s_ifeq, s_iflt, s_ifge, s_ifgt, s_ifle, s_iceq, s_iclt, s_icge, s_icgt, s_icle, s_ifnull, s_ifnonnull, s_is, s_ls, s_as, s_ii, s_gi, s_gl, s_gr, s_pi, s_pz, s_pl, s_pr, s_iald, s_zald, s_lald, s_aald, s_alen, s_iast, s_zast, s_last, s_iret, s_zret, s_lret, s_aret, s_vret, s_sw, s_aast, mm_sw, mm_ld, mm_s1, mm_s2, mm_kl, Value.category, va_rf, List.nil_append, List.cons_append, Option.toList, true_and, and_true, and_self, true_or, or_true, eq_self, not_true_eq_false, false_implies, true_implies, not_false_eq_true, mm_10, mm_01, false_or, or_false, Nat.left_eq_add, Nat.add_eq_left, Nat.add_left_cancel_iff, Nat.reduceEqDiff, false_and, and_false, reduceIte, mm_kd_pi, mm_ln_pi, mm_gl_pi, mm_gr_pi, mm_sz_pi, mm_gi_pi, mm_kd_pl, mm_ln_pl, mm_gi_pl, mm_gr_pl, mm_sz_pl, mm_gl_pl, mm_kd_pr, mm_ln_pr, mm_gi_pr, mm_gl_pr, mm_sz_pr, mm_gr_pr, mm_kd_pa, mm_ln_pa, mm_gl_pa, mm_gr_pa, mm_sz_pa, mm_gi_pa]
  exact k1 p q g ok F M
end
theorem op_17 : OP_17 (Inv LRw) := by
  intro x1 x2 h hI
  obtain ⟨S, A, n, te, C, M, tv, hl⟩ := AI_of hI
  have v := C.2.1
  have v1 := v.1.1
  have v2 := v.1.2.1
  refine sp_lose_ (d := 994) C (fun g p F z m1 => ?_) (fun p q g ok F C1 => ?_)
  · have Fg : fx scr scl h g := scr_C F
    have M' : MI (rfH g (dE S A 2 x1 x2) p) S A n te := MI_s (X := fun c j => xC c j ∨ (c = 0 ∧ j = 12) ∨ c = 90) (Y := y0) (fx_pi (Or.inr (Or.inr rfl)) (fx_pi (Or.inr (Or.inl ⟨rfl, rfl⟩)) (fx_mo (fun c j z => Or.inl z) (fun c z => z) F))) (fun c j hc => by unfold xC; omega) M
    refine no_pr (h := h) M'.1 (ms_lose_ (d := 991) M' (fun g2 p' F2 _ m2 => ⟨rfl, ?_⟩) (fun p q g2 ok _ _ => ?_))
    · have hp := dE_pp z m1 m2
      have := Inv_rf (r := dE S A 2 x1 x2) FRw hp (Inv_fx FRw Fg hI)
      exact Inv_fx FRw (fx_tl (scr_L F2)) this
    · exfalso
      refine z ?_
      have e := ok
      obtain ⟨o1, o2, rfl, rfl, o3⟩ := e
      rw [dE, pif_t (vp_in_nI o1 (by decide)), pif_t (vp_in_nI o2 (by omega)), nI_clamp (by omega), nI_clamp (by omega), pif_t o3]
  · have M' : MI (acH g) S A n te := MI_s (X := fun c j => xAct c j ∨ (c = 0 ∧ j = 12)) (Y := y0) (fx_pi (Or.inr ⟨rfl, rfl⟩) (fx_mo (fun c j z => Or.inl z) (fun c z => z) F)) (fun c j hc => by unfold xAct; omega) M
    refine no_pr (h := h) M'.1 (ms_lose_ (d := 991) M' (fun g2 p' F2 z _ => ?_) (fun p' q' g2 ok' F2 M2 => ?_))
    · exfalso
      refine z ?_
      have e := ok
      obtain ⟨o1, o2, rfl, rfl, o3⟩ := e
      rw [dE, pif_t (vp_in_nI o1 (by decide)), pif_t (vp_in_nI o2 (by omega)), nI_clamp (by omega), nI_clamp (by omega), pif_t o3]
    · obtain ⟨rfl, rfl⟩ : p' = p ∧ q' = q := by
        have a1 := ok
        have a2 := ok'
        exact ⟨(nI_eq (by have := a2.1; omega) (by have := a1.1; omega)).mp (a2.2.2.1.symm.trans a1.2.2.1), (nI_eq (by have := a2.2.1; omega) (by have := a1.2.1; omega)).mp (a2.2.2.2.1.symm.trans a1.2.2.2.1)⟩
      exact ⟨rfl, Inv_deed hI hl v (sameC_dS (by decide)) (TV_psh v (by decide) tv) F C1 F2 M2⟩
section
variable {d : Nat} {h : mmH} {S : HSt} {K : Option Value → mmH → Prop} {A : Option lwD} {n : Nat} {te : Nat → tEn}
theorem sp_pass_ (Q : CI h S A n te) (k0 : ∀ g p, fx xC y0 h g → dE S A 3 (-1) (-1) ≠ 0 → (dE S A 3 (-1) (-1), p) ∈ [((-1 : Int32), 0), (-2, 1), (-3, 2), (-5, 3), (-6, 4)] → K (some (.int (dE S A 3 (-1) (-1)))) (rfH g (dE S A 3 (-1) (-1)) p))
    (k1 : ∀ p q g, dOk S A 3 (-1) (-1) p q → fx xAct y0 h g → CI g (dS S A 3 p q) A (pshN n) (pshT n te (entr S 3)) → K (some (.int (dR S A 3 p q))) (acH g)) : mm_MV q_X9_pass (d + 6) (0, 0) [.ref 0] h K := by
  have H := Q.1
  refine e_X9_pass (t_X9_pass_0 _ _ _ ?_)
  simp only [s_iadd, s_isub, s_imul, s_iand, s_ior, s_ixor, s_ishl, s_ishr, s_iushr, s_idiv, s_irem, s_ladd, s_lsub, s_lmul, s_ldiv, s_lrem, s_ineg, s_i2l, s_l2i, s_i2c, s_lcmp, s_ic, s_lc, s_nul, s_str, s_il, s_ll, s_al, s_dup, s_dup2, s_pop, s_ifne, s_icne, s_ifeq, s_iflt, s_ifge, s_ifgt, s_ifle, s_iceq, s_iclt, s_icge, s_icgt, s_icle, s_ifnull, s_ifnonnull, s_is, s_ls, s_as, s_ii, s_gi, s_gl, s_gr, s_pi, s_pz, s_pl, s_pr, s_iald, s_zald, s_lald, s_aald, s_alen, s_iast, s_zast, s_last, s_iret, s_zret, s_lret, s_aret, s_vret, s_sw, s_aast, mm_sw, mm_ld, mm_s1, mm_s2, mm_kl, Value.category, va_rf, List.nil_append, List.cons_append, Option.toList, true_and, and_true, and_self, true_or, or_true, eq_self, not_true_eq_false, false_implies, true_implies, not_false_eq_true, mm_10, mm_01, false_or, or_false, Nat.left_eq_add, Nat.add_eq_left, Nat.add_left_cancel_iff, Nat.reduceEqDiff, false_and, and_false, reduceIte, mm_kd_pi, mm_ln_pi, mm_gl_pi, mm_gr_pi, mm_sz_pi, mm_gi_pi, mm_kd_pl, mm_ln_pl, mm_gi_pl, mm_gr_pl, mm_sz_pl, mm_gl_pl, mm_kd_pr, mm_ln_pr, mm_gi_pr, mm_gl_pr, mm_sz_pr, mm_gr_pr, mm_kd_pa, mm_ln_pa, mm_gl_pa, mm_gr_pa, mm_sz_pa, mm_gi_pa, W_kd_0 H, W_s_0 H, W_gr_0_0 H, W_gr_0_1 H, W_gr_0_2 H, W_gr_0_3 H, W_gr_0_4 H, W_gr_0_5 H, W_gr_0_6 H, W_gr_0_7 H, W_gr_0_8 H, W_gr_0_9 H, W_gr_0_10 H, W_gr_0_11 H]
  refine c_X9_pass_5 (bb := (0, 0)) (b := (0, 0)) (Nat.le_of_ble_eq_true rfl) ⟨rfl, rfl⟩ (W_kd_0 H) (W_s_0 H) (sp_act (kind := 3) Q (by decide) (fun g F z => ?_) (fun p q g ok F C => ?_))
  · obtain ⟨p, p', m1, m2, m3⟩ := dE_p z
    refine c_X9_pass_8 (bb := (0, 0)) (b := (0, 0)) (Nat.le_of_ble_eq_true rfl) ⟨rfl, rfl⟩ (W_kd_0 (fx_WS F H)) (W_s_0 (fx_WS F H)) (sp_settle_no (fx_WS F H) m1 ?_)
    refine t_X9_pass_11 _ _ _ ?_
    simp only [s_iadd, s_isub, s_imul, s_iand, s_ior, s_ixor, s_ishl, s_ishr, s_iushr, s_idiv, s_irem, s_ladd, s_lsub, s_lmul, s_ldiv, s_lrem, s_ineg, s_i2l, s_l2i, s_i2c, s_lcmp, s_ic, s_lc, s_nul, s_str, s_il, s_ll, s_al, s_dup, s_dup2, s_pop, s_ifne, s_icne, s_ifeq, s_iflt, s_ifge, s_ifgt, s_ifle, s_iceq, s_iclt, s_icge, s_icgt, s_icle, s_ifnull, s_ifnonnull, s_is, s_ls, s_as, s_ii, s_gi, s_gl, s_gr, s_pi, s_pz, s_pl, s_pr, s_iald, s_zald, s_lald, s_aald, s_alen, s_iast, s_zast, s_last, s_iret, s_zret, s_lret, s_aret, s_vret, s_sw, s_aast, mm_sw, mm_ld, mm_s1, mm_s2, mm_kl, Value.category, va_rf, List.nil_append, List.cons_append, Option.toList, true_and, and_true, and_self, true_or, or_true, eq_self, not_true_eq_false, false_implies, true_implies, not_false_eq_true, mm_10, mm_01, false_or, or_false, Nat.left_eq_add, Nat.add_eq_left, Nat.add_left_cancel_iff, Nat.reduceEqDiff, false_and, and_false, reduceIte, mm_kd_pi, mm_ln_pi, mm_gl_pi, mm_gr_pi, mm_sz_pi, mm_gi_pi, mm_kd_pl, mm_ln_pl, mm_gi_pl, mm_gr_pl, mm_sz_pl, mm_gl_pl, mm_kd_pr, mm_ln_pr, mm_gi_pr, mm_gl_pr, mm_sz_pr, mm_gr_pr, mm_kd_pa, mm_ln_pa, mm_gl_pa, mm_gr_pa, mm_sz_pa, mm_gi_pa]
    exact k0 g p F z m1
  · obtain ⟨r, r1, r2⟩ := dR_nn (by decide) Q.2.1 ok
    refine c_X9_pass_8 (bb := (0, 0)) (b := (0, 0)) (Nat.le_of_ble_eq_true rfl) ⟨rfl, rfl⟩ (W_kd_0 C.1) (W_s_0 C.1) (sp_settle_ok C.1 (by rw [r2]; exact nI_pos' (by omega)) ?_)
    refine t_X9_pass_11 _ _ _ ?_
    simp only [s_iadd, s_isub, s_imul, s_iand, s_ior, s_ixor, s_ishl, s_ishr, s_iushr, s_idiv, s_irem, s_ladd, s_lsub, s_lmul, s_ldiv, s_lrem, s_ineg, s_i2l, s_l2i, s_i2c, s_lcmp, s_ic, s_lc, s_nul, s_str, s_il, s_ll, s_al, s_dup, s_dup2, s_pop, s_ifne, s_icne, s_ifeq, s_iflt, s_ifge, s_ifgt, s_ifle, s_iceq, s_iclt, s_icge, s_icgt, s_icle, s_ifnull, s_ifnonnull, s_is, s_ls, s_as, s_ii, s_gi, s_gl, s_gr, s_pi, s_pz, s_pl, s_pr, s_iald, s_zald, s_lald, s_aald, s_alen, s_iast, s_zast, s_last, s_iret, s_zret, s_lret, s_aret, s_vret, s_sw, s_aast, mm_sw, mm_ld, mm_s1, mm_s2, mm_kl, Value.category, va_rf, List.nil_append, List.cons_append, Option.toList, true_and, and_true, and_self, true_or, or_true, eq_self, not_true_eq_false, false_implies, true_implies, not_false_eq_true, mm_10, mm_01, false_or, or_false, Nat.left_eq_add, Nat.add_eq_left, Nat.add_left_cancel_iff, Nat.reduceEqDiff, false_and, and_false, reduceIte, mm_kd_pi, mm_ln_pi, mm_gl_pi, mm_gr_pi, mm_sz_pi, mm_gi_pi, mm_kd_pl, mm_ln_pl, mm_gi_pl, mm_gr_pl, mm_sz_pl, mm_gl_pl, mm_kd_pr, mm_ln_pr, mm_gi_pr, mm_gl_pr, mm_sz_pr, mm_gr_pr, mm_kd_pa, mm_ln_pa, mm_gl_pa, mm_gr_pa, mm_sz_pa, mm_gi_pa]
    exact k1 p q g ok F C
theorem ms_pass_ (Q : MI h S A n te) (k0 : ∀ g p', fx xL yL (mm_pi h 91 0 0) g → dE S A 3 (-1) (-1) ≠ 0 → (dE S A 3 (-1) (-1), p') ∈ [((-1 : Int32), 1), (-2, 2), (-3, 3), (-5, 5), (-6, 6)] → K (some (.int (dE S A 3 (-1) (-1)))) (tlH g (dE S A 3 (-1) (-1)) p'))
    (k1 : ∀ p q g, dOk S A 3 (-1) (-1) p q → fx xMa yL (mm_pi h 91 0 0) g → MI g (dS S A 3 p q) A (pshN n) (pshT n te (entr S 3)) → K (some (.int (dR S A 3 p q))) (mm_pi g 91 1 0)) : mm_MV q_X10_pass (d + 9) (0, 0) [.ref 91] h K := by
  have H := Q.1
  have Q' : MI (mm_pi h 91 0 0) S A n te := MI_s (X := fun c j => c = 91 ∧ j = 0) (Y := y0) (fx_pi ⟨rfl, rfl⟩ fx_rf) (fun c j hc => by omega) Q
  refine e_X10_pass (t_X10_pass_0 _ _ _ ?_)
  simp only [s_iadd, s_isub, s_imul, s_iand, s_ior, s_ixor, s_ishl, s_ishr, s_iushr, s_idiv, s_irem, s_ladd, s_lsub, s_lmul, s_ldiv, s_lrem, s_ineg, s_i2l, s_l2i, s_i2c, s_lcmp, s_ic, s_lc, s_nul, s_str, s_il, s_ll, s_al, s_dup, s_dup2, s_pop, s_ifne, s_icne, s_ifeq, s_iflt, s_ifge, s_ifgt, s_ifle, s_iceq, s_iclt, s_icge, s_icgt, s_icle, s_ifnull, s_ifnonnull, s_is, s_ls, s_as, s_ii, s_gi, s_gl, s_gr, s_pi, s_pz, s_pl, s_pr, s_iald, s_zald, s_lald, s_aald, s_alen, s_iast, s_zast, s_last, s_iret, s_zret, s_lret, s_aret, s_vret, s_sw, s_aast, mm_sw, mm_ld, mm_s1, mm_s2, mm_kl, Value.category, va_rf, List.nil_append, List.cons_append, Option.toList, true_and, and_true, and_self, true_or, or_true, eq_self, not_true_eq_false, false_implies, true_implies, not_false_eq_true, mm_10, mm_01, false_or, or_false, Nat.left_eq_add, Nat.add_eq_left, Nat.add_left_cancel_iff, Nat.reduceEqDiff, false_and, and_false, reduceIte, mm_kd_pi, mm_ln_pi, mm_gl_pi, mm_gr_pi, mm_sz_pi, mm_gi_pi, mm_kd_pl, mm_ln_pl, mm_gi_pl, mm_gr_pl, mm_sz_pl, mm_gl_pl, mm_kd_pr, mm_ln_pr, mm_gi_pr, mm_gl_pr, mm_sz_pr, mm_gr_pr, mm_kd_pa, mm_ln_pa, mm_gl_pa, mm_gr_pa, mm_sz_pa, mm_gi_pa, W_kd_91 H, W_s_91 H, W_gr_91_2 H, W_gr_91_3 H, W_gr_91_4 H, W_gr_91_5 H, W_gr_91_6 H, W_gr_91_7 H, W_gr_91_9 H, W_gr_91_10 H, W_gr_91_12 H, W_gr_91_22 H, W_gr_91_24 H, W_gr_91_25 H, W_gr_91_27 H, W_gr_91_28 H, W_gr_91_31 H, W_gr_91_32 H, W_gr_91_33 H, W_gr_91_35 H, W_gr_91_36 H, W_gr_91_37 H, W_gr_91_41 H, W_gr_91_42 H, W_gr_91_43 H, W_gr_91_44 H, W_gr_91_45 H, W_gr_91_46 H, W_gr_91_47 H, W_gr_91_48 H, W_gr_91_49 H, W_gr_91_55 H]
  have no : ∀ g, fx xL yL (mm_pi h 91 0 0) g → dE S A 3 (-1) (-1) ≠ 0 → mm_V q_X10_pass (d + 9) (0, 0) K 10 [some (.ref 91)] [.int (dE S A 3 (-1) (-1)), .ref 91] g := by
    intro g F z
    obtain ⟨p, p', m1, m2, m3⟩ := dE_p z
    refine c_X10_pass_10 (bb := (0, 0)) (b := (0, 0)) (Nat.le_of_ble_eq_true rfl) ⟨rfl, rfl⟩ (W_kd_91 (fx_WS F Q'.1)) (W_s_91 (fx_WS F Q'.1)) (sp_tell_no (fx_WS F Q'.1) m2 ?_)
    refine t_X10_pass_13 _ _ _ ?_
    simp only [s_iadd, s_isub, s_imul, s_iand, s_ior, s_ixor, s_ishl, s_ishr, s_iushr, s_idiv, s_irem, s_ladd, s_lsub, s_lmul, s_ldiv, s_lrem, s_ineg, s_i2l, s_l2i, s_i2c, s_lcmp, s_ic, s_lc, s_nul, s_str, s_il, s_ll, s_al, s_dup, s_dup2, s_pop, s_ifne, s_icne, s_ifeq, s_iflt, s_ifge, s_ifgt, s_ifle, s_iceq, s_iclt, s_icge, s_icgt, s_icle, s_ifnull, s_ifnonnull, s_is, s_ls, s_as, s_ii, s_gi, s_gl, s_gr, s_pi, s_pz, s_pl, s_pr, s_iald, s_zald, s_lald, s_aald, s_alen, s_iast, s_zast, s_last, s_iret, s_zret, s_lret, s_aret, s_vret, s_sw, s_aast, mm_sw, mm_ld, mm_s1, mm_s2, mm_kl, Value.category, va_rf, List.nil_append, List.cons_append, Option.toList, true_and, and_true, and_self, true_or, or_true, eq_self, not_true_eq_false, false_implies, true_implies, not_false_eq_true, mm_10, mm_01, false_or, or_false, Nat.left_eq_add, Nat.add_eq_left, Nat.add_left_cancel_iff, Nat.reduceEqDiff, false_and, and_false, reduceIte, mm_kd_pi, mm_ln_pi, mm_gl_pi, mm_gr_pi, mm_sz_pi, mm_gi_pi, mm_kd_pl, mm_ln_pl, mm_gi_pl, mm_gr_pl, mm_sz_pl, mm_gl_pl, mm_kd_pr, mm_ln_pr, mm_gi_pr, mm_gl_pr, mm_sz_pr, mm_gr_pr, mm_kd_pa, mm_ln_pa, mm_gl_pa, mm_gr_pa, mm_sz_pa, mm_gi_pa]
    exact k0 g p' F z m2
  refine c_X10_pass_7 (bb := (0, 0)) (b := (0, 0)) (Nat.le_of_ble_eq_true rfl) ⟨rfl, rfl⟩ (W_kd_91 Q'.1) (W_s_91 Q'.1) (ms_passNow (x := -1) (y := -1) Q' (fun z => no _ fx_rf z) (fun p q g ok F M => ?_))
  obtain ⟨r, r1, r2⟩ := dR_nn (by decide) Q.2.1 ok
  refine c_X10_pass_10 (bb := (0, 0)) (b := (0, 0)) (Nat.le_of_ble_eq_true rfl) ⟨rfl, rfl⟩ (W_kd_91 M.1) (W_s_91 M.1) (sp_tell_ok M.1 (by rw [r2]; exact nI_pos' (by omega)) ?_)
  refine t_X10_pass_13 _ _ _ ?_
  simp only [s_iadd, s_isub, s_imul, s_iand, s_ior, s_ixor, s_ishl, s_ishr, s_iushr, s_idiv, s_irem, s_ladd, s_lsub, s_lmul, s_ldiv, s_lrem, s_ineg, s_i2l, s_l2i, s_i2c, s_lcmp, s_ic, s_lc, s_nul, s_str, s_il, s_ll, s_al, s_dup, s_dup2, s_pop, s_ifne, s_icne, s_ifeq, s_iflt, s_ifge, s_ifgt, s_ifle, s_iceq, s_iclt, s_icge, s_icgt, s_icle, s_ifnull, s_ifnonnull, s_is, s_ls, s_as, s_ii, s_gi, s_gl, s_gr, s_pi, s_pz, s_pl, s_pr, s_iald, s_zald, s_lald, s_aald, s_alen, s_iast, s_zast, s_last, s_iret, s_zret, s_lret, s_aret, s_vret, s_sw, s_aast, mm_sw, mm_ld, mm_s1, mm_s2, mm_kl, Value.category, va_rf, List.nil_append, List.cons_append, Option.toList, true_and, and_true, and_self, true_or, or_true, eq_self, not_true_eq_false, false_implies, true_implies, not_false_eq_true, mm_10, mm_01, false_or, or_false, Nat.left_eq_add, Nat.add_eq_left, Nat.add_left_cancel_iff, Nat.reduceEqDiff, false_and, and_false, reduceIte, mm_kd_pi, mm_ln_pi, mm_gl_pi, mm_gr_pi, mm_sz_pi, mm_gi_pi, mm_kd_pl, mm_ln_pl, mm_gi_pl, mm_gr_pl, mm_sz_pl, mm_gl_pl, mm_kd_pr, mm_ln_pr, mm_gi_pr, mm_gl_pr, mm_sz_pr, mm_gr_pr, mm_kd_pa, mm_ln_pa, mm_gl_pa, mm_gr_pa, mm_sz_pa, mm_gi_pa]
  exact k1 p q g ok F M
end
theorem op_18 : OP_18 (Inv LRw) := by
  intro h hI
  obtain ⟨S, A, n, te, C, M, tv, hl⟩ := AI_of hI
  have v := C.2.1
  have v1 := v.1.1
  have v2 := v.1.2.1
  refine sp_pass_ (d := 994) C (fun g p F z m1 => ?_) (fun p q g ok F C1 => ?_)
  · have Fg : fx scr scl h g := scr_C F
    have M' : MI (rfH g (dE S A 3 (-1) (-1)) p) S A n te := MI_s (X := fun c j => xC c j ∨ (c = 0 ∧ j = 12) ∨ c = 90) (Y := y0) (fx_pi (Or.inr (Or.inr rfl)) (fx_pi (Or.inr (Or.inl ⟨rfl, rfl⟩)) (fx_mo (fun c j z => Or.inl z) (fun c z => z) F))) (fun c j hc => by unfold xC; omega) M
    refine no_pr (h := h) M'.1 (ms_pass_ (d := 991) M' (fun g2 p' F2 _ m2 => ⟨rfl, ?_⟩) (fun p q g2 ok _ _ => ?_))
    · have hp := dE_pp z m1 m2
      have := Inv_rf (r := dE S A 3 (-1) (-1)) FRw hp (Inv_fx FRw Fg hI)
      exact Inv_fx FRw (fx_tl (scr_L F2)) this
    · exfalso
      refine z ?_
      have e := ok
      exact pif_t e
  · have M' : MI (acH g) S A n te := MI_s (X := fun c j => xAct c j ∨ (c = 0 ∧ j = 12)) (Y := y0) (fx_pi (Or.inr ⟨rfl, rfl⟩) (fx_mo (fun c j z => Or.inl z) (fun c z => z) F)) (fun c j hc => by unfold xAct; omega) M
    refine no_pr (h := h) M'.1 (ms_pass_ (d := 991) M' (fun g2 p' F2 z _ => ?_) (fun p' q' g2 ok' F2 M2 => ?_))
    · exfalso
      refine z ?_
      have e := ok
      exact pif_t e
    · exact ⟨rfl, Inv_deed hI hl v (sameC_dS (p := p) (q := q) (by decide)) (TV_psh v (by decide) tv) F C1 F2 M2⟩
