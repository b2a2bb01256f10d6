/-! the model's reader: clauses of a law -/
def mC (o : Bool) : Nat := if o = true then 120 else 101
def xMt (c j : Nat) : Prop := xMd c j ∨ (c = 91 ∧ j = 21) ∨ c = 101 ∨ c = 120
def MDl (h : mmH) (y : Nat) (J : jM) (k : Nat) (x : cDt) : Prop := (mm_gi h 101 (8 * k) = nI x.1 ∧ x.1 < 4) ∧ (∀ D, x.2.1 = some D → mEx 10 y (fun i => dec false (J i)) (mm_gi h 101 (8 * k + 3)) (mm_gi h 101 (8 * k + 4)) D) ∧ (x.2.2.2.2 = none → ∃ r, r ≤ 400 ∧ mm_gi h 101 (8 * k + 5) = nI r ∧ mm_gi h 101 (8 * k + 6) = nI r) ∧ ∀ D, x.2.2.2.2 = some D → mEx 10 y (fun i => dec false (J i)) (mm_gi h 101 (8 * k + 5)) (mm_gi h 101 (8 * k + 6)) D
def MTl (n : Nat) (t : Nat → Nat) (h : mmH) (p c y : Nat) (J : jM) (i : Nat) (cl : Nat → cDt) : Prop := MS0 false n t h p c y J ∧ mm_gi h 91 19 = 0 ∧ y ≤ p ∧ WJ false y J ∧ (mm_gi h 91 21 = nI i ∧ i ≤ 12) ∧ ∀ k, k < i → MDl h y J k (cl k)
section
variable {d : Nat} {h g h0 : mmH} {K : Option Value → mmH → Prop} {o : Bool} {n : Nat} {t : Nat → Nat} {p c y p' c' y' i p0 c0 kd : Nat} {J J' : jM} {cl : Nat → cDt} {pl : List (Nat × Nat)}
theorem md_mt (F : fx xMd yMd h g) : fx xMt yMd h g := fx_mo (fun _ _ q => Or.inl q) (fun _ q => q) F
theorem mEx_mo {nw : Nat} {a b : Int32} {D : xD} (hz : y ≤ y') (e : ∀ i, i < y → J' i = J i) (H : mEx nw y (fun i => dec o (J i)) a b D) : mEx nw y' (fun i => dec o (J' i)) a b D := by
  obtain ⟨p, q, w, e1, e2, e3, e4, e5⟩ := H
  exact ⟨p, q, w, e1, e2, by omega, e4, xP_cg (fun i _ i2 => by
    show dec o (J' i) = dec o (J i)
    rw [e i (by omega)]) e5⟩
theorem MDl_mo {k : Nat} {x : cDt} (hz : y ≤ y') (e : ∀ i, i < y → J' i = J i) (eg : ∀ j, j < 8 → mm_gi g 101 (8 * k + j) = mm_gi h 101 (8 * k + j)) (H : MDl h y J k x) : MDl g y' J' k x := by
  obtain ⟨a, b, c, d⟩ := H
  have e0 := eg 0 (by decide)
  rw [Nat.add_zero] at e0
  unfold MDl
  rw [e0, eg 3 (by decide), eg 4 (by decide), eg 5 (by decide), eg 6 (by decide)]
  exact ⟨a, fun D q => mEx_mo hz e (b D q), c, fun D q => mEx_mo hz e (d D q)⟩
theorem MS_wm {a j : Nat} {x : Int32} (ha : a = 101 ∨ a = 120 ∨ (a = 91 ∧ j = 21)) (M : MS0 o n t h p c y J) : MS0 o n t (mm_pi h a j x) p c y J := by
  obtain ⟨⟨H, T, k, w⟩, b, f, r⟩ := M
  have F : fx xMt yMd h (mm_pi h a j x) := fx_pi (by unfold xMt; omega) fx_rf
  have e : ∀ c' j', (c' ≠ a ∨ j' ≠ j) → mm_gi (mm_pi h a j x) c' j' = mm_gi h c' j' := fun c' j' q => by rw [mm_gi_pi, if_neg (by omega)]
  refine ⟨⟨fx_WS F H, TPM_fx (fun j => ⟨by unfold xMt xMd; omega, by unfold xMt xMd; omega⟩) F T, TKm_cg (fun j hj => e 91 j (by omega)) (by rw [mm_gl_pi]) k, by unfold KW at w ⊢; exact w⟩, ⟨b.1, fl_cg (e 91 19 (by omega)) (e 91 18 (by omega)) b.2.1, b.2.2⟩, ?_, fun i hi => ?_⟩
  · rw [e 91 20 (by omega), e 91 23 (by omega), e 91 26 (by omega)]
    exact f
  · rw [e 102 i (by omega), e 103 i (by omega)]
    exact r i hi
/-- clause i while it is read -/
def MUl (n : Nat) (t : Nat → Nat) (h : mmH) (p c y : Nat) (J : jM) (i : Nat) (cl : Nat → cDt) : Prop := MS0 false n t h p c y J ∧ mm_gi h 91 19 = 0 ∧ y ≤ p ∧ WJ false y J ∧ (mm_gi h 91 21 = nI (i + 1) ∧ i < 12) ∧ ∀ k, k < i → MDl h y J k (cl k)
theorem MUl_md (U : MUl n t h p c y J i cl) (F : fx xMd yMd h g) (M : MS0 false n t g p' c' y' J') (hb : mm_gi g 91 19 = 0) (hy : y' ≤ p') (W : WJ false y' J') (hz : y ≤ y') (e : ∀ i, i < y → J' i = J i) : MUl n t g p' c' y' J' i cl := by
  obtain ⟨u1, u2, u3, u4, u5, u6⟩ := U
  exact ⟨M, hb, hy, W, ⟨(F.2.1 91 21 (by unfold xMd; omega)).trans u5.1, u5.2⟩, fun k hk => MDl_mo hz e (fun j _ => F.2.1 101 _ (by unfold xMd; omega)) (u6 k hk)⟩
theorem MUl_w {j : Nat} {x : Int32} (U : MUl n t h p c y J i cl) (hj : 8 * i ≤ j) : MUl n t (mm_pi h 101 j x) p c y J i cl := by
  obtain ⟨u1, u2, u3, u4, u5, u6⟩ := U
  refine ⟨MS_wm (Or.inl rfl) u1, by rw [mm_gi_pi, if_neg (by omega)]; exact u2, u3, u4, ⟨by rw [mm_gi_pi, if_neg (by omega)]; exact u5.1, u5.2⟩, fun k hk => MDl_mo (Nat.le_refl _) (fun _ _ => rfl) (fun j' hj' => ?_) (u6 k hk)⟩
  rw [mm_gi_pi, if_neg (by omega)]
/-- the test -/
theorem rl_if {r : cR} {a3 a4 : Int32} {S1 : Option xD} {x3 : Option Value} (U : MUl n t h p c y J i cl) (F0 : fx xMt yMd h0 h) (e0 : mm_gi h 101 (8 * i) = nI kd) (hk : kd < 4) (e3 : mm_gi h 101 (8 * i + 3) = a3) (h4 : a4 = nI y) (hS : ∀ D, S1 = some D → mEx 10 y (fun i => dec false (J i)) a3 a4 D) (R : IFr false n t p c kd S1 none 1 r) (k0 : ∀ f, r = .inl f → ∀ g, fx xMt yMd h0 g → mm_gi g 91 19 = 1 → mm_gi g 91 18 = nI f → K none g) (k1 : ∀ p' c' x, r = .inr (p', c', x) → ∀ g y' J', fx xMt yMd h0 g → MTl n t g p' c' y' J' (i + 1) (cu cl i x) → K none g) : mm_V q_X10_readLaw (d + 8) (0, 0) K 134 [some (.ref 91), some (.int (nI kd)), some (.int (nI (8 * i))), x3] [] h := by
  have i12 := U.2.2.2.2.1.2
  have M0 := U.1
  have y4 : y ≤ 400 := M0.2.1.2.2.2
  have H := M0.1.1
  obtain ⟨h1, eh1⟩ : ∃ h1 : mmH, h1 = mm_pi h 101 (8 * i + 4) (nI y) := ⟨_, rfl⟩
  obtain ⟨h2, eh2⟩ : ∃ h2 : mmH, h2 = mm_pi h1 101 (8 * i + 5) (nI y) := ⟨_, rfl⟩
  have U1 : MUl n t h1 p c y J i cl := by rw [eh1]; exact MUl_w U (by omega)
  have U2 : MUl n t h2 p c y J i cl := by rw [eh2]; exact MUl_w U1 (by omega)
  have F2 : fx xMt yMd h0 h2 := by rw [eh2]; refine fx_pi (by unfold xMt; omega) ?_; rw [eh1]; exact fx_pi (by unfold xMt; omega) F0
  have M1 := U1.1
  have M2 := U2.1
  have H1 := M1.1.1
  have H2 := M2.1.1
  have f0 : mm_gi h2 101 (8 * i) = nI kd := by rw [eh2, mm_gi_pi, if_neg (by omega), eh1, mm_gi_pi, if_neg (by omega)]; exact e0
  have f3 : mm_gi h2 101 (8 * i + 3) = a3 := by rw [eh2, mm_gi_pi, if_neg (by omega), eh1, mm_gi_pi, if_neg (by omega)]; exact e3
  have f4 : mm_gi h2 101 (8 * i + 4) = a4 := by rw [eh2, mm_gi_pi, if_neg (by omega), eh1, mm_gi_pi, if_pos ⟨rfl, rfl⟩, h4]
  have f5 : mm_gi h2 101 (8 * i + 5) = nI y := by rw [eh2, mm_gi_pi, if_pos ⟨rfl, rfl⟩]
  refine t_X10_readLaw_134 _ _ _ ?_
  simp only [s_iadd, s_isub, s_imul, s_iand, s_ior, s_ixor, s_ishl, s_ishr, s_iushr, s_idiv, s_irem, s_ladd, s_lsub, s_lmul, s_ldiv, s_lrem, s_ineg, s_i2l, s_l2i, s_i2c, s_lcmp, s_ic, s_lc, s_nul, s_str, s_il, s_ll, s_al, s_dup, s_dup2, s_pop, s_ifne, s_icne, s_ifeq, s_iflt, s_ifge, s_ifgt, s_ifle, s_iceq, s_iclt, s_icge, s_icgt, s_icle, s_ifnull, s_ifnonnull, s_is, s_ls, s_as, s_ii, s_gi, s_gl, s_gr, s_pi, s_pz, s_pl, s_pr, s_iald, s_zald, s_lald, s_aald, s_alen, s_iast, s_zast, s_last, s_iret, s_zret, s_lret, s_aret, s_vret, s_sw, s_aast, mm_sw, mm_ld, mm_s1, mm_s2, mm_kl, Value.category, va_rf, List.nil_append, List.cons_append, Option.toList, true_and, and_true, and_self, true_or, or_true, eq_self, not_true_eq_false, false_implies, true_implies, not_false_eq_true, mm_10, mm_01, false_or, or_false, Nat.left_eq_add, Nat.add_eq_left, Nat.add_left_cancel_iff, Nat.reduceEqDiff, false_and, and_false, reduceIte, mm_kd_pi, mm_ln_pi, mm_gl_pi, mm_gr_pi, mm_sz_pi, mm_gi_pi, mm_kd_pl, mm_ln_pl, mm_gi_pl, mm_gr_pl, mm_sz_pl, mm_gl_pl, mm_kd_pr, mm_ln_pr, mm_gi_pr, mm_gl_pr, mm_sz_pr, mm_gr_pr, mm_kd_pa, mm_ln_pa, mm_gl_pa, mm_gr_pa, mm_sz_pa, mm_gi_pa, W_kd_91 H, W_s_91 H, W_gr_91_2 H, W_gr_91_3 H, W_gr_91_4 H, W_gr_91_5 H, W_gr_91_6 H, W_gr_91_7 H, W_gr_91_9 H, W_gr_91_10 H, W_gr_91_12 H, W_gr_91_22 H, W_gr_91_24 H, W_gr_91_25 H, W_gr_91_27 H, W_gr_91_28 H, W_gr_91_31 H, W_gr_91_32 H, W_gr_91_33 H, W_gr_91_35 H, W_gr_91_36 H, W_gr_91_37 H, W_gr_91_41 H, W_gr_91_42 H, W_gr_91_43 H, W_gr_91_44 H, W_gr_91_45 H, W_gr_91_46 H, W_gr_91_47 H, W_gr_91_48 H, W_gr_91_49 H, W_gr_91_55 H, W_kd_101 H, W_s_101 H, W_ln_101 H, M0.2.2.1.2.1, show nI (8 * i) + 4 = nI (8 * i + 4) from nI_add _ 4, show nI (8 * i) + 5 = nI (8 * i + 5) from nI_add _ 5, nI_clamp (show 8 * i + 4 < 2 ^ 31 by omega), vp_in_nI (show 8 * i + 4 < 96 by omega) (show 96 < 2 ^ 31 by decide), nI_clamp (show 8 * i + 5 < 2 ^ 31 by omega), vp_in_nI (show 8 * i + 5 < 96 by omega) (show 96 < 2 ^ 31 by decide), ← eh1, W_kd_91 H1, W_s_91 H1, W_gr_91_2 H1, W_gr_91_3 H1, W_gr_91_4 H1, W_gr_91_5 H1, W_gr_91_6 H1, W_gr_91_7 H1, W_gr_91_9 H1, W_gr_91_10 H1, W_gr_91_12 H1, W_gr_91_22 H1, W_gr_91_24 H1, W_gr_91_25 H1, W_gr_91_27 H1, W_gr_91_28 H1, W_gr_91_31 H1, W_gr_91_32 H1, W_gr_91_33 H1, W_gr_91_35 H1, W_gr_91_36 H1, W_gr_91_37 H1, W_gr_91_41 H1, W_gr_91_42 H1, W_gr_91_43 H1, W_gr_91_44 H1, W_gr_91_45 H1, W_gr_91_46 H1, W_gr_91_47 H1, W_gr_91_48 H1, W_gr_91_49 H1, W_gr_91_55 H1, W_kd_101 H1, W_s_101 H1, W_ln_101 H1, M1.2.2.1.2.1, ← eh2, W_kd_91 H2, W_s_91 H2, W_gr_91_2 H2, W_gr_91_3 H2, W_gr_91_4 H2, W_gr_91_5 H2, W_gr_91_6 H2, W_gr_91_7 H2, W_gr_91_9 H2, W_gr_91_10 H2, W_gr_91_12 H2, W_gr_91_22 H2, W_gr_91_24 H2, W_gr_91_25 H2, W_gr_91_27 H2, W_gr_91_28 H2, W_gr_91_31 H2, W_gr_91_32 H2, W_gr_91_33 H2, W_gr_91_35 H2, W_gr_91_36 H2, W_gr_91_37 H2, W_gr_91_41 H2, W_gr_91_42 H2, W_gr_91_43 H2, W_gr_91_44 H2, W_gr_91_45 H2, W_gr_91_46 H2, W_gr_91_47 H2, W_gr_91_48 H2, W_gr_91_49 H2, W_gr_91_55 H2, U2.2.1]
  -- the end of the clause
  have fin : ∀ g p' c' y' J' T, MUl n t g p' c' y' J' i cl → fx xMt yMd h0 g → (∀ j, mm_gi g 101 j = mm_gi h2 101 j) → y ≤ y' → (∀ j, j < y → J' j = J j) → (T = none → y' = y) → (∀ D, T = some D → xP 10 (fun i => dec false (J' i)) y y' (c' - c) D ∧ c' ≤ 50) → r = .inr (p', c', (kd, S1, none, 1, T)) → mm_V q_X10_readLaw (d + 8) (0, 0) K 184 [some (.ref 91), some (.int (nI kd)), some (.int (nI (8 * i))), x3] [] g := by
    intro g p' c' y' J' T Ug Fg eg hyy ag tn ts er
    have Mg := Ug.1
    have Hg := Mg.1.1
    have yg : y' ≤ 400 := Mg.2.1.2.2.2
    refine t_X10_readLaw_184 _ _ _ ?_
    simp only [s_iadd, s_isub, s_imul, s_iand, s_ior, s_ixor, s_ishl, s_ishr, s_iushr, s_idiv, s_irem, s_ladd, s_lsub, s_lmul, s_ldiv, s_lrem, s_ineg, s_i2l, s_l2i, s_i2c, s_lcmp, s_ic, s_lc, s_nul, s_str, s_il, s_ll, s_al, s_dup, s_dup2, s_pop, s_ifne, s_icne, s_ifeq, s_iflt, s_ifge, s_ifgt, s_ifle, s_iceq, s_iclt, s_icge, s_icgt, s_icle, s_ifnull, s_ifnonnull, s_is, s_ls, s_as, s_ii, s_gi, s_gl, s_gr, s_pi, s_pz, s_pl, s_pr, s_iald, s_zald, s_lald, s_aald, s_alen, s_iast, s_zast, s_last, s_iret, s_zret, s_lret, s_aret, s_vret, s_sw, s_aast, mm_sw, mm_ld, mm_s1, mm_s2, mm_kl, Value.category, va_rf, List.nil_append, List.cons_append, Option.toList, true_and, and_true, and_self, true_or, or_true, eq_self, not_true_eq_false, false_implies, true_implies, not_false_eq_true, mm_10, mm_01, false_or, or_false, Nat.left_eq_add, Nat.add_eq_left, Nat.add_left_cancel_iff, Nat.reduceEqDiff, false_and, and_false, reduceIte, mm_kd_pi, mm_ln_pi, mm_gl_pi, mm_gr_pi, mm_sz_pi, mm_gi_pi, mm_kd_pl, mm_ln_pl, mm_gi_pl, mm_gr_pl, mm_sz_pl, mm_gl_pl, mm_kd_pr, mm_ln_pr, mm_gi_pr, mm_gl_pr, mm_sz_pr, mm_gr_pr, mm_kd_pa, mm_ln_pa, mm_gl_pa, mm_gr_pa, mm_sz_pa, mm_gi_pa, W_kd_91 Hg, W_s_91 Hg, W_gr_91_2 Hg, W_gr_91_3 Hg, W_gr_91_4 Hg, W_gr_91_5 Hg, W_gr_91_6 Hg, W_gr_91_7 Hg, W_gr_91_9 Hg, W_gr_91_10 Hg, W_gr_91_12 Hg, W_gr_91_22 Hg, W_gr_91_24 Hg, W_gr_91_25 Hg, W_gr_91_27 Hg, W_gr_91_28 Hg, W_gr_91_31 Hg, W_gr_91_32 Hg, W_gr_91_33 Hg, W_gr_91_35 Hg, W_gr_91_36 Hg, W_gr_91_37 Hg, W_gr_91_41 Hg, W_gr_91_42 Hg, W_gr_91_43 Hg, W_gr_91_44 Hg, W_gr_91_45 Hg, W_gr_91_46 Hg, W_gr_91_47 Hg, W_gr_91_48 Hg, W_gr_91_49 Hg, W_gr_91_55 Hg, W_kd_101 Hg, W_s_101 Hg, W_ln_101 Hg, Mg.2.2.1.2.1, show nI (8 * i) + 6 = nI (8 * i + 6) from nI_add _ 6, nI_clamp (show 8 * i + 6 < 2 ^ 31 by omega), vp_in_nI (show 8 * i + 6 < 96 by omega) (show 96 < 2 ^ 31 by decide)]
    have U3 : MUl n t (mm_pi g 101 (8 * i + 6) (nI y')) p' c' y' J' i cl := MUl_w Ug (by omega)
    refine k1 p' c' _ er _ y' J' (fx_pi (by unfold xMt; omega) Fg) ⟨U3.1, U3.2.1, U3.2.2.1, U3.2.2.2.1, ⟨U3.2.2.2.2.1.1, by omega⟩, fun k hk2 => ?_⟩
    by_cases q : k = i
    · subst q
      unfold cu
      rw [if_pos rfl]
      have w : ∀ j, j < 6 → mm_gi (mm_pi g 101 (8 * k + 6) (nI y')) 101 (8 * k + j) = mm_gi h2 101 (8 * k + j) := fun j hj => by rw [mm_gi_pi, if_neg (by omega)]; exact eg _
      have w0 : mm_gi (mm_pi g 101 (8 * k + 6) (nI y')) 101 (8 * k) = mm_gi h2 101 (8 * k) := w 0 (by decide)
      have w6 : mm_gi (mm_pi g 101 (8 * k + 6) (nI y')) 101 (8 * k + 6) = nI y' := by rw [mm_gi_pi, if_pos ⟨rfl, rfl⟩]
      unfold MDl
      rw [w0, w 3 (by decide), w 4 (by decide), w 5 (by decide), w6, f0, f3, f4, f5]
      refine ⟨⟨rfl, hk⟩, fun D q => mEx_mo hyy ag (hS D q), fun q => ⟨y, y4, rfl, by rw [tn q]⟩, fun D q => ?_⟩
      obtain ⟨z1, z2⟩ := ts D q
      exact ⟨y, y', c' - c, rfl, rfl, Nat.le_refl _, by omega, z1⟩
    · unfold cu
      rw [if_neg q]
      exact U3.2.2.2.2.2 k (by omega)
  refine c_X10_readLaw_169 (bb := (0, 0)) (b := (0, 0)) (Nat.le_of_ble_eq_true rfl) ⟨rfl, rfl⟩ (W_kd_91 H2) (W_s_91 H2) (m0_word (w := 294) M2 (by decide) (fun q => ?_) (fun q => ?_)) <;> refine t_X10_readLaw_172 _ _ _ ?_
  · have e9 : wq n t 9 p = some 0 := wq_9.mpr q
    rcases R with ⟨R, _⟩ | ⟨_, R⟩
    · rw [e9] at R; cases R
    simp only [s_iadd, s_isub, s_imul, s_iand, s_ior, s_ixor, s_ishl, s_ishr, s_iushr, s_idiv, s_irem, s_ladd, s_lsub, s_lmul, s_ldiv, s_lrem, s_ineg, s_i2l, s_l2i, s_i2c, s_lcmp, s_ic, s_lc, s_nul, s_str, s_il, s_ll, s_al, s_dup, s_dup2, s_pop, s_ifne, s_icne, s_ifeq, s_iflt, s_ifge, s_ifgt, s_ifle, s_iceq, s_iclt, s_icge, s_icgt, s_icle, s_ifnull, s_ifnonnull, s_is, s_ls, s_as, s_ii, s_gi, s_gl, s_gr, s_pi, s_pz, s_pl, s_pr, s_iald, s_zald, s_lald, s_aald, s_alen, s_iast, s_zast, s_last, s_iret, s_zret, s_lret, s_aret, s_vret, s_sw, s_aast, mm_sw, mm_ld, mm_s1, mm_s2, mm_kl, Value.category, va_rf, List.nil_append, List.cons_append, Option.toList, true_and, and_true, and_self, true_or, or_true, eq_self, not_true_eq_false, false_implies, true_implies, not_false_eq_true, mm_10, mm_01, false_or, or_false, Nat.left_eq_add, Nat.add_eq_left, Nat.add_left_cancel_iff, Nat.reduceEqDiff, false_and, and_false, reduceIte, mm_kd_pi, mm_ln_pi, mm_gl_pi, mm_gr_pi, mm_sz_pi, mm_gi_pi, mm_kd_pl, mm_ln_pl, mm_gi_pl, mm_gr_pl, mm_sz_pl, mm_gl_pl, mm_kd_pr, mm_ln_pr, mm_gi_pr, mm_gl_pr, mm_sz_pr, mm_gr_pr, mm_kd_pa, mm_ln_pa, mm_gl_pa, mm_gr_pa, mm_sz_pa, mm_gi_pa, show ((1 : Int32) = 0) = False by decide]
    refine c_X10_readLaw_176 (bb := (0, 0)) (b := (0, 0)) (Nat.le_of_ble_eq_true rfl) ⟨rfl, rfl⟩ (W_kd_91 H2) (W_s_91 H2) (m0_next M2 (fun g3 F3 b3 f3' M3 => ?_))
    have H3 := M3.1.1
    have tb := tkb_le (t := t) M2.2.1.1
    have tc := tks_le (t := t) M2.2.1.1
    have hy3 := U2.2.2.1
    have U3 : MUl n t g3 (tkb n t p) c y J i cl := MUl_md U2 F3 M3 (b3.trans U2.2.1) (by omega) U2.2.2.2.1 (Nat.le_refl _) (fun _ _ => rfl)
    refine t_X10_readLaw_179 _ _ _ ?_
    simp only [s_iadd, s_isub, s_imul, s_iand, s_ior, s_ixor, s_ishl, s_ishr, s_iushr, s_idiv, s_irem, s_ladd, s_lsub, s_lmul, s_ldiv, s_lrem, s_ineg, s_i2l, s_l2i, s_i2c, s_lcmp, s_ic, s_lc, s_nul, s_str, s_il, s_ll, s_al, s_dup, s_dup2, s_pop, s_ifne, s_icne, s_ifeq, s_iflt, s_ifge, s_ifgt, s_ifle, s_iceq, s_iclt, s_icge, s_icgt, s_icle, s_ifnull, s_ifnonnull, s_is, s_ls, s_as, s_ii, s_gi, s_gl, s_gr, s_pi, s_pz, s_pl, s_pr, s_iald, s_zald, s_lald, s_aald, s_alen, s_iast, s_zast, s_last, s_iret, s_zret, s_lret, s_aret, s_vret, s_sw, s_aast, mm_sw, mm_ld, mm_s1, mm_s2, mm_kl, Value.category, va_rf, List.nil_append, List.cons_append, Option.toList, true_and, and_true, and_self, true_or, or_true, eq_self, not_true_eq_false, false_implies, true_implies, not_false_eq_true, mm_10, mm_01, false_or, or_false, Nat.left_eq_add, Nat.add_eq_left, Nat.add_left_cancel_iff, Nat.reduceEqDiff, false_and, and_false, reduceIte, mm_kd_pi, mm_ln_pi, mm_gl_pi, mm_gr_pi, mm_sz_pi, mm_gi_pi, mm_kd_pl, mm_ln_pl, mm_gi_pl, mm_gr_pl, mm_sz_pl, mm_gl_pl, mm_kd_pr, mm_ln_pr, mm_gi_pr, mm_gl_pr, mm_sz_pr, mm_gr_pr, mm_kd_pa, mm_ln_pa, mm_gl_pa, mm_gr_pa, mm_sz_pa, mm_gi_pa]
    have ex : ∃ rr, PRx false n t 0 0 (tkb n t p) c rr ∧ (∀ f, rr = .inl f → r = .inl f) ∧ ∀ p' c' D, rr = .inr (p', c', D) → r = .inr (p', c', (kd, S1, none, 1, some D)) := by
      rcases R with ⟨f, R1, R2⟩ | ⟨p', c', D, R1, R2⟩
      · exact ⟨_, R1, fun f' e => (by cases e; exact R2), fun _ _ _ e => (by cases e)⟩
      · exact ⟨_, R1, fun f' e => (by cases e), fun _ _ _ e => (by cases e; exact R2)⟩
    obtain ⟨rr, R1, R2, R3⟩ := ex
    refine c_X10_readLaw_181 (bb := (0, 0)) (b := (0, 0)) (Nat.le_of_ble_eq_true rfl) ⟨rfl, rfl⟩ (W_kd_91 H3) (W_s_91 H3) (ms_expr (d := d) (te := true) (Or.inr ⟨rfl, rfl⟩) R1 M3 (b3.trans U2.2.1) (by omega) U2.2.2.2.1 (fun f er g4 mf => ?_) (fun p' c' D er g4 y' J' F4 M4 b4 hy4 cc ag W4 P4 T4 => ?_))
    · obtain ⟨F4, b4, f4', p', c', pl', y', J', M4⟩ := mf
      have H4 := M4.1.1
      refine t_X10_readLaw_184 _ _ _ ?_
      simp only [s_iadd, s_isub, s_imul, s_iand, s_ior, s_ixor, s_ishl, s_ishr, s_iushr, s_idiv, s_irem, s_ladd, s_lsub, s_lmul, s_ldiv, s_lrem, s_ineg, s_i2l, s_l2i, s_i2c, s_lcmp, s_ic, s_lc, s_nul, s_str, s_il, s_ll, s_al, s_dup, s_dup2, s_pop, s_ifne, s_icne, s_ifeq, s_iflt, s_ifge, s_ifgt, s_ifle, s_iceq, s_iclt, s_icge, s_icgt, s_icle, s_ifnull, s_ifnonnull, s_is, s_ls, s_as, s_ii, s_gi, s_gl, s_gr, s_pi, s_pz, s_pl, s_pr, s_iald, s_zald, s_lald, s_aald, s_alen, s_iast, s_zast, s_last, s_iret, s_zret, s_lret, s_aret, s_vret, s_sw, s_aast, mm_sw, mm_ld, mm_s1, mm_s2, mm_kl, Value.category, va_rf, List.nil_append, List.cons_append, Option.toList, true_and, and_true, and_self, true_or, or_true, eq_self, not_true_eq_false, false_implies, true_implies, not_false_eq_true, mm_10, mm_01, false_or, or_false, Nat.left_eq_add, Nat.add_eq_left, Nat.add_left_cancel_iff, Nat.reduceEqDiff, false_and, and_false, reduceIte, mm_kd_pi, mm_ln_pi, mm_gl_pi, mm_gr_pi, mm_sz_pi, mm_gi_pi, mm_kd_pl, mm_ln_pl, mm_gi_pl, mm_gr_pl, mm_sz_pl, mm_gl_pl, mm_kd_pr, mm_ln_pr, mm_gi_pr, mm_gl_pr, mm_sz_pr, mm_gr_pr, mm_kd_pa, mm_ln_pa, mm_gl_pa, mm_gr_pa, mm_sz_pa, mm_gi_pa, W_kd_91 H4, W_s_91 H4, W_gr_91_2 H4, W_gr_91_3 H4, W_gr_91_4 H4, W_gr_91_5 H4, W_gr_91_6 H4, W_gr_91_7 H4, W_gr_91_9 H4, W_gr_91_10 H4, W_gr_91_12 H4, W_gr_91_22 H4, W_gr_91_24 H4, W_gr_91_25 H4, W_gr_91_27 H4, W_gr_91_28 H4, W_gr_91_31 H4, W_gr_91_32 H4, W_gr_91_33 H4, W_gr_91_35 H4, W_gr_91_36 H4, W_gr_91_37 H4, W_gr_91_41 H4, W_gr_91_42 H4, W_gr_91_43 H4, W_gr_91_44 H4, W_gr_91_45 H4, W_gr_91_46 H4, W_gr_91_47 H4, W_gr_91_48 H4, W_gr_91_49 H4, W_gr_91_55 H4, W_kd_101 H4, W_s_101 H4, W_ln_101 H4, show nI (8 * i) + 6 = nI (8 * i + 6) from nI_add _ 6, nI_clamp (show 8 * i + 6 < 2 ^ 31 by omega), vp_in_nI (show 8 * i + 6 < 96 by omega) (show 96 < 2 ^ 31 by decide)]
      exact k0 f (R2 f er) _ (fx_pi (by unfold xMt; omega) (fx_tr F2 (md_mt (fx_tr F3 F4)))) (by rw [mm_gi_pi, if_neg (by omega)]; exact b4) (by rw [mm_gi_pi, if_neg (by omega)]; exact f4')
    · have c5 := M4.2.1.2.2.1
      have ly := P4.1.1
      exact fin g4 p' c' y' J' (some D) (MUl_md U3 F4 (MS_0 M4) b4 hy4 W4 (by omega) ag) (fx_tr F2 (md_mt (fx_tr F3 F4))) (fun j => ((fx_tr F3 F4).2.1 101 j (by unfold xMd; omega))) (by omega) ag (fun q => by cases q) (fun D' q => by cases q; exact ⟨P4, c5⟩) (R3 p' c' D er)
  · have e9 : wq n t 9 p = none := by
      rcases wq_one (n := n) (t := t) (p := p) (i := 9) rfl with u | u
      · exact u
      · exact absurd (wq_9.mp u) q
    simp only [s_iadd, s_isub, s_imul, s_iand, s_ior, s_ixor, s_ishl, s_ishr, s_iushr, s_idiv, s_irem, s_ladd, s_lsub, s_lmul, s_ldiv, s_lrem, s_ineg, s_i2l, s_l2i, s_i2c, s_lcmp, s_ic, s_lc, s_nul, s_str, s_il, s_ll, s_al, s_dup, s_dup2, s_pop, s_ifne, s_icne, s_ifeq, s_iflt, s_ifge, s_ifgt, s_ifle, s_iceq, s_iclt, s_icge, s_icgt, s_icle, s_ifnull, s_ifnonnull, s_is, s_ls, s_as, s_ii, s_gi, s_gl, s_gr, s_pi, s_pz, s_pl, s_pr, s_iald, s_zald, s_lald, s_aald, s_alen, s_iast, s_zast, s_last, s_iret, s_zret, s_lret, s_aret, s_vret, s_sw, s_aast, mm_sw, mm_ld, mm_s1, mm_s2, mm_kl, Value.category, va_rf, List.nil_append, List.cons_append, Option.toList, true_and, and_true, and_self, true_or, or_true, eq_self, not_true_eq_false, false_implies, true_implies, not_false_eq_true, mm_10, mm_01, false_or, or_false, Nat.left_eq_add, Nat.add_eq_left, Nat.add_left_cancel_iff, Nat.reduceEqDiff, false_and, and_false, reduceIte, mm_kd_pi, mm_ln_pi, mm_gl_pi, mm_gr_pi, mm_sz_pi, mm_gi_pi, mm_kd_pl, mm_ln_pl, mm_gi_pl, mm_gr_pl, mm_sz_pl, mm_gl_pl, mm_kd_pr, mm_ln_pr, mm_gi_pr, mm_gl_pr, mm_sz_pr, mm_gr_pr, mm_kd_pa, mm_ln_pa, mm_gl_pa, mm_gr_pa, mm_sz_pa, mm_gi_pa]
    rcases R with ⟨_, R⟩ | ⟨R, _⟩
    · exact fin h2 p c y J none U2 F2 (fun _ => rfl) (Nat.le_refl _) (fun _ _ => rfl) (fun _ => rfl) (fun D q => by cases q) R
    · rw [e9] at R; cases R
end
