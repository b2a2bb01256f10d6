/-! clauses: what they are; the class's reader of them -/
abbrev cDt : Type := Nat × Option xD × Option xD × Nat × Option xD
abbrev cR : Type := Nat ⊕ (Nat × Nat × cDt)
def IFr (o : Bool) (n : Nat) (t : Nat → Nat) (p c kd : Nat) (S1 S2 : Option xD) (tm : Nat) (r : cR) : Prop := (wq n t 9 p = none ∧ r = .inr (p, c, (kd, S1, S2, tm, none))) ∨ (wq n t 9 p = some 0 ∧ ((∃ f, PRx o n t 0 0 (tkb n t p) c (.inl f) ∧ r = .inl f) ∨ ∃ p' c' D, PRx o n t 0 0 (tkb n t p) c (.inr (p', c', D)) ∧ r = .inr (p', c', (kd, S1, S2, tm, some D))))
def CLl (n : Nat) (t : Nat → Nat) (p c : Nat) (r : cR) : Prop := (wq n t 1 p = none ∧ r = .inl (tks n t p)) ∨ ∃ kd, wq n t 1 p = some kd ∧ ((kd ≠ 0 ∧ IFr false n t (tkb n t p) c kd none none 1 r) ∨ (kd = 0 ∧ ((∃ f, PRx false n t 3 0 (tkb n t p) c (.inl f) ∧ r = .inl f) ∨ ∃ p1 c1 D, PRx false n t 3 0 (tkb n t p) c (.inr (p1, c1, D)) ∧ IFr false n t p1 c1 kd (some D) none 1 r)))
def TMr (n : Nat) (t : Nat → Nat) (p c kd : Nat) (S1 S2 : Option xD) (r : cR) : Prop := (wq n t 8 p = none ∧ IFr true n t p c kd S1 S2 1 r) ∨ (wq n t 8 p = some 0 ∧ ((¬ isN n t 1 20 (tkb n t p) ∧ r = .inl (tks n t (tkb n t p))) ∨ (isN n t 1 20 (tkb n t p) ∧ IFr true n t (tkb n t (tkb n t p)) c kd S1 S2 (tkv n t (tkb n t p)) r)))
def CLo (n : Nat) (t : Nat → Nat) (p c : Nat) (r : cR) : Prop := (wq n t 0 p = none ∧ r = .inl (tks n t p)) ∨ ∃ kd, wq n t 0 p = some kd ∧ ((kd = 3 ∧ TMr n t (tkb n t p) c kd none none r) ∨ (kd ≠ 3 ∧ ((∃ f, PRx true n t 3 0 (tkb n t p) c (.inl f) ∧ r = .inl f) ∨ ∃ p1 c1 D1, PRx true n t 3 0 (tkb n t p) c (.inr (p1, c1, D1)) ∧ ((wq n t 7 p1 ≠ some kd ∧ r = .inl (tks n t p1)) ∨ (wq n t 7 p1 = some kd ∧ ((∃ f, PRx true n t 3 0 (tkb n t p1) c1 (.inl f) ∧ r = .inl f) ∨ ∃ p2 c2 D2, PRx true n t 3 0 (tkb n t p1) c1 (.inr (p2, c2, D2)) ∧ TMr n t p2 c2 kd (some D1) (some D2) r))))))
def CLr (o : Bool) (n : Nat) (t : Nat → Nat) (p c : Nat) (r : cR) : Prop := match o with
  | false => CLl n t p c r
  | true => CLo n t p c r
def xRt (c j : Nat) : Prop := c = 57 ∨ (c = 56 ∧ (j = 2 ∨ j = 3 ∨ j = 4)) ∨ (58 ≤ c ∧ c ≤ 65)
/-- clause k of the class's text -/
def CDc (o : Bool) (h : mmH) (z : Nat) (I : xIn) (k : Nat) (x : cDt) : Prop := (mm_gi h 59 k = nI x.1 ∧ x.1 < 4) ∧ (∀ D, x.2.1 = some D → cEx (nwO o) z I (mm_gi h 60 k) D) ∧ (∀ D, x.2.2.1 = some D → cEx (nwO o) z I (mm_gi h 61 k) D) ∧ (mm_gi h 62 k = nI x.2.2.2.1 ∧ 1 ≤ x.2.2.2.1 ∧ x.2.2.2.1 ≤ 20) ∧ (x.2.2.2.2 = none → mm_gi h 63 k = -1) ∧ ∀ D, x.2.2.2.2 = some D → cEx (nwO o) z I (mm_gi h 63 k) D ∧ xT (nwO o) D
def CTx (o : Bool) (n : Nat) (t : Nat → Nat) (h : mmH) (p c z : Nat) (I : xIn) (i : Nat) (cl : Nat → cDt) : Prop := CS o n t h p c z I ∧ z ≤ p ∧ (mm_gi h 58 0 = nI i ∧ i ≤ 12) ∧ ∀ k, k < i → CDc o h z I k (cl k)
/-- while clause i is read -/
def CU (o : Bool) (n : Nat) (t : Nat → Nat) (h : mmH) (p c z : Nat) (I : xIn) (i : Nat) (cl : Nat → cDt) (a0 a1 a2 a3 a4 : Int32) : Prop := CS o n t h p c z I ∧ z ≤ p ∧ (mm_gi h 58 0 = nI (i + 1) ∧ i < 12) ∧ (∀ k, k < i → CDc o h z I k (cl k)) ∧ mm_gi h 59 i = a0 ∧ mm_gi h 60 i = a1 ∧ mm_gi h 61 i = a2 ∧ mm_gi h 62 i = a3 ∧ mm_gi h 63 i = a4
def cu (cl : Nat → cDt) (i : Nat) (x : cDt) : Nat → cDt := fun k => if k = i then x else cl k
section
variable {d : Nat} {h g h0 : mmH} {K : Option Value → mmH → Prop} {o : Bool} {n : Nat} {t : Nat → Nat} {p c z p' c' z' i p0 c0 : Nat} {I I' : xIn} {cl : Nat → cDt} {a0 a1 a2 a3 a4 x : Int32}
theorem cEx_mo {nw : Nat} {D : xD} (hz : z ≤ z') (e : ∀ i, i < z → I' i = I i) (H : cEx nw z I x D) : cEx nw z' I' x D := by
  obtain ⟨p, q, w, e1, e2, e3, e4, e5⟩ := H
  have := e5.1.1
  exact ⟨p, q, w, e1, by omega, by rw [e q e2]; exact e3, e4, xP_cg (fun i _ i2 => e i (by omega)) e5⟩
theorem CDc_mo {k : Nat} {y : cDt} (hz : z ≤ z') (e : ∀ i, i < z → I' i = I i) (eg : ∀ c, 59 ≤ c → c ≤ 63 → mm_gi g c k = mm_gi h c k) (H : CDc o h z I k y) : CDc o g z' I' k y := by
  obtain ⟨b1, b2, b3, b4, b5, b6⟩ := H
  unfold CDc
  rw [eg 59 (by omega) (by omega), eg 60 (by omega) (by omega), eg 61 (by omega) (by omega), eg 62 (by omega) (by omega), eg 63 (by omega) (by omega)]
  exact ⟨b1, fun D q => cEx_mo hz e (b2 D q), fun D q => cEx_mo hz e (b3 D q), b4, b5, fun D q => ⟨cEx_mo hz e (b6 D q).1, (b6 D q).2⟩⟩
theorem CU_rd (U : CU o n t h p c z I i cl a0 a1 a2 a3 a4) (F : fx xRd y0 h g) (C : CS o n t g p' c' z' I') (hp : z' ≤ p') (hz : z ≤ z') (e : ∀ i, i < z → I' i = I i) : CU o n t g p' c' z' I' i cl a0 a1 a2 a3 a4 := by
  obtain ⟨u1, u2, u3, u4, u5, u6, u7, u8, u9⟩ := U
  have eg : ∀ k c, 59 ≤ c → c ≤ 63 → mm_gi g c k = mm_gi h c k := fun k c c1 c2 => F.2.1 c k (by unfold xRd; omega)
  refine ⟨C, hp, ⟨(F.2.1 58 0 (by unfold xRd; omega)).trans u3.1, u3.2⟩, fun k hk => CDc_mo hz e (eg k) (u4 k hk), ?_, ?_, ?_, ?_, ?_⟩
  · rw [eg i 59 (by omega) (by omega)]; exact u5
  · rw [eg i 60 (by omega) (by omega)]; exact u6
  · rw [eg i 61 (by omega) (by omega)]; exact u7
  · rw [eg i 62 (by omega) (by omega)]; exact u8
  · rw [eg i 63 (by omega) (by omega)]; exact u9
theorem rd_rt (F : fx xRd y0 h g) : fx xRt y0 h g := fx_mo (fun c j q => by unfold xRd at q; unfold xRt; omega) (fun _ q => q) F
theorem CS_wr {a j : Nat} (ha : (59 ≤ a ∧ a ≤ 63) ∨ (a = 58 ∧ j = 0)) (C : CS o n t h p c z I) : CS o n t (mm_pi h a j x) p c z I := by
  obtain ⟨H, T, b, C1, C2, C3, C4, C5⟩ := C
  have F : fx xRt y0 h (mm_pi h a j x) := fx_pi (by unfold xRt; omega) fx_rf
  have e : ∀ c' j', (c' ≠ a ∨ j' ≠ j) → mm_gi (mm_pi h a j x) c' j' = mm_gi h c' j' := fun c' j' q => by rw [mm_gi_pi, if_neg (by omega)]
  refine ⟨fx_WS F H, TPE_fx (fun j => ⟨by unfold xRt; omega, by unfold xRt; omega⟩) F T, ⟨b.1, (e 56 4 (by omega)).trans b.2.1, b.2.2⟩, ?_, ?_, ?_, ?_, fun i hi => ?_⟩
  · unfold TKc
    rw [e 57 1 (by omega), e 57 2 (by omega), e 57 3 (by omega), e 57 4 (by omega)]
    exact C1
  · rw [e 56 2 (by omega)]; exact C2
  · rw [e 56 3 (by omega)]; exact C3
  · rw [e 58 6 (by omega)]; exact C4
  · unfold cde
    rw [e 64 i (by omega), e 65 i (by omega)]
    exact C5 i hi
/-- the test behind "if" -/
theorem cl_if {kd tm : Nat} {S1 S2 : Option xD} (U : CU o n t h p c z I i cl (nI kd) a1 a2 (nI tm) (-1)) (F0 : fx xRt y0 h0 h) (hk : kd < 4) (htm : 1 ≤ tm ∧ tm ≤ 20) (hp0 : p0 < p) (hS1 : ∀ D, S1 = some D → cEx (nwO o) z I a1 D) (hS2 : ∀ D, S2 = some D → cEx (nwO o) z I a2 D) (R : ∀ r, IFr o n t p c kd S1 S2 tm r → CLr o n t p0 c0 r) {kx : Option Value}
    (k1 : ∀ g p' c' z' I' y, CLr o n t p0 c0 (.inr (p', c', y)) → CTx o n t g p' c' z' I' (i + 1) (cu cl i y) → fx xRt y0 h0 g → p0 < p' → K (some (.int 1)) g) (k0 : ∀ g f, CLr o n t p0 c0 (.inl f) → fx xRt y0 h0 g → mm_gi g 56 4 = nI f → f ≤ 400 → K (some (.int 0)) g) : mm_V q_X3_takeClause (d + 60) (0, 0) K 131 [some (.ref 56), kx, some (.int (nI i))] [] h := by
  have C := U.1
  have H := C.1
  have n4 := C.2.1.1
  have zp := U.2.1
  have bb := CS_b C
  refine t_X3_takeClause_131 _ _ _ ?_
  simp only [s_iadd, s_isub, s_imul, s_iand, s_ior, s_ixor, s_ishl, s_ishr, s_iushr, s_idiv, s_irem, s_ladd, s_lsub, s_lmul, s_ldiv, s_lrem, s_ineg, s_i2l, s_l2i, s_i2c, s_lcmp, s_ic, s_lc, s_nul, s_str, s_il, s_ll, s_al, s_dup, s_dup2, s_pop, s_ifne, s_icne, s_ifeq, s_iflt, s_ifge, s_ifgt, s_ifle, s_iceq, s_iclt, s_icge, s_icgt, s_icle, s_ifnull, s_ifnonnull, s_is, s_ls, s_as, s_ii, s_gi, s_gl, s_gr, s_pi, s_pz, s_pl, s_pr, s_iald, s_zald, s_lald, s_aald, s_alen, s_iast, s_zast, s_last, s_iret, s_zret, s_lret, s_aret, s_vret, s_sw, s_aast, mm_sw, mm_ld, mm_s1, mm_s2, mm_kl, Value.category, va_rf, List.nil_append, List.cons_append, Option.toList, true_and, and_true, and_self, true_or, or_true, eq_self, not_true_eq_false, false_implies, true_implies, not_false_eq_true, mm_10, mm_01, false_or, or_false, Nat.left_eq_add, Nat.add_eq_left, Nat.add_left_cancel_iff, Nat.reduceEqDiff, false_and, and_false, reduceIte, mm_kd_pi, mm_ln_pi, mm_gl_pi, mm_gr_pi, mm_sz_pi, mm_gi_pi, mm_kd_pl, mm_ln_pl, mm_gi_pl, mm_gr_pl, mm_sz_pl, mm_gl_pl, mm_kd_pr, mm_ln_pr, mm_gi_pr, mm_gl_pr, mm_sz_pr, mm_gr_pr, mm_kd_pa, mm_ln_pa, mm_gl_pa, mm_gr_pa, mm_sz_pa, mm_gi_pa, W_kd_56 H, W_s_56 H, W_gr_56_0 H, W_gr_56_1 H]
  refine c_X3_takeClause_137 (bb := (0, 0)) (b := (0, 0)) (Nat.le_of_ble_eq_true rfl) ⟨rfl, rfl⟩ (W_kd_57 H) (W_s_57 H) (CS_w (i := 9) C (by decide) ?_)
  refine t_X3_takeClause_140 _ _ _ ?_
  rcases wq_one (n := n) (t := t) (p := p) (i := 9) rfl with e | e
  · simp only [s_iadd, s_isub, s_imul, s_iand, s_ior, s_ixor, s_ishl, s_ishr, s_iushr, s_idiv, s_irem, s_ladd, s_lsub, s_lmul, s_ldiv, s_lrem, s_ineg, s_i2l, s_l2i, s_i2c, s_lcmp, s_ic, s_lc, s_nul, s_str, s_il, s_ll, s_al, s_dup, s_dup2, s_pop, s_ifne, s_icne, s_ifeq, s_iflt, s_ifge, s_ifgt, s_ifle, s_iceq, s_iclt, s_icge, s_icgt, s_icle, s_ifnull, s_ifnonnull, s_is, s_ls, s_as, s_ii, s_gi, s_gl, s_gr, s_pi, s_pz, s_pl, s_pr, s_iald, s_zald, s_lald, s_aald, s_alen, s_iast, s_zast, s_last, s_iret, s_zret, s_lret, s_aret, s_vret, s_sw, s_aast, mm_sw, mm_ld, mm_s1, mm_s2, mm_kl, Value.category, va_rf, List.nil_append, List.cons_append, Option.toList, true_and, and_true, and_self, true_or, or_true, eq_self, not_true_eq_false, false_implies, true_implies, not_false_eq_true, mm_10, mm_01, false_or, or_false, Nat.left_eq_add, Nat.add_eq_left, Nat.add_left_cancel_iff, Nat.reduceEqDiff, false_and, and_false, reduceIte, mm_kd_pi, mm_ln_pi, mm_gl_pi, mm_gr_pi, mm_sz_pi, mm_gi_pi, mm_kd_pl, mm_ln_pl, mm_gi_pl, mm_gr_pl, mm_sz_pl, mm_gl_pl, mm_kd_pr, mm_ln_pr, mm_gi_pr, mm_gl_pr, mm_sz_pr, mm_gr_pr, mm_kd_pa, mm_ln_pa, mm_gl_pa, mm_gr_pa, mm_sz_pa, mm_gi_pa, e, show oI none = -1 from rfl, show ((-1 : Int32) = 0) = False by decide]
    obtain ⟨u1, u2, u3, u4, u5, u6, u7, u8, u9⟩ := U
    refine k1 h p c z I (kd, S1, S2, tm, none) (R _ (Or.inl ⟨e, rfl⟩)) ⟨u1, u2, ⟨u3.1, by omega⟩, fun k hk2 => ?_⟩ F0 hp0
    by_cases q : k = i
    · subst q
      unfold cu
      rw [if_pos rfl]
      exact ⟨⟨u5, hk⟩, fun D q => by rw [u6]; exact hS1 D q, fun D q => by rw [u7]; exact hS2 D q, ⟨u8, htm⟩, fun _ => u9, fun D q => by cases q⟩
    · unfold cu
      rw [if_neg q]
      exact u4 k (by omega)
  · have pb := bb.2.2.2 (by rw [wq_k (by decide) e]; decide)
    simp only [s_iadd, s_isub, s_imul, s_iand, s_ior, s_ixor, s_ishl, s_ishr, s_iushr, s_idiv, s_irem, s_ladd, s_lsub, s_lmul, s_ldiv, s_lrem, s_ineg, s_i2l, s_l2i, s_i2c, s_lcmp, s_ic, s_lc, s_nul, s_str, s_il, s_ll, s_al, s_dup, s_dup2, s_pop, s_ifne, s_icne, s_ifeq, s_iflt, s_ifge, s_ifgt, s_ifle, s_iceq, s_iclt, s_icge, s_icgt, s_icle, s_ifnull, s_ifnonnull, s_is, s_ls, s_as, s_ii, s_gi, s_gl, s_gr, s_pi, s_pz, s_pl, s_pr, s_iald, s_zald, s_lald, s_aald, s_alen, s_iast, s_zast, s_last, s_iret, s_zret, s_lret, s_aret, s_vret, s_sw, s_aast, mm_sw, mm_ld, mm_s1, mm_s2, mm_kl, Value.category, va_rf, List.nil_append, List.cons_append, Option.toList, true_and, and_true, and_self, true_or, or_true, eq_self, not_true_eq_false, false_implies, true_implies, not_false_eq_true, mm_10, mm_01, false_or, or_false, Nat.left_eq_add, Nat.add_eq_left, Nat.add_left_cancel_iff, Nat.reduceEqDiff, false_and, and_false, reduceIte, mm_kd_pi, mm_ln_pi, mm_gl_pi, mm_gr_pi, mm_sz_pi, mm_gi_pi, mm_kd_pl, mm_ln_pl, mm_gi_pl, mm_gr_pl, mm_sz_pl, mm_gl_pl, mm_kd_pr, mm_ln_pr, mm_gi_pr, mm_gl_pr, mm_sz_pr, mm_gr_pr, mm_kd_pa, mm_ln_pa, mm_gl_pa, mm_gr_pa, mm_sz_pa, mm_gi_pa, e, show oI (some 0) = 0 from rfl, W_kd_56 H, W_s_56 H, W_gr_56_0 H, W_gr_56_1 H]
    refine c_X3_takeClause_149 (bb := (0, 0)) (b := (0, 0)) (Nat.le_of_ble_eq_true rfl) ⟨rfl, rfl⟩ (W_kd_57 H) (W_s_57 H) (CS_adv C (fun g1 F1 C1 => ?_))
    have H1 := C1.1
    have U1 := CU_rd U F1 C1 (by have := U.2.1; omega) (Nat.le_refl _) (fun _ _ => rfl)
    have i12 := U1.2.2.1.2
    have z4 := U1.2.1
    refine t_X3_takeClause_152 _ _ _ ?_
    simp only [s_iadd, s_isub, s_imul, s_iand, s_ior, s_ixor, s_ishl, s_ishr, s_iushr, s_idiv, s_irem, s_ladd, s_lsub, s_lmul, s_ldiv, s_lrem, s_ineg, s_i2l, s_l2i, s_i2c, s_lcmp, s_ic, s_lc, s_nul, s_str, s_il, s_ll, s_al, s_dup, s_dup2, s_pop, s_ifne, s_icne, s_ifeq, s_iflt, s_ifge, s_ifgt, s_ifle, s_iceq, s_iclt, s_icge, s_icgt, s_icle, s_ifnull, s_ifnonnull, s_is, s_ls, s_as, s_ii, s_gi, s_gl, s_gr, s_pi, s_pz, s_pl, s_pr, s_iald, s_zald, s_lald, s_aald, s_alen, s_iast, s_zast, s_last, s_iret, s_zret, s_lret, s_aret, s_vret, s_sw, s_aast, mm_sw, mm_ld, mm_s1, mm_s2, mm_kl, Value.category, va_rf, List.nil_append, List.cons_append, Option.toList, true_and, and_true, and_self, true_or, or_true, eq_self, not_true_eq_false, false_implies, true_implies, not_false_eq_true, mm_10, mm_01, false_or, or_false, Nat.left_eq_add, Nat.add_eq_left, Nat.add_left_cancel_iff, Nat.reduceEqDiff, false_and, and_false, reduceIte, mm_kd_pi, mm_ln_pi, mm_gl_pi, mm_gr_pi, mm_sz_pi, mm_gi_pi, mm_kd_pl, mm_ln_pl, mm_gi_pl, mm_gr_pl, mm_sz_pl, mm_gl_pl, mm_kd_pr, mm_ln_pr, mm_gi_pr, mm_gl_pr, mm_sz_pr, mm_gr_pr, mm_kd_pa, mm_ln_pa, mm_gl_pa, mm_gr_pa, mm_sz_pa, mm_gi_pa, W_kd_56 H1, W_s_56 H1, W_gr_56_0 H1, W_gr_56_1 H1, W_kd_58 H1, W_s_58 H1, W_gr_58_1 H1, W_gr_58_2 H1, W_gr_58_3 H1, W_gr_58_4 H1, W_gr_58_5 H1, W_gr_58_7 H1, W_gr_58_8 H1, W_kd_63 H1, W_s_63 H1, W_ln_63 H1, C1.2.2.2.2.2.2.1, nI_clamp (show i < 2 ^ 31 by omega), vp_in_nI (show i < 12 by omega) (show 12 < 2 ^ 31 by decide)]
    have C2 : CS o n t (mm_pi g1 63 i (nI z)) (tkb n t p) c z I := CS_wr (by omega) C1
    have F2 : fx xRt y0 g1 (mm_pi g1 63 i (nI z)) := fx_pi (by unfold xRt; omega) fx_rf
    have U2 : CU o n t (mm_pi g1 63 i (nI z)) (tkb n t p) c z I i cl (nI kd) a1 a2 (nI tm) (nI z) := by
      obtain ⟨u1, u2, u3, u4, u5, u6, u7, u8, u9⟩ := U1
      refine ⟨C2, u2, ⟨by rw [mm_gi_pi, if_neg (by omega)]; exact u3.1, u3.2⟩, fun k hk => CDc_mo (Nat.le_refl _) (fun _ _ => rfl) (fun c c1 c2 => by rw [mm_gi_pi, if_neg (by omega)]) (u4 k hk), ?_, ?_, ?_, ?_, ?_⟩
      · rw [mm_gi_pi, if_neg (by omega)]; exact u5
      · rw [mm_gi_pi, if_neg (by omega)]; exact u6
      · rw [mm_gi_pi, if_neg (by omega)]; exact u7
      · rw [mm_gi_pi, if_neg (by omega)]; exact u8
      · rw [mm_gi_pi, if_pos ⟨rfl, rfl⟩]
    generalize mm_pi g1 63 i (nI z) = g2 at C2 F2 U2 ⊢
    have H2 := C2.1
    refine c_X3_takeClause_171 (bb := (0, 0)) (b := (0, 0)) (Nat.le_of_ble_eq_true rfl) ⟨rfl, rfl⟩ (W_kd_56 H2) (W_s_56 H2) (go_tst (d := d + 4) (PC_PR o n t) g2 _ _ _ _ C2 (by omega) _ (fun g3 p3 c3 z3 I3 D x O T => ?_) (fun g3 f x O => ?_)) <;> refine t_X3_takeClause_174 _ _ _ ?_
    · have C3 := O.2.1
      have H3 := C3.1
      have O3 := O.2.2.1
      have p3n := C3.2.2.1.1
      have c35 := C3.2.2.1.2.2.1
      simp only [s_iadd, s_isub, s_imul, s_iand, s_ior, s_ixor, s_ishl, s_ishr, s_iushr, s_idiv, s_irem, s_ladd, s_lsub, s_lmul, s_ldiv, s_lrem, s_ineg, s_i2l, s_l2i, s_i2c, s_lcmp, s_ic, s_lc, s_nul, s_str, s_il, s_ll, s_al, s_dup, s_dup2, s_pop, s_ifne, s_icne, s_ifeq, s_iflt, s_ifge, s_ifgt, s_ifle, s_iceq, s_iclt, s_icge, s_icgt, s_icle, s_ifnull, s_ifnonnull, s_is, s_ls, s_as, s_ii, s_gi, s_gl, s_gr, s_pi, s_pz, s_pl, s_pr, s_iald, s_zald, s_lald, s_aald, s_alen, s_iast, s_zast, s_last, s_iret, s_zret, s_lret, s_aret, s_vret, s_sw, s_aast, mm_sw, mm_ld, mm_s1, mm_s2, mm_kl, Value.category, va_rf, List.nil_append, List.cons_append, Option.toList, true_and, and_true, and_self, true_or, or_true, eq_self, not_true_eq_false, false_implies, true_implies, not_false_eq_true, mm_10, mm_01, false_or, or_false, Nat.left_eq_add, Nat.add_eq_left, Nat.add_left_cancel_iff, Nat.reduceEqDiff, false_and, and_false, reduceIte, mm_kd_pi, mm_ln_pi, mm_gl_pi, mm_gr_pi, mm_sz_pi, mm_gi_pi, mm_kd_pl, mm_ln_pl, mm_gi_pl, mm_gr_pl, mm_sz_pl, mm_gl_pl, mm_kd_pr, mm_ln_pr, mm_gi_pr, mm_gl_pr, mm_sz_pr, mm_gr_pr, mm_kd_pa, mm_ln_pa, mm_gl_pa, mm_gr_pa, mm_sz_pa, mm_gi_pa, show ((1 : Int32) = 0) = False by decide, W_kd_56 H3, W_s_56 H3, W_gr_56_0 H3, W_gr_56_1 H3]
      refine c_X3_takeClause_185 (bb := (0, 0)) (b := (0, 0)) (Nat.le_of_ble_eq_true rfl) ⟨rfl, rfl⟩ (W_kd_58 H3) (W_s_58 H3) (CS_emit (x := (20, 0)) rfl rfl C3 (by omega) (fun g4 F4 C4 => ?_))
      refine t_X3_takeClause_188 _ _ _ ?_
      simp only [s_iadd, s_isub, s_imul, s_iand, s_ior, s_ixor, s_ishl, s_ishr, s_iushr, s_idiv, s_irem, s_ladd, s_lsub, s_lmul, s_ldiv, s_lrem, s_ineg, s_i2l, s_l2i, s_i2c, s_lcmp, s_ic, s_lc, s_nul, s_str, s_il, s_ll, s_al, s_dup, s_dup2, s_pop, s_ifne, s_icne, s_ifeq, s_iflt, s_ifge, s_ifgt, s_ifle, s_iceq, s_iclt, s_icge, s_icgt, s_icle, s_ifnull, s_ifnonnull, s_is, s_ls, s_as, s_ii, s_gi, s_gl, s_gr, s_pi, s_pz, s_pl, s_pr, s_iald, s_zald, s_lald, s_aald, s_alen, s_iast, s_zast, s_last, s_iret, s_zret, s_lret, s_aret, s_vret, s_sw, s_aast, mm_sw, mm_ld, mm_s1, mm_s2, mm_kl, Value.category, va_rf, List.nil_append, List.cons_append, Option.toList, true_and, and_true, and_self, true_or, or_true, eq_self, not_true_eq_false, false_implies, true_implies, not_false_eq_true, mm_10, mm_01, false_or, or_false, Nat.left_eq_add, Nat.add_eq_left, Nat.add_left_cancel_iff, Nat.reduceEqDiff, false_and, and_false, reduceIte, mm_kd_pi, mm_ln_pi, mm_gl_pi, mm_gr_pi, mm_sz_pi, mm_gi_pi, mm_kd_pl, mm_ln_pl, mm_gi_pl, mm_gr_pl, mm_sz_pl, mm_gl_pl, mm_kd_pr, mm_ln_pr, mm_gi_pr, mm_gl_pr, mm_sz_pr, mm_gr_pr, mm_kd_pa, mm_ln_pa, mm_gl_pa, mm_gr_pa, mm_sz_pa, mm_gi_pa]
      have U3 := CU_rd U2 O.1 C3 (by omega) O3.2.2.1 O.2.2.2.1
      have U4 := CU_rd U3 F4 C4 (by omega) (by omega) (fun j hj => iu_ne (by omega))
      obtain ⟨u1, u2, u3, u4, u5, u6, u7, u8, u9⟩ := U4
      have ag : ∀ j, j < z → iu I3 z3 (20, 0) j = I j := fun j hj => by rw [iu_ne (by omega)]; exact O.2.2.2.1 j hj
      refine k1 g4 p3 c3 (z3 + 1) _ (kd, S1, S2, tm, some D) (R _ (Or.inr ⟨e, Or.inr ⟨p3, c3, D, x, rfl⟩⟩)) ⟨u1, u2, ⟨u3.1, by omega⟩, fun k hk2 => ?_⟩ (fx_tr F0 (fx_tr (rd_rt F1) (fx_tr F2 (rd_rt (fx_tr O.1 F4))))) (by omega)
      by_cases q : k = i
      · subst q
        unfold cu
        rw [if_pos rfl]
        refine ⟨⟨u5, hk⟩, fun D q => by rw [u6]; exact cEx_mo (by omega) ag (hS1 D q), fun D q => by rw [u7]; exact cEx_mo (by omega) ag (hS2 D q), ⟨u8, htm⟩, fun q => (by cases q), fun D' q => ?_⟩
        obtain rfl : D = D' := Option.some.inj q
        refine ⟨⟨z, z3, c3 - c, u9, by omega, by rw [iu_eq], by omega, xP_cg (fun j _ j2 => iu_ne (by omega)) O.2.2.2.2⟩, T (Or.inl (by decide))⟩
      · unfold cu
        rw [if_neg q]
        exact u4 k (by omega)
    · simp only [s_iadd, s_isub, s_imul, s_iand, s_ior, s_ixor, s_ishl, s_ishr, s_iushr, s_idiv, s_irem, s_ladd, s_lsub, s_lmul, s_ldiv, s_lrem, s_ineg, s_i2l, s_l2i, s_i2c, s_lcmp, s_ic, s_lc, s_nul, s_str, s_il, s_ll, s_al, s_dup, s_dup2, s_pop, s_ifne, s_icne, s_ifeq, s_iflt, s_ifge, s_ifgt, s_ifle, s_iceq, s_iclt, s_icge, s_icgt, s_icle, s_ifnull, s_ifnonnull, s_is, s_ls, s_as, s_ii, s_gi, s_gl, s_gr, s_pi, s_pz, s_pl, s_pr, s_iald, s_zald, s_lald, s_aald, s_alen, s_iast, s_zast, s_last, s_iret, s_zret, s_lret, s_aret, s_vret, s_sw, s_aast, mm_sw, mm_ld, mm_s1, mm_s2, mm_kl, Value.category, va_rf, List.nil_append, List.cons_append, Option.toList, true_and, and_true, and_self, true_or, or_true, eq_self, not_true_eq_false, false_implies, true_implies, not_false_eq_true, mm_10, mm_01, false_or, or_false, Nat.left_eq_add, Nat.add_eq_left, Nat.add_left_cancel_iff, Nat.reduceEqDiff, false_and, and_false, reduceIte, mm_kd_pi, mm_ln_pi, mm_gl_pi, mm_gr_pi, mm_sz_pi, mm_gi_pi, mm_kd_pl, mm_ln_pl, mm_gi_pl, mm_gr_pl, mm_sz_pl, mm_gl_pl, mm_kd_pr, mm_ln_pr, mm_gi_pr, mm_gl_pr, mm_sz_pr, mm_gr_pr, mm_kd_pa, mm_ln_pa, mm_gl_pa, mm_gr_pa, mm_sz_pa, mm_gi_pa]
      exact k0 g3 f (R _ (Or.inr ⟨e, Or.inl ⟨f, x, rfl⟩⟩)) (fx_tr F0 (fx_tr (rd_rt F1) (fx_tr F2 (rd_rt O.1)))) O.2.1 O.2.2.1
end
