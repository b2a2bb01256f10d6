/-! the token as a function of the tape and the place, and how the class finds it -/
def tks (n : Nat) (t : Nat → Nat) (p : Nat) : Nat := bkF t (n - p) p
def tkk (n : Nat) (t : Nat → Nat) (p : Nat) : Nat := if tks n t p < n then kO (t (tks n t p)) else 0
def tkr (n : Nat) (t : Nat → Nat) (p : Nat) : Nat × Nat := if tkk n t p = 0 then (tks n t p, 0) else if tkk n t p = 3 then (tks n t p + 1, t (tks n t p)) else rwF t (tkk n t p) (n - (tks n t p + 1)) (tks n t p + 1) (if tkk n t p = 2 then t (tks n t p) - 48 else 0)
abbrev tkb (n : Nat) (t : Nat → Nat) (p : Nat) : Nat := (tkr n t p).1
abbrev tkv (n : Nat) (t : Nat → Nat) (p : Nat) : Nat := (tkr n t p).2
theorem kO_r (v : Nat) : 1 ≤ kO v ∧ kO v ≤ 3 := by unfold kO; split <;> (try split) <;> omega
theorem rwF_le {t : Nat → Nat} {kd : Nat} : ∀ m p v, p ≤ (rwF t kd m p v).1 ∧ (rwF t kd m p v).1 ≤ p + m
  | 0, p, v => ⟨Nat.le_refl _, Nat.le_refl _⟩
  | m + 1, p, v => by
    rw [rwF]
    have := rwF_le (t := t) (kd := kd) m (p + 1) (vlN kd v (t p))
    split <;> simp <;> omega
theorem tks_le {n : Nat} {t : Nat → Nat} {p : Nat} (h : p ≤ n) : p ≤ tks n t p ∧ tks n t p ≤ n := by
  have := bkF_le (t := t) (n - p) p
  unfold tks
  omega
theorem tkk_le {n : Nat} {t : Nat → Nat} {p : Nat} : tkk n t p ≤ 3 := by
  unfold tkk
  have := kO_r (t (tks n t p))
  split <;> omega
theorem tkk_0 {n : Nat} {t : Nat → Nat} {p : Nat} : tkk n t p = 0 ↔ ¬ tks n t p < n := by
  unfold tkk
  have := kO_r (t (tks n t p))
  split <;> omega
theorem tkb_le {n : Nat} {t : Nat → Nat} {p : Nat} (h : p ≤ n) : tks n t p ≤ tkb n t p ∧ tkb n t p ≤ n ∧ (tkk n t p ≠ 0 → tks n t p < tkb n t p) := by
  have a := tks_le (t := t) h
  have b := tkk_0 (n := n) (t := t) (p := p)
  unfold tkb tkr
  split
  · simp; omega
  · split
    · simp; omega
    · have := rwF_le (t := t) (kd := tkk n t p) (n - (tks n t p + 1)) (tks n t p + 1) (if tkk n t p = 2 then t (tks n t p) - 48 else 0)
      omega
/-- the class stands at the token that begins at p -/
def TKc (h : mmH) (n : Nat) (t : Nat → Nat) (p : Nat) : Prop := mm_gi h 57 1 = nI (tkk n t p) ∧ mm_gi h 57 2 = nI (tks n t p) ∧ mm_gi h 57 3 = nI (tkb n t p) ∧ mm_gi h 57 4 = nI (tkv n t p)
def xtk (c _j : Nat) : Prop := c = 57
section
variable {d : Nat} {h : mmH} {K : Option Value → mmH → Prop} {n : Nat} {t : Nat → Nat} {p : Nat}
theorem TPE_fx {X : Nat → Nat → Prop} {Y : Nat → Prop} {g : mmH} (hX : ∀ j, ¬ X 54 j ∧ ¬ X 55 j) (F : fx X Y h g) (T : TPE h n t) : TPE g n t :=
  ⟨T.1, (F.2.1 54 1 (hX 1).1).trans T.2.1, fun i hi => ⟨(T.2.2 i hi).1, (F.2.1 55 i (hX i).2).trans (T.2.2 i hi).2⟩⟩
theorem sp_advance (H : WS h) (T : TPE h n t) (hp : p ≤ n) (e3 : mm_gi h 57 3 = nI p) (k : ∀ g, fx xtk y0 h g → TKc g n t p → K none g) : mm_MV q_X7_advance (d + 1) (0, 0) [.ref 57] h K := by
  have n4 := T.1
  have sle := tks_le (t := t) hp
  have fin : ∀ g z, fx xtk y0 h g → mm_gi g 57 1 = nI (tkk n t p) → mm_gi g 57 2 = nI (tks n t p) → mm_gi g 57 4 = nI (tkv n t p) → mm_V q_X7_advance (d + 1) (0, 0) K 233 [some (.ref 57), some (.int (nI (tkb n t p))), z] [] g := by
    intro g z F a1 a2 a4
    have Hg := fx_WS F H
    refine t_X7_advance_233 _ _ _ ?_
    simp only [s_iadd, s_isub, s_imul, s_iand, s_ior, s_ixor, s_ishl, s_ishr, s_iushr, s_idiv, s_irem, s_ladd, s_lsub, s_lmul, s_ldiv, s_lrem, s_ineg, s_i2l, s_l2i, s_i2c, s_lcmp, s_ic, s_lc, s_nul, s_str, s_il, s_ll, s_al, s_dup, s_dup2, s_pop, s_ifne, s_icne, s_ifeq, s_iflt, s_ifge, s_ifgt, s_ifle, s_iceq, s_iclt, s_icge, s_icgt, s_icle, s_ifnull, s_ifnonnull, s_is, s_ls, s_as, s_ii, s_gi, s_gl, s_gr, s_pi, s_pz, s_pl, s_pr, s_iald, s_zald, s_lald, s_aald, s_alen, s_iast, s_zast, s_last, s_iret, s_zret, s_lret, s_aret, s_vret, s_sw, s_aast, mm_sw, mm_ld, mm_s1, mm_s2, mm_kl, Value.category, va_rf, List.nil_append, List.cons_append, Option.toList, true_and, and_true, and_self, true_or, or_true, eq_self, not_true_eq_false, false_implies, true_implies, not_false_eq_true, mm_10, mm_01, false_or, or_false, Nat.left_eq_add, Nat.add_eq_left, Nat.add_left_cancel_iff, Nat.reduceEqDiff, false_and, and_false, reduceIte, mm_kd_pi, mm_ln_pi, mm_gl_pi, mm_gr_pi, mm_sz_pi, mm_gi_pi, mm_kd_pl, mm_ln_pl, mm_gi_pl, mm_gr_pl, mm_sz_pl, mm_gl_pl, mm_kd_pr, mm_ln_pr, mm_gi_pr, mm_gl_pr, mm_sz_pr, mm_gr_pr, mm_kd_pa, mm_ln_pa, mm_gl_pa, mm_gr_pa, mm_sz_pa, mm_gi_pa, W_kd_57 Hg, W_s_57 Hg, W_gr_57_0 Hg]
    refine k _ (fx_pi rfl F) ⟨?_, ?_, ?_, ?_⟩
    · rw [mm_gi_pi, if_neg (by decide)]; exact a1
    · rw [mm_gi_pi, if_neg (by decide)]; exact a2
    · rw [mm_gi_pi, if_pos ⟨rfl, rfl⟩]
    · rw [mm_gi_pi, if_neg (by decide)]; exact a4
  refine e_X7_advance (t_X7_advance_0 _ _ _ ?_)
  simp only [s_iadd, s_isub, s_imul, s_iand, s_ior, s_ixor, s_ishl, s_ishr, s_iushr, s_idiv, s_irem, s_ladd, s_lsub, s_lmul, s_ldiv, s_lrem, s_ineg, s_i2l, s_l2i, s_i2c, s_lcmp, s_ic, s_lc, s_nul, s_str, s_il, s_ll, s_al, s_dup, s_dup2, s_pop, s_ifne, s_icne, s_ifeq, s_iflt, s_ifge, s_ifgt, s_ifle, s_iceq, s_iclt, s_icge, s_icgt, s_icle, s_ifnull, s_ifnonnull, s_is, s_ls, s_as, s_ii, s_gi, s_gl, s_gr, s_pi, s_pz, s_pl, s_pr, s_iald, s_zald, s_lald, s_aald, s_alen, s_iast, s_zast, s_last, s_iret, s_zret, s_lret, s_aret, s_vret, s_sw, s_aast, mm_sw, mm_ld, mm_s1, mm_s2, mm_kl, Value.category, va_rf, List.nil_append, List.cons_append, Option.toList, true_and, and_true, and_self, true_or, or_true, eq_self, not_true_eq_false, false_implies, true_implies, not_false_eq_true, mm_10, mm_01, false_or, or_false, Nat.left_eq_add, Nat.add_eq_left, Nat.add_left_cancel_iff, Nat.reduceEqDiff, false_and, and_false, reduceIte, mm_kd_pi, mm_ln_pi, mm_gl_pi, mm_gr_pi, mm_sz_pi, mm_gi_pi, mm_kd_pl, mm_ln_pl, mm_gi_pl, mm_gr_pl, mm_sz_pl, mm_gl_pl, mm_kd_pr, mm_ln_pr, mm_gi_pr, mm_gl_pr, mm_sz_pr, mm_gr_pr, mm_kd_pa, mm_ln_pa, mm_gl_pa, mm_gr_pa, mm_sz_pa, mm_gi_pa, W_kd_57 H, W_s_57 H, W_gr_57_0 H, e3]
  refine lp_blank H T (n - p) p (by omega) ?_
  show mm_V q_X7_advance (d + 1) (0, 0) K 36 [some (.ref 57), some (.int (nI (tks n t p))), none] [] h
  -- from 106 on
  have tail : ∀ g q v0, fx xtk y0 h g → mm_gi g 57 1 = nI (tkk n t p) → mm_gi g 57 2 = nI (tks n t p) → mm_gi g 57 4 = nI v0 → (tkk n t p = 0 → q = tks n t p ∧ v0 = 0) → (tkk n t p = 3 → q = tks n t p + 1 ∧ v0 = t (tks n t p)) → (tkk n t p = 1 ∨ tkk n t p = 2 → q = tks n t p + 1 ∧ v0 = 0) → mm_V q_X7_advance (d + 1) (0, 0) K 106 [some (.ref 57), some (.int (nI q)), none] [] g := by
    intro g q v0 F a1 a2 a4 c0 c3 c1
    have Hg := fx_WS F H
    have Tg : TPE g n t := TPE_fx (fun j => ⟨by unfold xtk; decide, by unfold xtk; decide⟩) F T
    have kl := tkk_le (n := n) (t := t) (p := p)
    by_cases z2 : tkk n t p = 2
    · obtain ⟨rfl, rfl⟩ := c1 (Or.inr z2)
      have z0 : tks n t p < n := by
        have := tkk_0 (n := n) (t := t) (p := p)
        omega
      obtain ⟨t1, t2⟩ := Tg.2.2 (tks n t p) z0
      have dg : 48 ≤ t (tks n t p) ∧ t (tks n t p) ≤ 57 := kO_2 (by rw [← z2, tkk, if_pos z0])
      refine t_X7_advance_106 _ _ _ ?_
      simp only [s_iadd, s_isub, s_imul, s_iand, s_ior, s_ixor, s_ishl, s_ishr, s_iushr, s_idiv, s_irem, s_ladd, s_lsub, s_lmul, s_ldiv, s_lrem, s_ineg, s_i2l, s_l2i, s_i2c, s_lcmp, s_ic, s_lc, s_nul, s_str, s_il, s_ll, s_al, s_dup, s_dup2, s_pop, s_ifne, s_icne, s_ifeq, s_iflt, s_ifge, s_ifgt, s_ifle, s_iceq, s_iclt, s_icge, s_icgt, s_icle, s_ifnull, s_ifnonnull, s_is, s_ls, s_as, s_ii, s_gi, s_gl, s_gr, s_pi, s_pz, s_pl, s_pr, s_iald, s_zald, s_lald, s_aald, s_alen, s_iast, s_zast, s_last, s_iret, s_zret, s_lret, s_aret, s_vret, s_sw, s_aast, mm_sw, mm_ld, mm_s1, mm_s2, mm_kl, Value.category, va_rf, List.nil_append, List.cons_append, Option.toList, true_and, and_true, and_self, true_or, or_true, eq_self, not_true_eq_false, false_implies, true_implies, not_false_eq_true, mm_10, mm_01, false_or, or_false, Nat.left_eq_add, Nat.add_eq_left, Nat.add_left_cancel_iff, Nat.reduceEqDiff, false_and, and_false, reduceIte, mm_kd_pi, mm_ln_pi, mm_gl_pi, mm_gr_pi, mm_sz_pi, mm_gi_pi, mm_kd_pl, mm_ln_pl, mm_gi_pl, mm_gr_pl, mm_sz_pl, mm_gl_pl, mm_kd_pr, mm_ln_pr, mm_gi_pr, mm_gl_pr, mm_sz_pr, mm_gr_pr, mm_kd_pa, mm_ln_pa, mm_gl_pa, mm_gr_pa, mm_sz_pa, mm_gi_pa, W_kd_57 Hg, W_s_57 Hg, W_gr_57_0 Hg, W_kd_54 Hg, W_s_54 Hg, W_gr_54_0 Hg, W_kd_55 Hg, W_s_55 Hg, W_ln_55 Hg, a1, a2, z2, show (nI 2 = (2 : Int32)) = True by decide, nI_clamp (show tks n t p < 2 ^ 31 by omega), vp_in_nI (show tks n t p < 400 by omega) (show 400 < 2 ^ 31 by decide), t2]
      have ev : nI (t (tks n t p)) - 48 = nI (t (tks n t p) - 48) := by rw [show (48 : Int32) = nI 48 from rfl, pk_sub (by omega)]
      rw [ev]
      have F2 : fx xtk y0 h (mm_pi g 57 4 (nI (t (tks n t p) - 48))) := fx_pi rfl F
      have Hg2 := fx_WS F2 H
      have b1 : mm_gi (mm_pi g 57 4 (nI (t (tks n t p) - 48))) 57 1 = nI (tkk n t p) := by rw [mm_gi_pi, if_neg (by decide)]; exact a1
      have b2 : mm_gi (mm_pi g 57 4 (nI (t (tks n t p) - 48))) 57 2 = nI (tks n t p) := by rw [mm_gi_pi, if_neg (by decide)]; exact a2
      have b4 : mm_gi (mm_pi g 57 4 (nI (t (tks n t p) - 48))) 57 4 = nI (t (tks n t p) - 48) := by rw [mm_gi_pi, if_pos ⟨rfl, rfl⟩]
      generalize mm_pi g 57 4 (nI (t (tks n t p) - 48)) = g2 at F2 Hg2 b1 b2 b4 ⊢
      have Tg2 : TPE g2 n t := TPE_fx (fun j => ⟨by unfold xtk; decide, by unfold xtk; decide⟩) F2 T
      refine t_X7_advance_133 _ _ _ ?_
      simp only [s_iadd, s_isub, s_imul, s_iand, s_ior, s_ixor, s_ishl, s_ishr, s_iushr, s_idiv, s_irem, s_ladd, s_lsub, s_lmul, s_ldiv, s_lrem, s_ineg, s_i2l, s_l2i, s_i2c, s_lcmp, s_ic, s_lc, s_nul, s_str, s_il, s_ll, s_al, s_dup, s_dup2, s_pop, s_ifne, s_icne, s_ifeq, s_iflt, s_ifge, s_ifgt, s_ifle, s_iceq, s_iclt, s_icge, s_icgt, s_icle, s_ifnull, s_ifnonnull, s_is, s_ls, s_as, s_ii, s_gi, s_gl, s_gr, s_pi, s_pz, s_pl, s_pr, s_iald, s_zald, s_lald, s_aald, s_alen, s_iast, s_zast, s_last, s_iret, s_zret, s_lret, s_aret, s_vret, s_sw, s_aast, mm_sw, mm_ld, mm_s1, mm_s2, mm_kl, Value.category, va_rf, List.nil_append, List.cons_append, Option.toList, true_and, and_true, and_self, true_or, or_true, eq_self, not_true_eq_false, false_implies, true_implies, not_false_eq_true, mm_10, mm_01, false_or, or_false, Nat.left_eq_add, Nat.add_eq_left, Nat.add_left_cancel_iff, Nat.reduceEqDiff, false_and, and_false, reduceIte, mm_kd_pi, mm_ln_pi, mm_gl_pi, mm_gr_pi, mm_sz_pi, mm_gi_pi, mm_kd_pl, mm_ln_pl, mm_gi_pl, mm_gr_pl, mm_sz_pl, mm_gl_pl, mm_kd_pr, mm_ln_pr, mm_gi_pr, mm_gl_pr, mm_sz_pr, mm_gr_pr, mm_kd_pa, mm_ln_pa, mm_gl_pa, mm_gr_pa, mm_sz_pa, mm_gi_pa, W_kd_57 Hg2, W_s_57 Hg2, W_gr_57_0 Hg2, b1, z2, show (nI 2 = (1 : Int32)) = False by decide, show (nI 2 = (2 : Int32)) = True by decide]
      refine t_X7_advance_149 _ _ _ ?_
      simp only [s_iadd, s_isub, s_imul, s_iand, s_ior, s_ixor, s_ishl, s_ishr, s_iushr, s_idiv, s_irem, s_ladd, s_lsub, s_lmul, s_ldiv, s_lrem, s_ineg, s_i2l, s_l2i, s_i2c, s_lcmp, s_ic, s_lc, s_nul, s_str, s_il, s_ll, s_al, s_dup, s_dup2, s_pop, s_ifne, s_icne, s_ifeq, s_iflt, s_ifge, s_ifgt, s_ifle, s_iceq, s_iclt, s_icge, s_icgt, s_icle, s_ifnull, s_ifnonnull, s_is, s_ls, s_as, s_ii, s_gi, s_gl, s_gr, s_pi, s_pz, s_pl, s_pr, s_iald, s_zald, s_lald, s_aald, s_alen, s_iast, s_zast, s_last, s_iret, s_zret, s_lret, s_aret, s_vret, s_sw, s_aast, mm_sw, mm_ld, mm_s1, mm_s2, mm_kl, Value.category, va_rf, List.nil_append, List.cons_append, Option.toList, true_and, and_true, and_self, true_or, or_true, eq_self, not_true_eq_false, false_implies, true_implies, not_false_eq_true, mm_10, mm_01, false_or, or_false, Nat.left_eq_add, Nat.add_eq_left, Nat.add_left_cancel_iff, Nat.reduceEqDiff, false_and, and_false, reduceIte, mm_kd_pi, mm_ln_pi, mm_gl_pi, mm_gr_pi, mm_sz_pi, mm_gi_pi, mm_kd_pl, mm_ln_pl, mm_gi_pl, mm_gr_pl, mm_sz_pl, mm_gl_pl, mm_kd_pr, mm_ln_pr, mm_gi_pr, mm_gl_pr, mm_sz_pr, mm_gr_pr, mm_kd_pa, mm_ln_pa, mm_gl_pa, mm_gr_pa, mm_sz_pa, mm_gi_pa]
      refine t_X7_advance_154 _ _ _ ?_
      simp only [s_iadd, s_isub, s_imul, s_iand, s_ior, s_ixor, s_ishl, s_ishr, s_iushr, s_idiv, s_irem, s_ladd, s_lsub, s_lmul, s_ldiv, s_lrem, s_ineg, s_i2l, s_l2i, s_i2c, s_lcmp, s_ic, s_lc, s_nul, s_str, s_il, s_ll, s_al, s_dup, s_dup2, s_pop, s_ifne, s_icne, s_ifeq, s_iflt, s_ifge, s_ifgt, s_ifle, s_iceq, s_iclt, s_icge, s_icgt, s_icle, s_ifnull, s_ifnonnull, s_is, s_ls, s_as, s_ii, s_gi, s_gl, s_gr, s_pi, s_pz, s_pl, s_pr, s_iald, s_zald, s_lald, s_aald, s_alen, s_iast, s_zast, s_last, s_iret, s_zret, s_lret, s_aret, s_vret, s_sw, s_aast, mm_sw, mm_ld, mm_s1, mm_s2, mm_kl, Value.category, va_rf, List.nil_append, List.cons_append, Option.toList, true_and, and_true, and_self, true_or, or_true, eq_self, not_true_eq_false, false_implies, true_implies, not_false_eq_true, mm_10, mm_01, false_or, or_false, Nat.left_eq_add, Nat.add_eq_left, Nat.add_left_cancel_iff, Nat.reduceEqDiff, false_and, and_false, reduceIte, mm_kd_pi, mm_ln_pi, mm_gl_pi, mm_gr_pi, mm_sz_pi, mm_gi_pi, mm_kd_pl, mm_ln_pl, mm_gi_pl, mm_gr_pl, mm_sz_pl, mm_gl_pl, mm_kd_pr, mm_ln_pr, mm_gi_pr, mm_gl_pr, mm_sz_pr, mm_gr_pr, mm_kd_pa, mm_ln_pa, mm_gl_pa, mm_gr_pa, mm_sz_pa, mm_gi_pa]
      refine lp_tkrow Hg2 Tg2 (Or.inr rfl) (by rw [b1, z2]) (n - (tks n t p + 1)) (tks n t p + 1) (t (tks n t p) - 48) g2 (by omega) (by omega) fx_rf b4 (fun g3 F3 d4 => ?_)
      have er : tkr n t p = rwF t 2 (n - (tks n t p + 1)) (tks n t p + 1) (t (tks n t p) - 48) := by
        rw [tkr, if_neg (by omega), if_neg (by omega), z2, if_pos rfl]
      have F4 := fx_tr F2 (fx_mo (fun c j z => z.1) (fun c z => z) F3)
      have := fin g3 (some (.int 1)) F4 ((F3.2.1 57 1 (by unfold x57; omega)).trans b1) ((F3.2.1 57 2 (by unfold x57; omega)).trans b2) (by rw [d4]; unfold tkv; rw [er])
      unfold tkb at this
      rw [er] at this
      exact this
    · by_cases z1 : tkk n t p = 1
      · obtain ⟨rfl, rfl⟩ := c1 (Or.inl z1)
        have z0 : tks n t p < n := by
          have := tkk_0 (n := n) (t := t) (p := p)
          omega
        refine t_X7_advance_106 _ _ _ ?_
        simp only [s_iadd, s_isub, s_imul, s_iand, s_ior, s_ixor, s_ishl, s_ishr, s_iushr, s_idiv, s_irem, s_ladd, s_lsub, s_lmul, s_ldiv, s_lrem, s_ineg, s_i2l, s_l2i, s_i2c, s_lcmp, s_ic, s_lc, s_nul, s_str, s_il, s_ll, s_al, s_dup, s_dup2, s_pop, s_ifne, s_icne, s_ifeq, s_iflt, s_ifge, s_ifgt, s_ifle, s_iceq, s_iclt, s_icge, s_icgt, s_icle, s_ifnull, s_ifnonnull, s_is, s_ls, s_as, s_ii, s_gi, s_gl, s_gr, s_pi, s_pz, s_pl, s_pr, s_iald, s_zald, s_lald, s_aald, s_alen, s_iast, s_zast, s_last, s_iret, s_zret, s_lret, s_aret, s_vret, s_sw, s_aast, mm_sw, mm_ld, mm_s1, mm_s2, mm_kl, Value.category, va_rf, List.nil_append, List.cons_append, Option.toList, true_and, and_true, and_self, true_or, or_true, eq_self, not_true_eq_false, false_implies, true_implies, not_false_eq_true, mm_10, mm_01, false_or, or_false, Nat.left_eq_add, Nat.add_eq_left, Nat.add_left_cancel_iff, Nat.reduceEqDiff, false_and, and_false, reduceIte, mm_kd_pi, mm_ln_pi, mm_gl_pi, mm_gr_pi, mm_sz_pi, mm_gi_pi, mm_kd_pl, mm_ln_pl, mm_gi_pl, mm_gr_pl, mm_sz_pl, mm_gl_pl, mm_kd_pr, mm_ln_pr, mm_gi_pr, mm_gl_pr, mm_sz_pr, mm_gr_pr, mm_kd_pa, mm_ln_pa, mm_gl_pa, mm_gr_pa, mm_sz_pa, mm_gi_pa, W_kd_57 Hg, W_s_57 Hg, W_gr_57_0 Hg, a1, z1, show (nI 1 = (2 : Int32)) = False by decide]
        refine t_X7_advance_133 _ _ _ ?_
        simp only [s_iadd, s_isub, s_imul, s_iand, s_ior, s_ixor, s_ishl, s_ishr, s_iushr, s_idiv, s_irem, s_ladd, s_lsub, s_lmul, s_ldiv, s_lrem, s_ineg, s_i2l, s_l2i, s_i2c, s_lcmp, s_ic, s_lc, s_nul, s_str, s_il, s_ll, s_al, s_dup, s_dup2, s_pop, s_ifne, s_icne, s_ifeq, s_iflt, s_ifge, s_ifgt, s_ifle, s_iceq, s_iclt, s_icge, s_icgt, s_icle, s_ifnull, s_ifnonnull, s_is, s_ls, s_as, s_ii, s_gi, s_gl, s_gr, s_pi, s_pz, s_pl, s_pr, s_iald, s_zald, s_lald, s_aald, s_alen, s_iast, s_zast, s_last, s_iret, s_zret, s_lret, s_aret, s_vret, s_sw, s_aast, mm_sw, mm_ld, mm_s1, mm_s2, mm_kl, Value.category, va_rf, List.nil_append, List.cons_append, Option.toList, true_and, and_true, and_self, true_or, or_true, eq_self, not_true_eq_false, false_implies, true_implies, not_false_eq_true, mm_10, mm_01, false_or, or_false, Nat.left_eq_add, Nat.add_eq_left, Nat.add_left_cancel_iff, Nat.reduceEqDiff, false_and, and_false, reduceIte, mm_kd_pi, mm_ln_pi, mm_gl_pi, mm_gr_pi, mm_sz_pi, mm_gi_pi, mm_kd_pl, mm_ln_pl, mm_gi_pl, mm_gr_pl, mm_sz_pl, mm_gl_pl, mm_kd_pr, mm_ln_pr, mm_gi_pr, mm_gl_pr, mm_sz_pr, mm_gr_pr, mm_kd_pa, mm_ln_pa, mm_gl_pa, mm_gr_pa, mm_sz_pa, mm_gi_pa, W_kd_57 Hg, W_s_57 Hg, W_gr_57_0 Hg, a1, z1, show (nI 1 = (1 : Int32)) = True by decide]
        refine t_X7_advance_149 _ _ _ ?_
        simp only [s_iadd, s_isub, s_imul, s_iand, s_ior, s_ixor, s_ishl, s_ishr, s_iushr, s_idiv, s_irem, s_ladd, s_lsub, s_lmul, s_ldiv, s_lrem, s_ineg, s_i2l, s_l2i, s_i2c, s_lcmp, s_ic, s_lc, s_nul, s_str, s_il, s_ll, s_al, s_dup, s_dup2, s_pop, s_ifne, s_icne, s_ifeq, s_iflt, s_ifge, s_ifgt, s_ifle, s_iceq, s_iclt, s_icge, s_icgt, s_icle, s_ifnull, s_ifnonnull, s_is, s_ls, s_as, s_ii, s_gi, s_gl, s_gr, s_pi, s_pz, s_pl, s_pr, s_iald, s_zald, s_lald, s_aald, s_alen, s_iast, s_zast, s_last, s_iret, s_zret, s_lret, s_aret, s_vret, s_sw, s_aast, mm_sw, mm_ld, mm_s1, mm_s2, mm_kl, Value.category, va_rf, List.nil_append, List.cons_append, Option.toList, true_and, and_true, and_self, true_or, or_true, eq_self, not_true_eq_false, false_implies, true_implies, not_false_eq_true, mm_10, mm_01, false_or, or_false, Nat.left_eq_add, Nat.add_eq_left, Nat.add_left_cancel_iff, Nat.reduceEqDiff, false_and, and_false, reduceIte, mm_kd_pi, mm_ln_pi, mm_gl_pi, mm_gr_pi, mm_sz_pi, mm_gi_pi, mm_kd_pl, mm_ln_pl, mm_gi_pl, mm_gr_pl, mm_sz_pl, mm_gl_pl, mm_kd_pr, mm_ln_pr, mm_gi_pr, mm_gl_pr, mm_sz_pr, mm_gr_pr, mm_kd_pa, mm_ln_pa, mm_gl_pa, mm_gr_pa, mm_sz_pa, mm_gi_pa]
        refine t_X7_advance_154 _ _ _ ?_
        simp only [s_iadd, s_isub, s_imul, s_iand, s_ior, s_ixor, s_ishl, s_ishr, s_iushr, s_idiv, s_irem, s_ladd, s_lsub, s_lmul, s_ldiv, s_lrem, s_ineg, s_i2l, s_l2i, s_i2c, s_lcmp, s_ic, s_lc, s_nul, s_str, s_il, s_ll, s_al, s_dup, s_dup2, s_pop, s_ifne, s_icne, s_ifeq, s_iflt, s_ifge, s_ifgt, s_ifle, s_iceq, s_iclt, s_icge, s_icgt, s_icle, s_ifnull, s_ifnonnull, s_is, s_ls, s_as, s_ii, s_gi, s_gl, s_gr, s_pi, s_pz, s_pl, s_pr, s_iald, s_zald, s_lald, s_aald, s_alen, s_iast, s_zast, s_last, s_iret, s_zret, s_lret, s_aret, s_vret, s_sw, s_aast, mm_sw, mm_ld, mm_s1, mm_s2, mm_kl, Value.category, va_rf, List.nil_append, List.cons_append, Option.toList, true_and, and_true, and_self, true_or, or_true, eq_self, not_true_eq_false, false_implies, true_implies, not_false_eq_true, mm_10, mm_01, false_or, or_false, Nat.left_eq_add, Nat.add_eq_left, Nat.add_left_cancel_iff, Nat.reduceEqDiff, false_and, and_false, reduceIte, mm_kd_pi, mm_ln_pi, mm_gl_pi, mm_gr_pi, mm_sz_pi, mm_gi_pi, mm_kd_pl, mm_ln_pl, mm_gi_pl, mm_gr_pl, mm_sz_pl, mm_gl_pl, mm_kd_pr, mm_ln_pr, mm_gi_pr, mm_gl_pr, mm_sz_pr, mm_gr_pr, mm_kd_pa, mm_ln_pa, mm_gl_pa, mm_gr_pa, mm_sz_pa, mm_gi_pa]
        refine lp_tkrow Hg Tg (Or.inl rfl) (by rw [a1, z1]) (n - (tks n t p + 1)) (tks n t p + 1) 0 g (by omega) (by omega) fx_rf a4 (fun g3 F3 d4 => ?_)
        have er : tkr n t p = rwF t 1 (n - (tks n t p + 1)) (tks n t p + 1) 0 := by
          rw [tkr, if_neg (by omega), if_neg (by omega), z1, if_neg (by decide)]
        have F4 := fx_tr F (fx_mo (fun c j z => z.1) (fun c z => z) F3)
        have := fin g3 (some (.int 1)) F4 ((F3.2.1 57 1 (by unfold x57; omega)).trans a1) ((F3.2.1 57 2 (by unfold x57; omega)).trans a2) (by rw [d4]; unfold tkv; rw [er])
        unfold tkb at this
        rw [er] at this
        exact this
      · have ne2 : (nI (tkk n t p) = (2 : Int32)) = False := eq_false (fun q => z2 ((nI_eq (b := 2) (by omega) (by decide)).mp q))
        have ne1 : (nI (tkk n t p) = (1 : Int32)) = False := eq_false (fun q => z1 ((nI_eq (b := 1) (by omega) (by decide)).mp q))
        have last : q = tkb n t p ∧ v0 = tkv n t p := by
          unfold tkb tkv tkr
          by_cases z0 : tkk n t p = 0
          · rw [if_pos z0]; exact c0 z0
          · rw [if_neg z0, if_pos (by omega)]; exact c3 (by omega)
        obtain ⟨rfl, rfl⟩ := last
        refine t_X7_advance_106 _ _ _ ?_
        simp only [s_iadd, s_isub, s_imul, s_iand, s_ior, s_ixor, s_ishl, s_ishr, s_iushr, s_idiv, s_irem, s_ladd, s_lsub, s_lmul, s_ldiv, s_lrem, s_ineg, s_i2l, s_l2i, s_i2c, s_lcmp, s_ic, s_lc, s_nul, s_str, s_il, s_ll, s_al, s_dup, s_dup2, s_pop, s_ifne, s_icne, s_ifeq, s_iflt, s_ifge, s_ifgt, s_ifle, s_iceq, s_iclt, s_icge, s_icgt, s_icle, s_ifnull, s_ifnonnull, s_is, s_ls, s_as, s_ii, s_gi, s_gl, s_gr, s_pi, s_pz, s_pl, s_pr, s_iald, s_zald, s_lald, s_aald, s_alen, s_iast, s_zast, s_last, s_iret, s_zret, s_lret, s_aret, s_vret, s_sw, s_aast, mm_sw, mm_ld, mm_s1, mm_s2, mm_kl, Value.category, va_rf, List.nil_append, List.cons_append, Option.toList, true_and, and_true, and_self, true_or, or_true, eq_self, not_true_eq_false, false_implies, true_implies, not_false_eq_true, mm_10, mm_01, false_or, or_false, Nat.left_eq_add, Nat.add_eq_left, Nat.add_left_cancel_iff, Nat.reduceEqDiff, false_and, and_false, reduceIte, mm_kd_pi, mm_ln_pi, mm_gl_pi, mm_gr_pi, mm_sz_pi, mm_gi_pi, mm_kd_pl, mm_ln_pl, mm_gi_pl, mm_gr_pl, mm_sz_pl, mm_gl_pl, mm_kd_pr, mm_ln_pr, mm_gi_pr, mm_gl_pr, mm_sz_pr, mm_gr_pr, mm_kd_pa, mm_ln_pa, mm_gl_pa, mm_gr_pa, mm_sz_pa, mm_gi_pa, W_kd_57 Hg, W_s_57 Hg, W_gr_57_0 Hg, a1, ne2]
        refine t_X7_advance_133 _ _ _ ?_
        simp only [s_iadd, s_isub, s_imul, s_iand, s_ior, s_ixor, s_ishl, s_ishr, s_iushr, s_idiv, s_irem, s_ladd, s_lsub, s_lmul, s_ldiv, s_lrem, s_ineg, s_i2l, s_l2i, s_i2c, s_lcmp, s_ic, s_lc, s_nul, s_str, s_il, s_ll, s_al, s_dup, s_dup2, s_pop, s_ifne, s_icne, s_ifeq, s_iflt, s_ifge, s_ifgt, s_ifle, s_iceq, s_iclt, s_icge, s_icgt, s_icle, s_ifnull, s_ifnonnull, s_is, s_ls, s_as, s_ii, s_gi, s_gl, s_gr, s_pi, s_pz, s_pl, s_pr, s_iald, s_zald, s_lald, s_aald, s_alen, s_iast, s_zast, s_last, s_iret, s_zret, s_lret, s_aret, s_vret, s_sw, s_aast, mm_sw, mm_ld, mm_s1, mm_s2, mm_kl, Value.category, va_rf, List.nil_append, List.cons_append, Option.toList, true_and, and_true, and_self, true_or, or_true, eq_self, not_true_eq_false, false_implies, true_implies, not_false_eq_true, mm_10, mm_01, false_or, or_false, Nat.left_eq_add, Nat.add_eq_left, Nat.add_left_cancel_iff, Nat.reduceEqDiff, false_and, and_false, reduceIte, mm_kd_pi, mm_ln_pi, mm_gl_pi, mm_gr_pi, mm_sz_pi, mm_gi_pi, mm_kd_pl, mm_ln_pl, mm_gi_pl, mm_gr_pl, mm_sz_pl, mm_gl_pl, mm_kd_pr, mm_ln_pr, mm_gi_pr, mm_gl_pr, mm_sz_pr, mm_gr_pr, mm_kd_pa, mm_ln_pa, mm_gl_pa, mm_gr_pa, mm_sz_pa, mm_gi_pa, W_kd_57 Hg, W_s_57 Hg, W_gr_57_0 Hg, a1, ne1, ne2]
        refine t_X7_advance_154 _ _ _ ?_
        simp only [s_iadd, s_isub, s_imul, s_iand, s_ior, s_ixor, s_ishl, s_ishr, s_iushr, s_idiv, s_irem, s_ladd, s_lsub, s_lmul, s_ldiv, s_lrem, s_ineg, s_i2l, s_l2i, s_i2c, s_lcmp, s_ic, s_lc, s_nul, s_str, s_il, s_ll, s_al, s_dup, s_dup2, s_pop, s_ifne, s_icne, s_ifeq, s_iflt, s_ifge, s_ifgt, s_ifle, s_iceq, s_iclt, s_icge, s_icgt, s_icle, s_ifnull, s_ifnonnull, s_is, s_ls, s_as, s_ii, s_gi, s_gl, s_gr, s_pi, s_pz, s_pl, s_pr, s_iald, s_zald, s_lald, s_aald, s_alen, s_iast, s_zast, s_last, s_iret, s_zret, s_lret, s_aret, s_vret, s_sw, s_aast, mm_sw, mm_ld, mm_s1, mm_s2, mm_kl, Value.category, va_rf, List.nil_append, List.cons_append, Option.toList, true_and, and_true, and_self, true_or, or_true, eq_self, not_true_eq_false, false_implies, true_implies, not_false_eq_true, mm_10, mm_01, false_or, or_false, Nat.left_eq_add, Nat.add_eq_left, Nat.add_left_cancel_iff, Nat.reduceEqDiff, false_and, and_false, reduceIte, mm_kd_pi, mm_ln_pi, mm_gl_pi, mm_gr_pi, mm_sz_pi, mm_gi_pi, mm_kd_pl, mm_ln_pl, mm_gi_pl, mm_gr_pl, mm_sz_pl, mm_gl_pl, mm_kd_pr, mm_ln_pr, mm_gi_pr, mm_gl_pr, mm_sz_pr, mm_gr_pr, mm_kd_pa, mm_ln_pa, mm_gl_pa, mm_gr_pa, mm_sz_pa, mm_gi_pa]
        refine t_X7_advance_155 _ _ _ ?_
        simp only [s_iadd, s_isub, s_imul, s_iand, s_ior, s_ixor, s_ishl, s_ishr, s_iushr, s_idiv, s_irem, s_ladd, s_lsub, s_lmul, s_ldiv, s_lrem, s_ineg, s_i2l, s_l2i, s_i2c, s_lcmp, s_ic, s_lc, s_nul, s_str, s_il, s_ll, s_al, s_dup, s_dup2, s_pop, s_ifne, s_icne, s_ifeq, s_iflt, s_ifge, s_ifgt, s_ifle, s_iceq, s_iclt, s_icge, s_icgt, s_icle, s_ifnull, s_ifnonnull, s_is, s_ls, s_as, s_ii, s_gi, s_gl, s_gr, s_pi, s_pz, s_pl, s_pr, s_iald, s_zald, s_lald, s_aald, s_alen, s_iast, s_zast, s_last, s_iret, s_zret, s_lret, s_aret, s_vret, s_sw, s_aast, mm_sw, mm_ld, mm_s1, mm_s2, mm_kl, Value.category, va_rf, List.nil_append, List.cons_append, Option.toList, true_and, and_true, and_self, true_or, or_true, eq_self, not_true_eq_false, false_implies, true_implies, not_false_eq_true, mm_10, mm_01, false_or, or_false, Nat.left_eq_add, Nat.add_eq_left, Nat.add_left_cancel_iff, Nat.reduceEqDiff, false_and, and_false, reduceIte, mm_kd_pi, mm_ln_pi, mm_gl_pi, mm_gr_pi, mm_sz_pi, mm_gi_pi, mm_kd_pl, mm_ln_pl, mm_gi_pl, mm_gr_pl, mm_sz_pl, mm_gl_pl, mm_kd_pr, mm_ln_pr, mm_gi_pr, mm_gl_pr, mm_sz_pr, mm_gr_pr, mm_kd_pa, mm_ln_pa, mm_gl_pa, mm_gr_pa, mm_sz_pa, mm_gi_pa]
        exact fin g _ F a1 a2 a4
  obtain ⟨g, eg⟩ : ∃ g : mmH, g = mm_pi (mm_pi (mm_pi h 57 2 (nI (tks n t p))) 57 1 0) 57 4 0 := ⟨_, rfl⟩
  have F : fx xtk y0 h g := by rw [eg]; exact fx_pi rfl (fx_pi rfl (fx_pi rfl fx_rf))
  have Hg := fx_WS F H
  have a1 : mm_gi g 57 1 = 0 := by rw [eg, mm_gi_pi, if_neg (by decide), mm_gi_pi, if_pos ⟨rfl, rfl⟩]
  have a2 : mm_gi g 57 2 = nI (tks n t p) := by rw [eg, mm_gi_pi, if_neg (by decide), mm_gi_pi, if_neg (by decide), mm_gi_pi, if_pos ⟨rfl, rfl⟩]
  have a4 : mm_gi g 57 4 = 0 := by rw [eg, mm_gi_pi, if_pos ⟨rfl, rfl⟩]
  have Tg : TPE g n t := TPE_fx (fun j => ⟨by unfold xtk; decide, by unfold xtk; decide⟩) F T
  refine t_X7_advance_36 _ _ _ ?_
  simp only [s_iadd, s_isub, s_imul, s_iand, s_ior, s_ixor, s_ishl, s_ishr, s_iushr, s_idiv, s_irem, s_ladd, s_lsub, s_lmul, s_ldiv, s_lrem, s_ineg, s_i2l, s_l2i, s_i2c, s_lcmp, s_ic, s_lc, s_nul, s_str, s_il, s_ll, s_al, s_dup, s_dup2, s_pop, s_ifne, s_icne, s_ifeq, s_iflt, s_ifge, s_ifgt, s_ifle, s_iceq, s_iclt, s_icge, s_icgt, s_icle, s_ifnull, s_ifnonnull, s_is, s_ls, s_as, s_ii, s_gi, s_gl, s_gr, s_pi, s_pz, s_pl, s_pr, s_iald, s_zald, s_lald, s_aald, s_alen, s_iast, s_zast, s_last, s_iret, s_zret, s_lret, s_aret, s_vret, s_sw, s_aast, mm_sw, mm_ld, mm_s1, mm_s2, mm_kl, Value.category, va_rf, List.nil_append, List.cons_append, Option.toList, true_and, and_true, and_self, true_or, or_true, eq_self, not_true_eq_false, false_implies, true_implies, not_false_eq_true, mm_10, mm_01, false_or, or_false, Nat.left_eq_add, Nat.add_eq_left, Nat.add_left_cancel_iff, Nat.reduceEqDiff, false_and, and_false, reduceIte, mm_kd_pi, mm_ln_pi, mm_gl_pi, mm_gr_pi, mm_sz_pi, mm_gi_pi, mm_kd_pl, mm_ln_pl, mm_gi_pl, mm_gr_pl, mm_sz_pl, mm_gl_pl, mm_kd_pr, mm_ln_pr, mm_gi_pr, mm_gl_pr, mm_sz_pr, mm_gr_pr, mm_kd_pa, mm_ln_pa, mm_gl_pa, mm_gr_pa, mm_sz_pa, mm_gi_pa, W_kd_57 H, W_s_57 H, W_gr_57_0 H, ← eg, W_kd_57 Hg, W_s_57 Hg, W_gr_57_0 Hg, W_kd_54 Hg, W_s_54 Hg, W_gr_54_0 Hg, Tg.2.1]
  sorry
theorem sp_begin (H : WS h) (T : TPE h n t) (k : ∀ g, fx xtk y0 h g → TKc g n t 0 → K none g) : mm_MV q_X7_begin (d + 2) (0, 0) [.ref 57] h K := by
  refine e_X7_begin (t_X7_begin_0 _ _ _ ?_)
  simp only [s_iadd, s_isub, s_imul, s_iand, s_ior, s_ixor, s_ishl, s_ishr, s_iushr, s_idiv, s_irem, s_ladd, s_lsub, s_lmul, s_ldiv, s_lrem, s_ineg, s_i2l, s_l2i, s_i2c, s_lcmp, s_ic, s_lc, s_nul, s_str, s_il, s_ll, s_al, s_dup, s_dup2, s_pop, s_ifne, s_icne, s_ifeq, s_iflt, s_ifge, s_ifgt, s_ifle, s_iceq, s_iclt, s_icge, s_icgt, s_icle, s_ifnull, s_ifnonnull, s_is, s_ls, s_as, s_ii, s_gi, s_gl, s_gr, s_pi, s_pz, s_pl, s_pr, s_iald, s_zald, s_lald, s_aald, s_alen, s_iast, s_zast, s_last, s_iret, s_zret, s_lret, s_aret, s_vret, s_sw, s_aast, mm_sw, mm_ld, mm_s1, mm_s2, mm_kl, Value.category, va_rf, List.nil_append, List.cons_append, Option.toList, true_and, and_true, and_self, true_or, or_true, eq_self, not_true_eq_false, false_implies, true_implies, not_false_eq_true, mm_10, mm_01, false_or, or_false, Nat.left_eq_add, Nat.add_eq_left, Nat.add_left_cancel_iff, Nat.reduceEqDiff, false_and, and_false, reduceIte, mm_kd_pi, mm_ln_pi, mm_gl_pi, mm_gr_pi, mm_sz_pi, mm_gi_pi, mm_kd_pl, mm_ln_pl, mm_gi_pl, mm_gr_pl, mm_sz_pl, mm_gl_pl, mm_kd_pr, mm_ln_pr, mm_gi_pr, mm_gl_pr, mm_sz_pr, mm_gr_pr, mm_kd_pa, mm_ln_pa, mm_gl_pa, mm_gr_pa, mm_sz_pa, mm_gi_pa, W_kd_57 H, W_s_57 H, W_gr_57_0 H]
  have F : fx xtk y0 h (mm_pi h 57 3 0) := fx_pi rfl fx_rf
  have Hg := fx_WS F H
  refine c_X7_begin_6 (bb := (0, 0)) (b := (0, 0)) (Nat.le_of_ble_eq_true rfl) ⟨rfl, rfl⟩ (by rw [Hg.1.2.1]; sorry) sorry (sp_advance (p := 0) Hg (TPE_fx (fun j => ⟨by unfold xtk; decide, by unfold xtk; decide⟩) F T) (Nat.zero_le _) (by rw [mm_gi_pi, if_pos ⟨rfl, rfl⟩]; rfl) (fun g F2 T2 => ?_))
  refine t_X7_begin_9 _ _ _ ?_
  simp only [s_iadd, s_isub, s_imul, s_iand, s_ior, s_ixor, s_ishl, s_ishr, s_iushr, s_idiv, s_irem, s_ladd, s_lsub, s_lmul, s_ldiv, s_lrem, s_ineg, s_i2l, s_l2i, s_i2c, s_lcmp, s_ic, s_lc, s_nul, s_str, s_il, s_ll, s_al, s_dup, s_dup2, s_pop, s_ifne, s_icne, s_ifeq, s_iflt, s_ifge, s_ifgt, s_ifle, s_iceq, s_iclt, s_icge, s_icgt, s_icle, s_ifnull, s_ifnonnull, s_is, s_ls, s_as, s_ii, s_gi, s_gl, s_gr, s_pi, s_pz, s_pl, s_pr, s_iald, s_zald, s_lald, s_aald, s_alen, s_iast, s_zast, s_last, s_iret, s_zret, s_lret, s_aret, s_vret, s_sw, s_aast, mm_sw, mm_ld, mm_s1, mm_s2, mm_kl, Value.category, va_rf, List.nil_append, List.cons_append, Option.toList, true_and, and_true, and_self, true_or, or_true, eq_self, not_true_eq_false, false_implies, true_implies, not_false_eq_true, mm_10, mm_01, false_or, or_false, Nat.left_eq_add, Nat.add_eq_left, Nat.add_left_cancel_iff, Nat.reduceEqDiff, false_and, and_false, reduceIte, mm_kd_pi, mm_ln_pi, mm_gl_pi, mm_gr_pi, mm_sz_pi, mm_gi_pi, mm_kd_pl, mm_ln_pl, mm_gi_pl, mm_gr_pl, mm_sz_pl, mm_gl_pl, mm_kd_pr, mm_ln_pr, mm_gi_pr, mm_gl_pr, mm_sz_pr, mm_gr_pr, mm_kd_pa, mm_ln_pa, mm_gl_pa, mm_gr_pa, mm_sz_pa, mm_gi_pa]
  exact k g (fx_tr F F2) T2
end
