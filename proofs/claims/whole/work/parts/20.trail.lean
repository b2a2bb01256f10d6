/-! the trail keeps and gives back -/
/-- only cells a and a + 1 differ, in ints alone -/
def only2 (h : mmH) (a : Nat) (h' : mmH) : Prop := (mm_kd h' = mm_kd h ∧ mm_ln h' = mm_ln h ∧ mm_gl h' = mm_gl h ∧ mm_gr h' = mm_gr h ∧ mm_sz h' = mm_sz h) ∧ ∀ c, c ≠ a → c ≠ a + 1 → mm_gi h' c = mm_gi h c
theorem only2_rf {h : mmH} {a : Nat} : only2 h a h := ⟨⟨rfl, rfl, rfl, rfl, rfl⟩, fun _ _ _ => rfl⟩
theorem only2_pi {h g : mmH} {a k : Nat} {x : Int32} (J : only2 h a g) : only2 h a (mm_pi g a k x) := ⟨J.1, fun c h1 h2 => by rw [← J.2 c h1 h2]; funext j; rw [mm_gi_pi, if_neg (fun z => h1 z.1)]⟩
theorem only2_pi2 {h g : mmH} {a k : Nat} {x : Int32} (J : only2 h a g) : only2 h a (mm_pi g (a + 1) k x) := ⟨J.1, fun c h1 h2 => by rw [← J.2 c h1 h2]; funext j; rw [mm_gi_pi, if_neg (fun z => h2 z.1)]⟩
theorem only2_pa {h g : mmH} {a : Nat} {f : Nat → Int32} (J : only2 h a g) : only2 h a (mm_pa g (a + 1) f) := ⟨J.1, fun c h1 h2 => by rw [← J.2 c h1 h2]; funext j; rw [mm_gi_pa, if_neg h2]⟩
theorem trS_cg {h g : mmH} {a : Nat} (e : mm_kd g = mm_kd h ∧ mm_ln g = mm_ln h ∧ mm_gl g = mm_gl h ∧ mm_gr g = mm_gr h ∧ mm_sz g = mm_sz h) (H : trS h a) : trS g a := by
  unfold trS
  rw [e.1, e.2.1, e.2.2.2.1, e.2.2.2.2]
  exact H
theorem hsh_cg2 {h g : mmH} {a : Nat} (e : mm_kd g = mm_kd h ∧ mm_ln g = mm_ln h ∧ mm_gl g = mm_gl h ∧ mm_gr g = mm_gr h ∧ mm_sz g = mm_sz h) (H : hsh h a) : hsh g a := hsh_cg e.1 e.2.1 e.2.2.2.1 e.2.2.2.2 H
/-- entry m of the trail's row f: kind, answered, day, knows, grown -/
def tent (f : Nat → Int32) (m : Nat) (kind ans day : Int32) (kn gw : Nat → Int32) : Prop := f (15 * m) = kind ∧ f (15 * m + 1) = ans ∧ f (15 * m + 2) = day ∧ (∀ c, c < 6 → f (15 * m + 3 + c) = kn c) ∧ ∀ c, c < 6 → f (15 * m + 9 + c) = gw c
section
variable {d : Nat} {h : mmH} {a b : Nat} {x : Int32} {K : Option Value → mmH → Prop}
theorem keep37 {m : Nat} (H : trS h a) (B : hsh h b) (hab : b + 10 < a ∨ a + 1 < b) (hm : mm_gi h a 1 = nI m) (hm15 : m ≤ 15) (k : ∀ h', only2 h a h' → mm_gi h' a 1 = nI (m + 1) → (∀ j, j < 15 * m → mm_gi h' (a + 1) j = mm_gi h (a + 1) j) → tent (mm_gi h' (a + 1)) m x (mm_gi h b 5) (mm_gi h (b + 9) 0) (mm_gi h (b + 4)) (mm_gi h (b + 6)) → K none h') : mm_V q_X8_keep (d + 1) (0, 0) K 37 [some (.ref a), some (.int x), some (.ref b), none] [] h := by
  obtain ⟨h1, h2, h3, h4⟩ := id H
  obtain ⟨b1, b2, b3, b4⟩ := id B
  have e1 : nI m * nI 15 = nI (15 * m) := by rw [pk_mul, Nat.mul_comm]
  have c0 : (nI (15 * m)).toNatClampNeg = 15 * m := nI_clamp (by omega)
  have c1 : (nI (15 * m + 1)).toNatClampNeg = 15 * m + 1 := nI_clamp (by omega)
  have c2 : (nI (15 * m + 2)).toNatClampNeg = 15 * m + 2 := nI_clamp (by omega)
  have v0 : vp_in (nI (15 * m)) 240 := vp_in_nI (by omega) (by decide)
  have v1 : vp_in (nI (15 * m + 1)) 240 := vp_in_nI (by omega) (by decide)
  have v2 : vp_in (nI (15 * m + 2)) 240 := vp_in_nI (by omega) (by decide)
  have v3 : vp_in (nI 0) 3 := vp_in_nI (by decide) (by decide)
  refine t_X8_keep_37 _ _ _ ?_
  simp only [s_iadd, s_isub, s_imul, s_iand, s_ior, s_ixor, s_ishl, s_ishr, s_iushr, s_idiv, s_irem, s_ladd, s_lsub, s_lmul, s_ldiv, s_lrem, s_ineg, s_i2l, s_l2i, s_i2c, s_lcmp, s_ic, s_lc, s_nul, s_str, s_il, s_ll, s_al, s_dup, s_dup2, s_pop, s_ifne, s_icne, s_ifeq, s_iflt, s_ifge, s_ifgt, s_ifle, s_iceq, s_iclt, s_icge, s_icgt, s_icle, s_ifnull, s_ifnonnull, s_is, s_ls, s_as, s_ii, s_gi, s_gl, s_gr, s_pi, s_pz, s_pl, s_pr, s_iald, s_zald, s_lald, s_aald, s_alen, s_iast, s_zast, s_last, s_iret, s_zret, s_lret, s_aret, s_vret, s_sw, s_aast, mm_sw, mm_ld, mm_s1, mm_s2, mm_kl, Value.category, va_rf, List.nil_append, List.cons_append, Option.toList, true_and, and_true, and_self, true_or, or_true, eq_self, not_true_eq_false, false_implies, true_implies, not_false_eq_true, mm_10, mm_01, false_or, or_false, Nat.left_eq_add, Nat.add_eq_left, Nat.add_left_cancel_iff, Nat.reduceEqDiff, false_and, and_false, reduceIte, mm_kd_pi, mm_ln_pi, mm_gl_pi, mm_gr_pi, mm_sz_pi, mm_gi_pi, mm_kd_pl, mm_ln_pl, mm_gi_pl, mm_gr_pl, mm_sz_pl, mm_gl_pl, mm_kd_pr, mm_ln_pr, mm_gi_pr, mm_gl_pr, mm_sz_pr, mm_gr_pr, mm_kd_pa, mm_ln_pa, mm_gl_pa, mm_gr_pa, mm_sz_pa, mm_gi_pa, h1, h2, h3, h4, b1, b2, b3, b4, hsz0 B, hsz B (show 9 ≤ 10 by decide), hm, l_15, e1, l_0, l_1, l_2, l_3, nI_add, c0, c1, c2, v0, v1, v2, v3, show (nI 0).toNatClampNeg = 0 from rfl, show (b = a + 1) = False by simp; omega, show (b + 9 = a + 1) = False by simp; omega]
  refine mm_abs (P := fun g => only2 h a g ∧ mm_gi g a 1 = nI m ∧ (∀ j, j < 15 * m → mm_gi g (a + 1) j = mm_gi h (a + 1) j) ∧ mm_gi g (a + 1) (15 * m) = x ∧ mm_gi g (a + 1) (15 * m + 1) = mm_gi h b 5 ∧ mm_gi g (a + 1) (15 * m + 2) = mm_gi h (b + 9) 0) ?_ (fun g J => ?_)
  · refine ⟨only2_pi2 (only2_pi2 (only2_pi2 only2_rf)), ?_, fun j hj => ?_, ?_, ?_, ?_⟩
    · simp [mm_gi_pi, hm]
    · simp [mm_gi_pi, show j ≠ 15 * m by omega, show j ≠ 15 * m + 1 by omega, show j ≠ 15 * m + 2 by omega]
    · simp [mm_gi_pi]
    · simp [mm_gi_pi]
    · simp [mm_gi_pi]
  obtain ⟨J, g1, g2, g3, g4, g5⟩ := J
  have H1 := trS_cg J.1 H
  have B1 := hsh_cg2 J.1 B
  have cc3 : (nI (15 * m + 3)).toNatClampNeg = 15 * m + 3 := nI_clamp (by omega)
  refine c_X8_keep_92 (Nat.le_of_ble_eq_true rfl) ⟨H1.2.2.1, H1.1.2.1⟩ ⟨B1.2.2.1.2.2.2.1, hsz B1 (show 4 ≤ 10 by decide)⟩ (by decide) (nI_pos (by omega)) (by decide) (show 0 + 6 ≤ mm_ln g (b + 4) by rw [B1.2.2.2.2.2.2.1]; decide) ?_ ?_
  · rw [cc3, H1.2.2.2]
    show 15 * m + 3 + 6 ≤ 240
    omega
  rw [cc3]
  refine mm_abs (P := fun g' => only2 h a g' ∧ mm_gi g' a 1 = nI m ∧ (∀ j, j < 15 * m + 3 → mm_gi g' (a + 1) j = mm_gi g (a + 1) j) ∧ ∀ c, c < 6 → mm_gi g' (a + 1) (15 * m + 3 + c) = mm_gi h (b + 4) c) ?_ (fun g' J' => ?_)
  · refine ⟨only2_pa J, ?_, fun j hj => ?_, fun c hc => ?_⟩
    · rw [mm_gi_pa, if_neg (by omega)]; exact g1
    · rw [mm_gi_pa, if_pos rfl, pk_cpy_out (Or.inl hj)]
    · rw [mm_gi_pa, if_pos rfl, pk_cpy_in (by omega) (by show _ < 15 * m + 3 + 6; omega), J.2 (b + 4) (by omega) (by omega)]
      show mm_gi h (b + 4) (0 + (15 * m + 3 + c - (15 * m + 3))) = _
      rw [show 0 + (15 * m + 3 + c - (15 * m + 3)) = c by omega]
  obtain ⟨J', p1, p2, p3⟩ := J'
  have H2 := trS_cg J'.1 H
  have B2 := hsh_cg2 J'.1 B
  have cc9 : (nI (15 * m + 3 + 6)).toNatClampNeg = 15 * m + 9 := nI_clamp (by omega)
  refine t_X8_keep_95 _ _ _ ?_
  simp only [s_iadd, s_isub, s_imul, s_iand, s_ior, s_ixor, s_ishl, s_ishr, s_iushr, s_idiv, s_irem, s_ladd, s_lsub, s_lmul, s_ldiv, s_lrem, s_ineg, s_i2l, s_l2i, s_i2c, s_lcmp, s_ic, s_lc, s_nul, s_str, s_il, s_ll, s_al, s_dup, s_dup2, s_pop, s_ifne, s_icne, s_ifeq, s_iflt, s_ifge, s_ifgt, s_ifle, s_iceq, s_iclt, s_icge, s_icgt, s_icle, s_ifnull, s_ifnonnull, s_is, s_ls, s_as, s_ii, s_gi, s_gl, s_gr, s_pi, s_pz, s_pl, s_pr, s_iald, s_zald, s_lald, s_aald, s_alen, s_iast, s_zast, s_last, s_iret, s_zret, s_lret, s_aret, s_vret, s_sw, s_aast, mm_sw, mm_ld, mm_s1, mm_s2, mm_kl, Value.category, va_rf, List.nil_append, List.cons_append, Option.toList, true_and, and_true, and_self, true_or, or_true, eq_self, not_true_eq_false, false_implies, true_implies, not_false_eq_true, mm_10, mm_01, false_or, or_false, Nat.left_eq_add, Nat.add_eq_left, Nat.add_left_cancel_iff, Nat.reduceEqDiff, false_and, and_false, reduceIte, mm_kd_pi, mm_ln_pi, mm_gl_pi, mm_gr_pi, mm_sz_pi, mm_gi_pi, mm_kd_pl, mm_ln_pl, mm_gi_pl, mm_gr_pl, mm_sz_pl, mm_gl_pl, mm_kd_pr, mm_ln_pr, mm_gi_pr, mm_gl_pr, mm_sz_pr, mm_gr_pr, mm_kd_pa, mm_ln_pa, mm_gl_pa, mm_gr_pa, mm_sz_pa, mm_gi_pa, H2.1, H2.2.1, B2.1, B2.2.1, hsz0 B2, l_3, l_6, nI_add]
  refine c_X8_keep_112 (Nat.le_of_ble_eq_true rfl) ⟨H2.2.2.1, H2.1.2.1⟩ ⟨B2.2.2.1.2.2.2.2.2.1, hsz B2 (show 6 ≤ 10 by decide)⟩ (by decide) (nI_pos (by omega)) (by decide) (show 0 + 6 ≤ mm_ln g' (b + 6) by rw [B2.2.2.2.2.2.2.2.2.1]; decide) ?_ ?_
  · rw [cc9, H2.2.2.2]
    show 15 * m + 9 + 6 ≤ 240
    omega
  rw [cc9]
  refine mm_abs (P := fun gz => only2 h a gz ∧ mm_gi gz a 1 = nI m ∧ (∀ j, j < 15 * m + 9 → mm_gi gz (a + 1) j = mm_gi g' (a + 1) j) ∧ ∀ c, c < 6 → mm_gi gz (a + 1) (15 * m + 9 + c) = mm_gi h (b + 6) c) ?_ (fun gz J2 => ?_)
  · refine ⟨only2_pa J', ?_, fun j hj => ?_, fun c hc => ?_⟩
    · rw [mm_gi_pa, if_neg (by omega)]; exact p1
    · rw [mm_gi_pa, if_pos rfl, pk_cpy_out (Or.inl hj)]
    · rw [mm_gi_pa, if_pos rfl, pk_cpy_in (by omega) (by show _ < 15 * m + 9 + 6; omega), J'.2 (b + 6) (by omega) (by omega)]
      show mm_gi h (b + 6) (0 + (15 * m + 9 + c - (15 * m + 9))) = _
      rw [show 0 + (15 * m + 9 + c - (15 * m + 9)) = c by omega]
  obtain ⟨J2, r1, r2, r3⟩ := J2
  have H3 := trS_cg J2.1 H
  refine t_X8_keep_115 _ _ _ ?_
  simp only [s_iadd, s_isub, s_imul, s_iand, s_ior, s_ixor, s_ishl, s_ishr, s_iushr, s_idiv, s_irem, s_ladd, s_lsub, s_lmul, s_ldiv, s_lrem, s_ineg, s_i2l, s_l2i, s_i2c, s_lcmp, s_ic, s_lc, s_nul, s_str, s_il, s_ll, s_al, s_dup, s_dup2, s_pop, s_ifne, s_icne, s_ifeq, s_iflt, s_ifge, s_ifgt, s_ifle, s_iceq, s_iclt, s_icge, s_icgt, s_icle, s_ifnull, s_ifnonnull, s_is, s_ls, s_as, s_ii, s_gi, s_gl, s_gr, s_pi, s_pz, s_pl, s_pr, s_iald, s_zald, s_lald, s_aald, s_alen, s_iast, s_zast, s_last, s_iret, s_zret, s_lret, s_aret, s_vret, s_sw, s_aast, mm_sw, mm_ld, mm_s1, mm_s2, mm_kl, Value.category, va_rf, List.nil_append, List.cons_append, Option.toList, true_and, and_true, and_self, true_or, or_true, eq_self, not_true_eq_false, false_implies, true_implies, not_false_eq_true, mm_10, mm_01, false_or, or_false, Nat.left_eq_add, Nat.add_eq_left, Nat.add_left_cancel_iff, Nat.reduceEqDiff, false_and, and_false, reduceIte, mm_kd_pi, mm_ln_pi, mm_gl_pi, mm_gr_pi, mm_sz_pi, mm_gi_pi, mm_kd_pl, mm_ln_pl, mm_gi_pl, mm_gr_pl, mm_sz_pl, mm_gl_pl, mm_kd_pr, mm_ln_pr, mm_gi_pr, mm_gl_pr, mm_sz_pr, mm_gr_pr, mm_kd_pa, mm_ln_pa, mm_gl_pa, mm_gr_pa, mm_sz_pa, mm_gi_pa, H3.1, r1, nI_1]
  have aa : ∀ j, mm_gi (mm_pi gz a 1 (nI (m + 1))) (a + 1) j = mm_gi gz (a + 1) j := fun j => by rw [mm_gi_pi, if_neg (by omega)]
  refine k _ (only2_pi J2) (by rw [mm_gi_pi, if_pos ⟨rfl, rfl⟩]) (fun j hj => ?_) ⟨?_, ?_, ?_, fun c hc => ?_, fun c hc => ?_⟩
  · rw [aa, r2 j (by omega), p2 j (by omega), g2 j hj]
  · rw [aa, r2 _ (by omega), p2 _ (by omega), g3]
  · rw [aa, r2 _ (by omega), p2 _ (by omega), g4]
  · rw [aa, r2 _ (by omega), p2 _ (by omega), g5]
  · rw [aa, r2 _ (by omega), p3 c hc]
  · rw [aa, r3 c hc]
/-- keep: what the trail holds behind it; a full one forgets its first -/
theorem sp_keep {n : Nat} (H : trS h a) (B : hsh h b) (hab : b + 10 < a ∨ a + 1 < b) (hn : mm_gi h a 1 = nI n) (hn16 : n ≤ 16)
    (k : ∀ h' m, (n < 16 → m = n) → (n = 16 → m = 15) → only2 h a h' → mm_gi h' a 1 = nI (m + 1) → (∀ j, j < 15 * m → mm_gi h' (a + 1) j = mm_gi h (a + 1) (if n = 16 then j + 15 else j)) → tent (mm_gi h' (a + 1)) m x (mm_gi h b 5) (mm_gi h (b + 9) 0) (mm_gi h (b + 4)) (mm_gi h (b + 6)) → K none h') : mm_MV q_X8_keep (d + 1) (0, 0) [.ref a, .int x, .ref b] h K := by
  obtain ⟨h1, h2, h3, h4⟩ := id H
  refine e_X8_keep (t_X8_keep_0 _ _ _ ?_)
  simp only [s_iadd, s_isub, s_imul, s_iand, s_ior, s_ixor, s_ishl, s_ishr, s_iushr, s_idiv, s_irem, s_ladd, s_lsub, s_lmul, s_ldiv, s_lrem, s_ineg, s_i2l, s_l2i, s_i2c, s_lcmp, s_ic, s_lc, s_nul, s_str, s_il, s_ll, s_al, s_dup, s_dup2, s_pop, s_ifne, s_icne, s_ifeq, s_iflt, s_ifge, s_ifgt, s_ifle, s_iceq, s_iclt, s_icge, s_icgt, s_icle, s_ifnull, s_ifnonnull, s_is, s_ls, s_as, s_ii, s_gi, s_gl, s_gr, s_pi, s_pz, s_pl, s_pr, s_iald, s_zald, s_lald, s_aald, s_alen, s_iast, s_zast, s_last, s_iret, s_zret, s_lret, s_aret, s_vret, s_sw, s_aast, mm_sw, mm_ld, mm_s1, mm_s2, mm_kl, Value.category, va_rf, List.nil_append, List.cons_append, Option.toList, true_and, and_true, and_self, true_or, or_true, eq_self, not_true_eq_false, false_implies, true_implies, not_false_eq_true, mm_10, mm_01, false_or, or_false, Nat.left_eq_add, Nat.add_eq_left, Nat.add_left_cancel_iff, Nat.reduceEqDiff, false_and, and_false, reduceIte, mm_kd_pi, mm_ln_pi, mm_gl_pi, mm_gr_pi, mm_sz_pi, mm_gi_pi, mm_kd_pl, mm_ln_pl, mm_gi_pl, mm_gr_pl, mm_sz_pl, mm_gl_pl, mm_kd_pr, mm_ln_pr, mm_gi_pr, mm_gl_pr, mm_sz_pr, mm_gr_pr, mm_kd_pa, mm_ln_pa, mm_gl_pa, mm_gr_pa, mm_sz_pa, mm_gi_pa, h1, h2, h3, h4, hn, l_16]
  refine ⟨fun c => ?_, fun c => ?_⟩
  · have hlt : n < 16 := by
      rcases Nat.lt_or_ge n 16 with z | z
      · exact z
      · exact absurd c (nI_nlt z (by omega))
    exact keep37 H B hab hn (by omega) (fun h' g1 g2 g3 g4 => k h' n (fun _ => rfl) (fun z => by omega) g1 g2 (fun j hj => by rw [if_neg (by omega)]; exact g3 j hj) g4)
  · have hge : n = 16 := by
      rcases Nat.lt_or_ge n 16 with z | z
      · exact absurd (nI_lt z (by decide)) c
      · omega
    refine c_X8_keep_28 (Nat.le_of_ble_eq_true rfl) ⟨h3, h1.2.1⟩ ⟨h3, h1.2.1⟩ (by decide) (by decide) (by decide) (by rw [h4]; decide) (by rw [h4]; decide) ?_
    refine mm_abs (P := fun g => only2 h a g ∧ ∀ j, j < 225 → mm_gi g (a + 1) j = mm_gi h (a + 1) (j + 15)) ?_ (fun g J => ?_)
    · refine ⟨only2_pa only2_rf, fun j hj => ?_⟩
      rw [mm_gi_pa, if_pos rfl]
      show va_cpy (mm_gi h (a + 1)) (mm_gi h (a + 1)) 15 0 225 j = _
      rw [pk_cpy_in (Nat.zero_le _) (by omega)]
      show mm_gi h (a + 1) (15 + (j - 0)) = _
      rw [show 15 + (j - 0) = j + 15 by omega]
    obtain ⟨J, g1⟩ := J
    have H1 := trS_cg J.1 H
    refine t_X8_keep_31 _ _ _ ?_
    simp only [s_iadd, s_isub, s_imul, s_iand, s_ior, s_ixor, s_ishl, s_ishr, s_iushr, s_idiv, s_irem, s_ladd, s_lsub, s_lmul, s_ldiv, s_lrem, s_ineg, s_i2l, s_l2i, s_i2c, s_lcmp, s_ic, s_lc, s_nul, s_str, s_il, s_ll, s_al, s_dup, s_dup2, s_pop, s_ifne, s_icne, s_ifeq, s_iflt, s_ifge, s_ifgt, s_ifle, s_iceq, s_iclt, s_icge, s_icgt, s_icle, s_ifnull, s_ifnonnull, s_is, s_ls, s_as, s_ii, s_gi, s_gl, s_gr, s_pi, s_pz, s_pl, s_pr, s_iald, s_zald, s_lald, s_aald, s_alen, s_iast, s_zast, s_last, s_iret, s_zret, s_lret, s_aret, s_vret, s_sw, s_aast, mm_sw, mm_ld, mm_s1, mm_s2, mm_kl, Value.category, va_rf, List.nil_append, List.cons_append, Option.toList, true_and, and_true, and_self, true_or, or_true, eq_self, not_true_eq_false, false_implies, true_implies, not_false_eq_true, mm_10, mm_01, false_or, or_false, Nat.left_eq_add, Nat.add_eq_left, Nat.add_left_cancel_iff, Nat.reduceEqDiff, false_and, and_false, reduceIte, mm_kd_pi, mm_ln_pi, mm_gl_pi, mm_gr_pi, mm_sz_pi, mm_gi_pi, mm_kd_pl, mm_ln_pl, mm_gi_pl, mm_gr_pl, mm_sz_pl, mm_gl_pl, mm_kd_pr, mm_ln_pr, mm_gi_pr, mm_gl_pr, mm_sz_pr, mm_gr_pr, mm_kd_pa, mm_ln_pa, mm_gl_pa, mm_gr_pa, mm_sz_pa, mm_gi_pa, H1.1]
    have J2 : only2 h a (mm_pi g a 1 15) := only2_pi J
    have aa : ∀ j, mm_gi (mm_pi g a 1 15) (a + 1) j = mm_gi g (a + 1) j := fun j => by rw [mm_gi_pi, if_neg (by omega)]
    refine keep37 (m := 15) (trS_cg J2.1 H) (hsh_cg2 J2.1 B) hab (by rw [mm_gi_pi, if_pos ⟨rfl, rfl⟩]; rfl) (by decide) (fun h' q1 q2 q3 q4 => ?_)
    rw [J2.2 b (by omega) (by omega), J2.2 (b + 9) (by omega) (by omega), J2.2 (b + 4) (by omega) (by omega), J2.2 (b + 6) (by omega) (by omega)] at q4
    refine k h' 15 (fun z => by omega) (fun _ => rfl) ⟨⟨q1.1.1.trans J2.1.1, q1.1.2.1.trans J2.1.2.1, q1.1.2.2.1.trans J2.1.2.2.1, q1.1.2.2.2.1.trans J2.1.2.2.2.1, q1.1.2.2.2.2.trans J2.1.2.2.2.2⟩, fun c c1 c2 => (q1.2 c c1 c2).trans (J2.2 c c1 c2)⟩ q2 (fun j hj => ?_) q4
    rw [if_pos hge, q3 j hj, aa, g1 j (by omega)]
/-- takeBack from an empty trail -/
theorem sp_take0 (H : trS h a) (hn : mm_gi h a 1 = nI 0) (k : K (some (.int (-1))) h) : mm_MV q_X8_takeBack d (0, 0) [.ref a, .ref b] h K := by
  refine e_X8_takeBack (t_X8_takeBack_0 _ _ _ ?_)
  simp only [s_iadd, s_isub, s_imul, s_iand, s_ior, s_ixor, s_ishl, s_ishr, s_iushr, s_idiv, s_irem, s_ladd, s_lsub, s_lmul, s_ldiv, s_lrem, s_ineg, s_i2l, s_l2i, s_i2c, s_lcmp, s_ic, s_lc, s_nul, s_str, s_il, s_ll, s_al, s_dup, s_dup2, s_pop, s_ifne, s_icne, s_ifeq, s_iflt, s_ifge, s_ifgt, s_ifle, s_iceq, s_iclt, s_icge, s_icgt, s_icle, s_ifnull, s_ifnonnull, s_is, s_ls, s_as, s_ii, s_gi, s_gl, s_gr, s_pi, s_pz, s_pl, s_pr, s_iald, s_zald, s_lald, s_aald, s_alen, s_iast, s_zast, s_last, s_iret, s_zret, s_lret, s_aret, s_vret, s_sw, s_aast, mm_sw, mm_ld, mm_s1, mm_s2, mm_kl, Value.category, va_rf, List.nil_append, List.cons_append, Option.toList, true_and, and_true, and_self, true_or, or_true, eq_self, not_true_eq_false, false_implies, true_implies, not_false_eq_true, mm_10, mm_01, false_or, or_false, Nat.left_eq_add, Nat.add_eq_left, Nat.add_left_cancel_iff, Nat.reduceEqDiff, false_and, and_false, reduceIte, mm_kd_pi, mm_ln_pi, mm_gl_pi, mm_gr_pi, mm_sz_pi, mm_gi_pi, mm_kd_pl, mm_ln_pl, mm_gi_pl, mm_gr_pl, mm_sz_pl, mm_gl_pl, mm_kd_pr, mm_ln_pr, mm_gi_pr, mm_gl_pr, mm_sz_pr, mm_gr_pr, mm_kd_pa, mm_ln_pa, mm_gl_pa, mm_gr_pa, mm_sz_pa, mm_gi_pa, H.1, hn]
  exact ⟨fun c => absurd c (by decide), fun _ => k⟩
/-- what takeBack of entry m leaves -/
def TB (h : mmH) (a b m : Nat) (h' : mmH) : Prop := (mm_kd h' = mm_kd h ∧ mm_ln h' = mm_ln h ∧ mm_gl h' = mm_gl h ∧ mm_gr h' = mm_gr h ∧ mm_sz h' = mm_sz h) ∧ (∀ c, c ≠ a → c ≠ b → c ≠ b + 4 → c ≠ b + 6 → c ≠ b + 9 → mm_gi h' c = mm_gi h c) ∧ mm_gi h' a 1 = nI m ∧
  (∀ j, j ≠ 5 → mm_gi h' b j = mm_gi h b j) ∧ mm_gi h' b 5 = mm_gi h (a + 1) (15 * m + 1) ∧ mm_gi h' (b + 9) 0 = mm_gi h (a + 1) (15 * m + 2) ∧ (∀ j, j ≠ 0 → mm_gi h' (b + 9) j = mm_gi h (b + 9) j) ∧ (∀ c, c < 6 → mm_gi h' (b + 4) c = mm_gi h (a + 1) (15 * m + 3 + c)) ∧ ∀ c, c < 6 → mm_gi h' (b + 6) c = mm_gi h (a + 1) (15 * m + 9 + c)
theorem sp_take1 {m : Nat} (H : trS h a) (B : hsh h b) (hab : b + 10 < a ∨ a + 1 < b) (hn : mm_gi h a 1 = nI (m + 1)) (hm15 : m ≤ 15) (k : ∀ h', TB h a b m h' → K (some (.int (mm_gi h (a + 1) (15 * m)))) h') : mm_MV q_X8_takeBack (d + 1) (0, 0) [.ref a, .ref b] h K := by
  obtain ⟨h1, h2, h3, h4⟩ := id H
  obtain ⟨b1, b2, b3, b4⟩ := id B
  have e1 : nI m * nI 15 = nI (15 * m) := by rw [pk_mul, Nat.mul_comm]
  have c0 : (nI (15 * m)).toNatClampNeg = 15 * m := nI_clamp (by omega)
  have c1 : (nI (15 * m + 1)).toNatClampNeg = 15 * m + 1 := nI_clamp (by omega)
  have c2 : (nI (15 * m + 2)).toNatClampNeg = 15 * m + 2 := nI_clamp (by omega)
  have v0 : vp_in (nI (15 * m)) 240 := vp_in_nI (by omega) (by decide)
  have v1 : vp_in (nI (15 * m + 1)) 240 := vp_in_nI (by omega) (by decide)
  have v2 : vp_in (nI (15 * m + 2)) 240 := vp_in_nI (by omega) (by decide)
  have v3 : vp_in (nI 0) 3 := vp_in_nI (by decide) (by decide)
  have s1 : nI (m + 1) - nI 1 = nI m := by rw [pk_sub (by omega)]; rfl
  refine e_X8_takeBack (t_X8_takeBack_0 _ _ _ ?_)
  simp only [s_iadd, s_isub, s_imul, s_iand, s_ior, s_ixor, s_ishl, s_ishr, s_iushr, s_idiv, s_irem, s_ladd, s_lsub, s_lmul, s_ldiv, s_lrem, s_ineg, s_i2l, s_l2i, s_i2c, s_lcmp, s_ic, s_lc, s_nul, s_str, s_il, s_ll, s_al, s_dup, s_dup2, s_pop, s_ifne, s_icne, s_ifeq, s_iflt, s_ifge, s_ifgt, s_ifle, s_iceq, s_iclt, s_icge, s_icgt, s_icle, s_ifnull, s_ifnonnull, s_is, s_ls, s_as, s_ii, s_gi, s_gl, s_gr, s_pi, s_pz, s_pl, s_pr, s_iald, s_zald, s_lald, s_aald, s_alen, s_iast, s_zast, s_last, s_iret, s_zret, s_lret, s_aret, s_vret, s_sw, s_aast, mm_sw, mm_ld, mm_s1, mm_s2, mm_kl, Value.category, va_rf, List.nil_append, List.cons_append, Option.toList, true_and, and_true, and_self, true_or, or_true, eq_self, not_true_eq_false, false_implies, true_implies, not_false_eq_true, mm_10, mm_01, false_or, or_false, Nat.left_eq_add, Nat.add_eq_left, Nat.add_left_cancel_iff, Nat.reduceEqDiff, false_and, and_false, reduceIte, mm_kd_pi, mm_ln_pi, mm_gl_pi, mm_gr_pi, mm_sz_pi, mm_gi_pi, mm_kd_pl, mm_ln_pl, mm_gi_pl, mm_gr_pl, mm_sz_pl, mm_gl_pl, mm_kd_pr, mm_ln_pr, mm_gi_pr, mm_gl_pr, mm_sz_pr, mm_gr_pr, mm_kd_pa, mm_ln_pa, mm_gl_pa, mm_gr_pa, mm_sz_pa, mm_gi_pa, h1, h2, h3, h4, b1, b2, b3, b4, hsz0 B, hsz B (show 9 ≤ 10 by decide), hn, l_15, e1, l_0, l_1, l_2, l_3, s1, nI_add, c0, c1, c2, v0, v1, v2, v3, show (nI 0).toNatClampNeg = 0 from rfl, show (a + 1 = b) = False by simp; omega, show (b = a) = False by simp; omega]
  refine ⟨fun _ => ?_, fun c => absurd (nI_lt (by omega) (by omega)) c⟩
  refine mm_abs (P := fun g => (mm_kd g = mm_kd h ∧ mm_ln g = mm_ln h ∧ mm_gl g = mm_gl h ∧ mm_gr g = mm_gr h ∧ mm_sz g = mm_sz h) ∧ (∀ c, c ≠ a → c ≠ b → c ≠ b + 9 → mm_gi g c = mm_gi h c) ∧ mm_gi g a 1 = nI m ∧ (∀ j, j ≠ 5 → mm_gi g b j = mm_gi h b j) ∧ mm_gi g b 5 = mm_gi h (a + 1) (15 * m + 1) ∧ mm_gi g (b + 9) 0 = mm_gi h (a + 1) (15 * m + 2) ∧ (∀ j, j ≠ 0 → mm_gi g (b + 9) j = mm_gi h (b + 9) j)) ?_ (fun g J => ?_)
  · refine ⟨⟨rfl, rfl, rfl, rfl, rfl⟩, fun c q1 q2 q3 => ?_, ?_, fun j hj => ?_, ?_, ?_, fun j hj => ?_⟩
    · funext j; simp [mm_gi_pi, q1, q2, q3]
    · simp [mm_gi_pi, show a ≠ b by omega, show a ≠ b + 9 by omega]
    · simp [mm_gi_pi, hj, show b ≠ a by omega]
    · simp [mm_gi_pi]
    · simp [mm_gi_pi]
    · simp [mm_gi_pi, hj, show b + 9 ≠ a by omega]
  obtain ⟨J, g1, g2, g3, g4, g5, g6⟩ := J
  have H1 := trS_cg J H
  have B1 := hsh_cg2 J B
  have cc3 : (nI (15 * m + 3)).toNatClampNeg = 15 * m + 3 := nI_clamp (by omega)
  refine c_X8_takeBack_67 (Nat.le_of_ble_eq_true rfl) ⟨B1.2.2.1.2.2.2.1, hsz B1 (show 4 ≤ 10 by decide)⟩ ⟨H1.2.2.1, H1.1.2.1⟩ (nI_pos (by omega)) (by decide) (by decide) ?_ (show 0 + 6 ≤ mm_ln g (b + 4) by rw [B1.2.2.2.2.2.2.1]; decide) ?_
  · rw [cc3, H1.2.2.2]
    show 15 * m + 3 + 6 ≤ 240
    omega
  rw [cc3]
  refine mm_abs (P := fun g' => (mm_kd g' = mm_kd h ∧ mm_ln g' = mm_ln h ∧ mm_gl g' = mm_gl h ∧ mm_gr g' = mm_gr h ∧ mm_sz g' = mm_sz h) ∧ (∀ c, c ≠ b + 4 → mm_gi g' c = mm_gi g c) ∧ ∀ c, c < 6 → mm_gi g' (b + 4) c = mm_gi h (a + 1) (15 * m + 3 + c)) ?_ (fun g' J' => ?_)
  · refine ⟨J, fun c hc => ?_, fun c hc => ?_⟩
    · funext j; rw [mm_gi_pa, if_neg hc]
    · rw [mm_gi_pa, if_pos rfl]
      show va_cpy (mm_gi g (a + 1)) (mm_gi g (b + 4)) (15 * m + 3) 0 6 c = _
      rw [pk_cpy_in (Nat.zero_le _) (by omega), g1 (a + 1) (by omega) (by omega) (by omega)]
      show mm_gi h (a + 1) (15 * m + 3 + (c - 0)) = _
      rw [Nat.sub_zero]
  obtain ⟨J', p1, p2⟩ := J'
  have H2 := trS_cg J' H
  have B2 := hsh_cg2 J' B
  have cc9 : (nI (15 * m + 3 + 6)).toNatClampNeg = 15 * m + 9 := nI_clamp (by omega)
  refine t_X8_takeBack_70 _ _ _ ?_
  simp only [s_iadd, s_isub, s_imul, s_iand, s_ior, s_ixor, s_ishl, s_ishr, s_iushr, s_idiv, s_irem, s_ladd, s_lsub, s_lmul, s_ldiv, s_lrem, s_ineg, s_i2l, s_l2i, s_i2c, s_lcmp, s_ic, s_lc, s_nul, s_str, s_il, s_ll, s_al, s_dup, s_dup2, s_pop, s_ifne, s_icne, s_ifeq, s_iflt, s_ifge, s_ifgt, s_ifle, s_iceq, s_iclt, s_icge, s_icgt, s_icle, s_ifnull, s_ifnonnull, s_is, s_ls, s_as, s_ii, s_gi, s_gl, s_gr, s_pi, s_pz, s_pl, s_pr, s_iald, s_zald, s_lald, s_aald, s_alen, s_iast, s_zast, s_last, s_iret, s_zret, s_lret, s_aret, s_vret, s_sw, s_aast, mm_sw, mm_ld, mm_s1, mm_s2, mm_kl, Value.category, va_rf, List.nil_append, List.cons_append, Option.toList, true_and, and_true, and_self, true_or, or_true, eq_self, not_true_eq_false, false_implies, true_implies, not_false_eq_true, mm_10, mm_01, false_or, or_false, Nat.left_eq_add, Nat.add_eq_left, Nat.add_left_cancel_iff, Nat.reduceEqDiff, false_and, and_false, reduceIte, mm_kd_pi, mm_ln_pi, mm_gl_pi, mm_gr_pi, mm_sz_pi, mm_gi_pi, mm_kd_pl, mm_ln_pl, mm_gi_pl, mm_gr_pl, mm_sz_pl, mm_gl_pl, mm_kd_pr, mm_ln_pr, mm_gi_pr, mm_gl_pr, mm_sz_pr, mm_gr_pr, mm_kd_pa, mm_ln_pa, mm_gl_pa, mm_gr_pa, mm_sz_pa, mm_gi_pa, H2.1, H2.2.1, B2.1, B2.2.1, hsz0 B2, l_3, l_6, nI_add]
  refine c_X8_takeBack_87 (Nat.le_of_ble_eq_true rfl) ⟨B2.2.2.1.2.2.2.2.2.1, hsz B2 (show 6 ≤ 10 by decide)⟩ ⟨H2.2.2.1, H2.1.2.1⟩ (nI_pos (by omega)) (by decide) (by decide) ?_ (show 0 + 6 ≤ mm_ln g' (b + 6) by rw [B2.2.2.2.2.2.2.2.2.1]; decide) ?_
  · rw [cc9, H2.2.2.2]
    show 15 * m + 9 + 6 ≤ 240
    omega
  rw [cc9]
  refine mm_abs (P := fun gz => (mm_kd gz = mm_kd h ∧ mm_ln gz = mm_ln h ∧ mm_gl gz = mm_gl h ∧ mm_gr gz = mm_gr h ∧ mm_sz gz = mm_sz h) ∧ (∀ c, c ≠ b + 6 → mm_gi gz c = mm_gi g' c) ∧ ∀ c, c < 6 → mm_gi gz (b + 6) c = mm_gi h (a + 1) (15 * m + 9 + c)) ?_ (fun gz J2 => ?_)
  · refine ⟨J', fun c hc => ?_, fun c hc => ?_⟩
    · funext j; rw [mm_gi_pa, if_neg hc]
    · rw [mm_gi_pa, if_pos rfl]
      show va_cpy (mm_gi g' (a + 1)) (mm_gi g' (b + 6)) (15 * m + 9) 0 6 c = _
      rw [pk_cpy_in (Nat.zero_le _) (by omega), p1 (a + 1) (by omega), g1 (a + 1) (by omega) (by omega) (by omega)]
      show mm_gi h (a + 1) (15 * m + 9 + (c - 0)) = _
      rw [Nat.sub_zero]
  obtain ⟨J2, r1, r2⟩ := J2
  have H3 := trS_cg J2 H
  refine t_X8_takeBack_90 _ _ _ ?_
  simp only [s_iadd, s_isub, s_imul, s_iand, s_ior, s_ixor, s_ishl, s_ishr, s_iushr, s_idiv, s_irem, s_ladd, s_lsub, s_lmul, s_ldiv, s_lrem, s_ineg, s_i2l, s_l2i, s_i2c, s_lcmp, s_ic, s_lc, s_nul, s_str, s_il, s_ll, s_al, s_dup, s_dup2, s_pop, s_ifne, s_icne, s_ifeq, s_iflt, s_ifge, s_ifgt, s_ifle, s_iceq, s_iclt, s_icge, s_icgt, s_icle, s_ifnull, s_ifnonnull, s_is, s_ls, s_as, s_ii, s_gi, s_gl, s_gr, s_pi, s_pz, s_pl, s_pr, s_iald, s_zald, s_lald, s_aald, s_alen, s_iast, s_zast, s_last, s_iret, s_zret, s_lret, s_aret, s_vret, s_sw, s_aast, mm_sw, mm_ld, mm_s1, mm_s2, mm_kl, Value.category, va_rf, List.nil_append, List.cons_append, Option.toList, true_and, and_true, and_self, true_or, or_true, eq_self, not_true_eq_false, false_implies, true_implies, not_false_eq_true, mm_10, mm_01, false_or, or_false, Nat.left_eq_add, Nat.add_eq_left, Nat.add_left_cancel_iff, Nat.reduceEqDiff, false_and, and_false, reduceIte, mm_kd_pi, mm_ln_pi, mm_gl_pi, mm_gr_pi, mm_sz_pi, mm_gi_pi, mm_kd_pl, mm_ln_pl, mm_gi_pl, mm_gr_pl, mm_sz_pl, mm_gl_pl, mm_kd_pr, mm_ln_pr, mm_gi_pr, mm_gl_pr, mm_sz_pr, mm_gr_pr, mm_kd_pa, mm_ln_pa, mm_gl_pa, mm_gr_pa, mm_sz_pa, mm_gi_pa, H3.1, H3.2, c0, v0]
  have ee : mm_gi gz (a + 1) = mm_gi h (a + 1) := by rw [r1 (a + 1) (by omega), p1 (a + 1) (by omega), g1 (a + 1) (by omega) (by omega) (by omega)]
  rw [ee]
  refine k gz ⟨J2, fun c q1 q2 q3 q4 q5 => ?_, ?_, fun j hj => ?_, ?_, ?_, fun j hj => ?_, fun c hc => ?_, r2⟩
  · rw [r1 c q4, p1 c q3, g1 c q1 q2 q5]
  · rw [r1 a (by omega), p1 a (by omega)]; exact g2
  · rw [r1 b (by omega), p1 b (by omega)]; exact g3 j hj
  · rw [r1 b (by omega), p1 b (by omega)]; exact g4
  · rw [r1 (b + 9) (by omega), p1 (b + 9) (by omega)]; exact g5
  · rw [r1 (b + 9) (by omega), p1 (b + 9) (by omega)]; exact g6 j hj
  · rw [r1 (b + 4) (by omega)]; exact p2 c hc
end
