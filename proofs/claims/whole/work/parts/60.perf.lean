/-! the class performs -/
def xhs (a c _j : Nat) : Prop := (c = 2 ∨ c = 3) ∨ (a ≤ c ∧ c ≤ a + 9)
theorem xhs_C {h g : mmH} {a : Nat} (F : fx xC y0 h g) : fx (xhs a) y0 h g := fx_mo (fun c j z => Or.inl z) (fun c z => z) F
theorem lE_cg {S S' : HSt} {c : Nat} {l : Option Nat} {tr : Int} {kn dy : Nat} (e : ∀ i j, i ≠ 0 → i ≠ 1 → i ≠ 9 ∨ j ≠ 0 → (i = 2 → j ≠ c) → S' i j = S i j) (e2 : S' 2 c = S 2 c) : lE S' c l tr kn dy = lE S c l tr kn dy := by
  funext j
  have e3 := e 3 c (by omega) (by omega) (by omega) (by omega)
  have e9 := e 9 2 (by omega) (by omega) (by omega) (by omega)
  cases l with
  | none => unfold lE; rw [e3, e9, e2]
  | some l =>
    have e6 := e 6 l (by omega) (by omega) (by omega) (by omega)
    have e5 := e 5 l (by omega) (by omega) (by omega) (by omega)
    unfold lE
    simp only [e3, e9, e2, e6, e5]
theorem lE_ps {S : HSt} {A : Option lwD} {n c : Nat} {l : Option Nat} {tr : Int} {kn dy : Nat} : lE (psS S A n) c l tr kn dy = lE S c l tr kn dy := lE_cg (fun i j h0 h1 _ _ => by unfold psS; rw [if_neg (fun z => h1 z.1)]) (by unfold psS; rw [if_neg (by omega)])
theorem fdF_cg {S S' : HSt} {A : Option lwD} {c kn dy : Nat} (e : ∀ tr, lE S' c none tr kn dy = lE S c none tr kn dy) : ∀ t, fdF S' A c kn dy t = fdF S A c kn dy t
  | 0 => rfl
  | t + 1 => by rw [fdF, fdF, fdF_cg e t, e]
theorem psS_s {S : HSt} {A : Option lwD} {i : Nat} : upS (psS S A i) 1 i (S 1 i - fdF S A i (S 1 i) (S 9 0) 8) = psS S A (i + 1) := by
  funext a b
  unfold upS psS
  by_cases z : a = 1 ∧ b = i
  · rw [if_pos z, if_pos ⟨z.1, by omega⟩, z.2]
  · rw [if_neg z]
    by_cases y : a = 1 ∧ b < i
    · rw [if_pos y, if_pos ⟨y.1, by omega⟩]
    · rw [if_neg y, if_neg (fun w => by omega)]
theorem psS_0 {S : HSt} {A : Option lwD} : psS S A 0 = S := by
  funext a b
  unfold psS
  rw [if_neg (by omega)]
section
variable {h : mmH} {a : Nat} {S : HSt} {c k : Nat}
theorem HC_set1 (H : HC h a S) : HC (mm_pi h (a + 4) c (nI k)) a (upS S 1 c k) := by
  obtain ⟨h1, h2, h3, h4, h5⟩ := H
  refine ⟨?_, fun c' hc' => ?_, fun l hl => ?_, fun t ht => ?_, fun k hk => ?_⟩
  · simp only [mm_gi_pi, show (a = a + 4) = False by simp, false_and, if_false]; exact h1
  · obtain ⟨a1, a2, a3⟩ := h2 c' hc'
    refine ⟨?_, ?_, ?_⟩
    · rw [mm_gi_pi]
      by_cases z : c' = c
      · simp [upS, z]
      · simp [upS, z]; exact a1
    · rw [mm_gi_pi, if_neg (by omega), a2]; simp [upS]
    · rw [mm_gi_pi, if_neg (by omega), a3]; simp [upS]
  · rw [mm_gi_pi, if_neg (by omega), mm_gi_pi, if_neg (by omega), mm_gi_pi, if_neg (by omega)]; exact h3 l hl
  · rw [mm_gi_pi, if_neg (by omega), mm_gi_pi, if_neg (by omega)]; exact h4 t ht
  · rw [mm_gi_pi, if_neg (by omega)]; exact h5 k hk
theorem HC_set2 (H : HC h a S) : HC (mm_pi h (a + 6) c (nI k)) a (upS S 2 c k) := by
  obtain ⟨h1, h2, h3, h4, h5⟩ := H
  refine ⟨?_, fun c' hc' => ?_, fun l hl => ?_, fun t ht => ?_, fun k hk => ?_⟩
  · simp only [mm_gi_pi, show (a = a + 6) = False by simp, false_and, if_false]; exact h1
  · obtain ⟨a1, a2, a3⟩ := h2 c' hc'
    refine ⟨?_, ?_, ?_⟩
    · rw [mm_gi_pi, if_neg (by omega), a1]; simp [upS]
    · rw [mm_gi_pi]
      by_cases z : c' = c
      · simp [upS, z]
      · simp [upS, z]; exact a2
    · rw [mm_gi_pi, if_neg (by omega), a3]; simp [upS]
  · rw [mm_gi_pi, if_neg (by omega), mm_gi_pi, if_neg (by omega), mm_gi_pi, if_neg (by omega)]; exact h3 l hl
  · rw [mm_gi_pi, if_neg (by omega), mm_gi_pi, if_neg (by omega)]; exact h4 t ht
  · rw [mm_gi_pi, if_neg (by omega)]; exact h5 k hk
theorem HC_setA (H : HC h a S) : HC (mm_pi h a 5 (nI k)) a (upS S 0 4 k) := by
  obtain ⟨⟨c1, c2, c3, c4, c5, c6⟩, h2, h3, h4, h5⟩ := H
  refine ⟨⟨?_, ?_, ?_, ?_, ?_, ?_⟩, fun c' hc' => ?_, fun l hl => ?_, fun t ht => ?_, fun k hk => ?_⟩
  · rw [mm_gi_pi, if_neg (by omega), c1]; rfl
  · rw [mm_gi_pi, if_neg (by omega), c2]; rfl
  · rw [mm_gi_pi, if_neg (by omega), c3]; rfl
  · rw [mm_gi_pi, if_neg (by omega), c4]; rfl
  · rw [mm_gi_pi, if_pos ⟨rfl, rfl⟩]; rfl
  · rw [mm_gi_pi, if_neg (by omega), c6]; rfl
  · rw [mm_gi_pi, if_neg (by omega), mm_gi_pi, if_neg (by omega), mm_gi_pi, if_neg (by omega)]; exact h2 c' hc'
  · rw [mm_gi_pi, if_neg (by omega), mm_gi_pi, if_neg (by omega), mm_gi_pi, if_neg (by omega)]; exact h3 l hl
  · rw [mm_gi_pi, if_neg (by omega), mm_gi_pi, if_neg (by omega)]; exact h4 t ht
  · rw [mm_gi_pi, if_neg (by omega)]; exact h5 k hk
theorem HC_setT (H : HC h a S) : HC (mm_pi h (a + 9) 0 (nI k)) a (upS S 9 0 k) := by
  obtain ⟨h1, h2, h3, h4, h5⟩ := H
  refine ⟨?_, fun c' hc' => ?_, fun l hl => ?_, fun t ht => ?_, fun k' hk => ?_⟩
  · simp only [mm_gi_pi, show (a = a + 9) = False by simp, false_and, if_false]; exact h1
  · rw [mm_gi_pi, if_neg (by omega), mm_gi_pi, if_neg (by omega), mm_gi_pi, if_neg (by omega)]; exact h2 c' hc'
  · rw [mm_gi_pi, if_neg (by omega), mm_gi_pi, if_neg (by omega), mm_gi_pi, if_neg (by omega)]; exact h3 l hl
  · rw [mm_gi_pi, if_neg (by omega), mm_gi_pi, if_neg (by omega)]; exact h4 t ht
  · rw [mm_gi_pi]
    by_cases z : k' = 0
    · simp [upS, z]
    · simp [upS, z]; exact h5 k' hk
end
theorem HV_ps {S : HSt} {A : Option lwD} {n : Nat} (v : HV S) : HV (psS S A n) := by
  obtain ⟨v1, v2, v3, v4, v5⟩ := v
  refine ⟨by simpa [psS] using v1, fun c hc => ?_, by simpa [psS] using v3, by simpa [psS] using v4, by simpa [psS] using v5⟩
  obtain ⟨a1, a2, a3, a4⟩ := v2 c (by simpa [psS] using hc)
  refine ⟨?_, by simpa [psS] using a2, by simpa [psS] using a3, by simpa [psS] using a4⟩
  unfold psS
  split <;> omega
theorem HV_dS {S : HSt} {A : Option lwD} {kind p q : Nat} {x y : Int32} (hk : kind < 4) (v : HV S) (ok : dOk S A kind x y p q) : HV (dS S A kind p q) := by
  match kind, hk with
  | 0, _ =>
    obtain ⟨v1, v2, v3, v4, v5⟩ := v
    have tl := tkS_lt (S := S) (A := A) (c := q) (l := p) (v2 q ok.2.1).1 8 (by decide)
    refine ⟨v1, fun c hc => ?_, v3, v4, v5⟩
    obtain ⟨a1, a2, a3, a4⟩ := v2 c hc
    by_cases z : c = q
    · subst z
      simp [dS, upS]
      omega
    · simp [dS, upS, z]
      omega
  | 1, _ =>
    obtain ⟨⟨v1, v2, v3, v4, v5, v6⟩, w⟩ := v
    refine ⟨⟨v1, v2, v3, v4, ?_, v6⟩, w⟩
    show S 0 4 ||| 2 ^ p < 2 ^ S 0 0
    exact Nat.or_lt_two_pow v5 (Nat.pow_lt_pow_right (by decide) ok.1)
  | 2, _ =>
    obtain ⟨v1, v2, v3, v4, v5⟩ := v
    refine ⟨v1, fun c hc => ?_, v3, v4, v5⟩
    obtain ⟨a1, a2, a3, a4⟩ := v2 c hc
    by_cases z : c = q
    · subst z
      have := Nat.sub_le (S 1 c) (2 ^ p)
      refine ⟨?_, a2, a3, a4⟩
      simp [dS, upS]
      omega
    · simp [dS, upS, z]
      omega
  | 3, _ =>
    obtain ⟨v1, v2, v3, v4, v5⟩ := HV_ps (A := A) (n := S 0 1) v
    refine ⟨v1, v2, v3, v4, fun k hk => ?_⟩
    have ok : S 9 0 < 999 := ok
    by_cases z : k = 0
    · subst z
      simp [dS, upS, tmax]
      omega
    · have := v5 k hk
      simp [dS, upS, z]
      exact this
section
variable {d : Nat} {h : mmH} {a : Nat} {S : HSt} {K : Option Value → mmH → Prop} {A : Option lwD} {p q : Nat}
theorem CAL_x {g : mmH} {S' : HSt} {X : Nat → Nat → Prop} (F : fx X y0 h g) (hX : ∀ c j, 122 ≤ c → ¬ X c j) (e3 : S' 0 3 = S 0 3) (e5 : S' 0 5 = S 0 5) (H : CAL h a S A) : CAL g a S' A := by
  refine ⟨by rw [e3, F.1.2.2.1]; exact H.1, ?_⟩
  rcases H.2 with z | ⟨t, L, z1, z2, z3, z4, z5, z6⟩
  · exact Or.inl ⟨e5.trans z.1, z.2⟩
  · refine Or.inr ⟨t, L, by omega, by rw [F.1.2.2.1, e5]; exact z2, z3, CLW_cg (fun c c1 c2 c3 => ⟨by rw [F.1.1], by rw [F.1.2.1], fun j => F.2.1 c j (hX c j (by omega)), fun j => by rw [F.1.2.2.1]⟩) (Nat.le_of_eq F.1.2.2.2.symm) z4, z5, z6⟩
theorem LV_ofa (Ha : hsh h a) (v : HV S) (hc : HC h a S) (hA : CAL h a S A) (k : ∀ x, LV h A x → (x = .null ∨ ∃ t : Nat, x = .ref t) → K (some x) h) : mm_MV q_X1_lawInForce (d + 1) (0, 0) [.ref a] h K := by
  have v6 := v.1.2.2.2.2.2
  have v4 := v.1.2.2.2.1
  refine sp_lawInForce Ha hc.1.2.2.2.1 v4 (fun z => k _ (Or.inl ⟨?_, rfl⟩) (Or.inl rfl)) (fun j t hj e ht => k _ (Or.inr ?_) (Or.inr ⟨t, rfl⟩)) hA.1
  · rcases hA.2 with ⟨_, y⟩ | ⟨t, L, y1, y2, _⟩
    · exact y
    · refine absurd ?_ z
      rw [hc.1.2.2.2.2.2, fo, if_neg (by omega)]
      exact vp_in_nI (by omega) (by omega)
  · rcases hA.2 with ⟨y, _⟩ | ⟨t', L, y1, y2, y3, y4, y5, y6⟩
    · rw [hc.1.2.2.2.2.2, fo, if_pos y] at e
      exact absurd e.symm (nI_m1 (by omega))
    · have ej : S 0 5 - 1 = j := by
        rw [hc.1.2.2.2.2.2, fo, if_neg (by omega)] at e
        exact (nI_eq (by omega) (by omega)).mp e
      rw [ej, ht] at y2
      cases y2
      exact ⟨t, L, y6, rfl, y3, y4⟩
theorem min99 {g : Nat} (hg : g ≤ 99) : (if nI (g + 1) < 99 then nI (g + 1) else 99) = nI (min 99 (g + 1)) := by
  by_cases z : g + 1 < 99
  · rw [if_pos (show nI (g + 1) < 99 from nI_lt (b := 99) z (by decide)), Nat.min_eq_right (by omega)]
  · rw [if_neg (show ¬ nI (g + 1) < 99 from nI_nlt (b := 99) (by omega) (by omega)), Nat.min_eq_left (by omega)]; rfl
theorem sp_perf0 (H : WS h) (Ha : hsh h a) (ha : 4 ≤ a ∧ a + 10 < 122) (v : HV S) (hc : HC h a S) (hA : CAL h a S A) (hp : p < S 0 0) (hq : q < S 0 1) (k : ∀ g, fx (xhs a) y0 h g → HC g a (dS S A 0 p q) → K (some (.int (dR S A 0 p q))) g) : mm_MV q_X1_perform (d + 4) (0, 0) [.ref a, .int 0, .int (nI p), .int (nI q)] h K := by
  have c6 : q < 6 := by have := v.1.2.1; omega
  obtain ⟨h1, h2, h3, h4⟩ := id Ha
  have w1 := v.2.1 q hq
  have vc := vp_in_nI c6 (show 6 < 2 ^ 31 by decide)
  have cl := nI_clamp (show q < 2 ^ 31 by omega)
  have e8 := (hc.2.1 q hq).1
  have tl := tkS_lt (S := S) (A := A) (c := q) (l := p) w1.1 8 (by decide)
  refine e_X1_perform (t_X1_perform_0 _ _ _ ?_)
  simp only [s_iadd, s_isub, s_imul, s_iand, s_ior, s_ixor, s_ishl, s_ishr, s_iushr, s_idiv, s_irem, s_ladd, s_lsub, s_lmul, s_ldiv, s_lrem, s_ineg, s_i2l, s_l2i, s_i2c, s_lcmp, s_ic, s_lc, s_nul, s_str, s_il, s_ll, s_al, s_dup, s_dup2, s_pop, s_ifne, s_icne, s_ifeq, s_iflt, s_ifge, s_ifgt, s_ifle, s_iceq, s_iclt, s_icge, s_icgt, s_icle, s_ifnull, s_ifnonnull, s_is, s_ls, s_as, s_ii, s_gi, s_gl, s_gr, s_pi, s_pz, s_pl, s_pr, s_iald, s_zald, s_lald, s_aald, s_alen, s_iast, s_zast, s_last, s_iret, s_zret, s_lret, s_aret, s_vret, s_sw, s_aast, mm_sw, mm_ld, mm_s1, mm_s2, mm_kl, Value.category, va_rf, List.nil_append, List.cons_append, Option.toList, true_and, and_true, and_self, true_or, or_true, eq_self, not_true_eq_false, false_implies, true_implies, not_false_eq_true, mm_10, mm_01, false_or, or_false, Nat.left_eq_add, Nat.add_eq_left, Nat.add_left_cancel_iff, Nat.reduceEqDiff, false_and, and_false, reduceIte, mm_kd_pi, mm_ln_pi, mm_gl_pi, mm_gr_pi, mm_sz_pi, mm_gi_pi, mm_kd_pl, mm_ln_pl, mm_gi_pl, mm_gr_pl, mm_sz_pl, mm_gl_pl, mm_kd_pr, mm_ln_pr, mm_gi_pr, mm_gl_pr, mm_sz_pr, mm_gr_pr, mm_kd_pa, mm_ln_pa, mm_gl_pa, mm_gr_pa, mm_sz_pa, mm_gi_pa, h1, h2, h3, h4, hsz0 Ha, hsz Ha (show 4 ≤ 10 by decide), vc, cl, e8]
  refine c_X1_perform_50 (bb := (0, 0)) (b := (0, 0)) (Nat.le_of_ble_eq_true rfl) ⟨rfl, rfl⟩ (W_kd_1 H) (W_s_1 H) (sp_takeUp H Ha ha.1 v hc hA hq hp w1.1 (fun g F => ?_))
  have hcg := HC_fx ha.1 F hc
  have Hag := fx_hsh F Ha
  obtain ⟨b1, b2, b3, b4⟩ := id Hag
  refine t_X1_perform_53 _ _ _ ?_
  simp only [s_iadd, s_isub, s_imul, s_iand, s_ior, s_ixor, s_ishl, s_ishr, s_iushr, s_idiv, s_irem, s_ladd, s_lsub, s_lmul, s_ldiv, s_lrem, s_ineg, s_i2l, s_l2i, s_i2c, s_lcmp, s_ic, s_lc, s_nul, s_str, s_il, s_ll, s_al, s_dup, s_dup2, s_pop, s_ifne, s_icne, s_ifeq, s_iflt, s_ifge, s_ifgt, s_ifle, s_iceq, s_iclt, s_icge, s_icgt, s_icle, s_ifnull, s_ifnonnull, s_is, s_ls, s_as, s_ii, s_gi, s_gl, s_gr, s_pi, s_pz, s_pl, s_pr, s_iald, s_zald, s_lald, s_aald, s_alen, s_iast, s_zast, s_last, s_iret, s_zret, s_lret, s_aret, s_vret, s_sw, s_aast, mm_sw, mm_ld, mm_s1, mm_s2, mm_kl, Value.category, va_rf, List.nil_append, List.cons_append, Option.toList, true_and, and_true, and_self, true_or, or_true, eq_self, not_true_eq_false, false_implies, true_implies, not_false_eq_true, mm_10, mm_01, false_or, or_false, Nat.left_eq_add, Nat.add_eq_left, Nat.add_left_cancel_iff, Nat.reduceEqDiff, false_and, and_false, reduceIte, mm_kd_pi, mm_ln_pi, mm_gl_pi, mm_gr_pi, mm_sz_pi, mm_gi_pi, mm_kd_pl, mm_ln_pl, mm_gi_pl, mm_gr_pl, mm_sz_pl, mm_gl_pl, mm_kd_pr, mm_ln_pr, mm_gi_pr, mm_gl_pr, mm_sz_pr, mm_gr_pr, mm_kd_pa, mm_ln_pa, mm_gl_pa, mm_gr_pa, mm_sz_pa, mm_gi_pa, b1, b2, b3, b4, hsz0 Hag, hsz Hag (show 4 ≤ 10 by decide), hsz Hag (show 6 ≤ 10 by decide), vc, cl, (hcg.2.1 q hq).2.1, nI_1]
  refine c_X1_perform_69 (Nat.le_of_ble_eq_true rfl) ?_
  rw [min99 (by omega)]
  refine t_X1_perform_72 _ _ _ ?_
  simp only [s_iadd, s_isub, s_imul, s_iand, s_ior, s_ixor, s_ishl, s_ishr, s_iushr, s_idiv, s_irem, s_ladd, s_lsub, s_lmul, s_ldiv, s_lrem, s_ineg, s_i2l, s_l2i, s_i2c, s_lcmp, s_ic, s_lc, s_nul, s_str, s_il, s_ll, s_al, s_dup, s_dup2, s_pop, s_ifne, s_icne, s_ifeq, s_iflt, s_ifge, s_ifgt, s_ifle, s_iceq, s_iclt, s_icge, s_icgt, s_icle, s_ifnull, s_ifnonnull, s_is, s_ls, s_as, s_ii, s_gi, s_gl, s_gr, s_pi, s_pz, s_pl, s_pr, s_iald, s_zald, s_lald, s_aald, s_alen, s_iast, s_zast, s_last, s_iret, s_zret, s_lret, s_aret, s_vret, s_sw, s_aast, mm_sw, mm_ld, mm_s1, mm_s2, mm_kl, Value.category, va_rf, List.nil_append, List.cons_append, Option.toList, true_and, and_true, and_self, true_or, or_true, eq_self, not_true_eq_false, false_implies, true_implies, not_false_eq_true, mm_10, mm_01, false_or, or_false, Nat.left_eq_add, Nat.add_eq_left, Nat.add_left_cancel_iff, Nat.reduceEqDiff, false_and, and_false, reduceIte, mm_kd_pi, mm_ln_pi, mm_gl_pi, mm_gr_pi, mm_sz_pi, mm_gi_pi, mm_kd_pl, mm_ln_pl, mm_gi_pl, mm_gr_pl, mm_sz_pl, mm_gl_pl, mm_kd_pr, mm_ln_pr, mm_gi_pr, mm_gl_pr, mm_sz_pr, mm_gr_pr, mm_kd_pa, mm_ln_pa, mm_gl_pa, mm_gr_pa, mm_sz_pa, mm_gi_pa, b1, b2, b3, b4, hsz0 Hag, hsz Hag (show 4 ≤ 10 by decide), hsz Hag (show 6 ≤ 10 by decide), vc, cl]
  refine c_X1_perform_79 (bb := (0, 0)) (b := (0, 0)) (Nat.le_of_ble_eq_true rfl) ⟨rfl, rfl⟩ (sp_bitCount tl ?_)
  refine t_X1_perform_82 _ _ _ ?_
  simp only [s_iadd, s_isub, s_imul, s_iand, s_ior, s_ixor, s_ishl, s_ishr, s_iushr, s_idiv, s_irem, s_ladd, s_lsub, s_lmul, s_ldiv, s_lrem, s_ineg, s_i2l, s_l2i, s_i2c, s_lcmp, s_ic, s_lc, s_nul, s_str, s_il, s_ll, s_al, s_dup, s_dup2, s_pop, s_ifne, s_icne, s_ifeq, s_iflt, s_ifge, s_ifgt, s_ifle, s_iceq, s_iclt, s_icge, s_icgt, s_icle, s_ifnull, s_ifnonnull, s_is, s_ls, s_as, s_ii, s_gi, s_gl, s_gr, s_pi, s_pz, s_pl, s_pr, s_iald, s_zald, s_lald, s_aald, s_alen, s_iast, s_zast, s_last, s_iret, s_zret, s_lret, s_aret, s_vret, s_sw, s_aast, mm_sw, mm_ld, mm_s1, mm_s2, mm_kl, Value.category, va_rf, List.nil_append, List.cons_append, Option.toList, true_and, and_true, and_self, true_or, or_true, eq_self, not_true_eq_false, false_implies, true_implies, not_false_eq_true, mm_10, mm_01, false_or, or_false, Nat.left_eq_add, Nat.add_eq_left, Nat.add_left_cancel_iff, Nat.reduceEqDiff, false_and, and_false, reduceIte, mm_kd_pi, mm_ln_pi, mm_gl_pi, mm_gr_pi, mm_sz_pi, mm_gi_pi, mm_kd_pl, mm_ln_pl, mm_gi_pl, mm_gr_pl, mm_sz_pl, mm_gl_pl, mm_kd_pr, mm_ln_pr, mm_gi_pr, mm_gl_pr, mm_sz_pr, mm_gr_pr, mm_kd_pa, mm_ln_pa, mm_gl_pa, mm_gr_pa, mm_sz_pa, mm_gi_pa]
  refine c_X1_perform_84 (bb := (0, 0)) (b := (0, 0)) (Nat.le_of_ble_eq_true rfl) ⟨rfl, rfl⟩ (sp_bitCount w1.1 ?_)
  refine t_X1_perform_87 _ _ _ ?_
  simp only [s_iadd, s_isub, s_imul, s_iand, s_ior, s_ixor, s_ishl, s_ishr, s_iushr, s_idiv, s_irem, s_ladd, s_lsub, s_lmul, s_ldiv, s_lrem, s_ineg, s_i2l, s_l2i, s_i2c, s_lcmp, s_ic, s_lc, s_nul, s_str, s_il, s_ll, s_al, s_dup, s_dup2, s_pop, s_ifne, s_icne, s_ifeq, s_iflt, s_ifge, s_ifgt, s_ifle, s_iceq, s_iclt, s_icge, s_icgt, s_icle, s_ifnull, s_ifnonnull, s_is, s_ls, s_as, s_ii, s_gi, s_gl, s_gr, s_pi, s_pz, s_pl, s_pr, s_iald, s_zald, s_lald, s_aald, s_alen, s_iast, s_zast, s_last, s_iret, s_zret, s_lret, s_aret, s_vret, s_sw, s_aast, mm_sw, mm_ld, mm_s1, mm_s2, mm_kl, Value.category, va_rf, List.nil_append, List.cons_append, Option.toList, true_and, and_true, and_self, true_or, or_true, eq_self, not_true_eq_false, false_implies, true_implies, not_false_eq_true, mm_10, mm_01, false_or, or_false, Nat.left_eq_add, Nat.add_eq_left, Nat.add_left_cancel_iff, Nat.reduceEqDiff, false_and, and_false, reduceIte, mm_kd_pi, mm_ln_pi, mm_gl_pi, mm_gr_pi, mm_sz_pi, mm_gi_pi, mm_kd_pl, mm_ln_pl, mm_gi_pl, mm_gr_pl, mm_sz_pl, mm_gl_pl, mm_kd_pr, mm_ln_pr, mm_gi_pr, mm_gl_pr, mm_sz_pr, mm_gr_pr, mm_kd_pa, mm_ln_pa, mm_gl_pa, mm_gr_pa, mm_sz_pa, mm_gi_pa]
  exact k _ (fx_pi (Or.inr (by omega)) (fx_pi (Or.inr (by omega)) (xhs_C F))) (HC_set2 (HC_set1 hcg))
theorem sp_perf1 (H : WS h) (Ha : hsh h a) (ha : 4 ≤ a ∧ a + 10 < 122) (v : HV S) (hc : HC h a S) (hA : CAL h a S A) (hp : p < S 0 0) (hq : q < S 0 1) (k : ∀ g, fx (xhs a) y0 h g → HC g a (dS S A 1 p q) → K (some (.int (dR S A 1 p q))) g) : mm_MV q_X1_perform (d + 4) (0, 0) [.ref a, .int 1, .int (nI p), .int (nI q)] h K := by
  obtain ⟨h1, h2, h3, h4⟩ := id Ha
  have l8 : p < 8 := by have := v.1.1; omega
  refine e_X1_perform (t_X1_perform_0 _ _ _ ?_)
  obtain ⟨K0, ek0⟩ : ∃ T : mmK, T = (s_al 0 (s_gr 1 7 (s_il 3 (s_iald (s_is 4 (s_al 0 (s_gr 1 7 (s_il 3 (s_al 0 (s_gr 1 0 (s_al 0 (s_il 3 (s_il 2 (s_il 4 (mm_V q_X1_perform (d + 4) (0, 0) K 50))))))))))))))) := ⟨_, rfl⟩
  rw [← ek0]
  simp only [s_iadd, s_isub, s_imul, s_iand, s_ior, s_ixor, s_ishl, s_ishr, s_iushr, s_idiv, s_irem, s_ladd, s_lsub, s_lmul, s_ldiv, s_lrem, s_ineg, s_i2l, s_l2i, s_i2c, s_lcmp, s_ic, s_lc, s_nul, s_str, s_il, s_ll, s_al, s_dup, s_dup2, s_pop, s_ifne, s_icne, s_ifeq, s_iflt, s_ifge, s_ifgt, s_ifle, s_iceq, s_iclt, s_icge, s_icgt, s_icle, s_ifnull, s_ifnonnull, s_is, s_ls, s_as, s_ii, s_gi, s_gl, s_gr, s_pi, s_pz, s_pl, s_pr, s_iald, s_zald, s_lald, s_aald, s_alen, s_iast, s_zast, s_last, s_iret, s_zret, s_lret, s_aret, s_vret, s_sw, s_aast, mm_sw, mm_ld, mm_s1, mm_s2, mm_kl, Value.category, va_rf, List.nil_append, List.cons_append, Option.toList, true_and, and_true, and_self, true_or, or_true, eq_self, not_true_eq_false, false_implies, true_implies, not_false_eq_true, mm_10, mm_01, false_or, or_false, Nat.left_eq_add, Nat.add_eq_left, Nat.add_left_cancel_iff, Nat.reduceEqDiff, false_and, and_false, reduceIte, mm_kd_pi, mm_ln_pi, mm_gl_pi, mm_gr_pi, mm_sz_pi, mm_gi_pi, mm_kd_pl, mm_ln_pl, mm_gi_pl, mm_gr_pl, mm_sz_pl, mm_gl_pl, mm_kd_pr, mm_ln_pr, mm_gi_pr, mm_gl_pr, mm_sz_pr, mm_gr_pr, mm_kd_pa, mm_ln_pa, mm_gl_pa, mm_gr_pa, mm_sz_pa, mm_gi_pa, mm_10, h1, h2, h3, h4, hsz0 Ha, hc.1.2.2.2.2.1, shl1 p (by omega), nI_or]
  have v' : HV (upS S 0 4 (S 0 4 ||| 2 ^ p)) := by
    obtain ⟨⟨v1, v2, v3, v4, v5, v6⟩, w⟩ := v
    exact ⟨⟨v1, v2, v3, v4, Nat.or_lt_two_pow v5 (Nat.pow_lt_pow_right (by decide) hp), v6⟩, w⟩
  have hc' : HC (mm_pi h a 5 (nI (S 0 4 ||| 2 ^ p))) a (upS S 0 4 (S 0 4 ||| 2 ^ p)) := HC_setA hc
  have F1 : fx (xhs a) y0 h (mm_pi h a 5 (nI (S 0 4 ||| 2 ^ p))) := fx_pi (Or.inr ⟨Nat.le_refl a, by omega⟩) fx_rf
  have hA' : CAL (mm_pi h a 5 (nI (S 0 4 ||| 2 ^ p))) a (upS S 0 4 (S 0 4 ||| 2 ^ p)) A := CAL_x F1 (fun c j hc => by unfold xhs; omega) rfl rfl hA
  have fin : ∀ x : Value, LV (mm_pi h a 5 (nI (S 0 4 ||| 2 ^ p))) A x → mm_V q_X1_perform (d + 4) (0, 0) K 112 [some (.ref a), some (.int 1), some (.int (nI p)), some (.int (nI q)), none, none] [.int (nI p), .int (nI q), x, .ref a, .ref 1] (mm_pi h a 5 (nI (S 0 4 ||| 2 ^ p))) := by
    intro x hx
    refine c_X1_perform_112 (bb := (0, 0)) (b := (0, 0)) (Nat.le_of_ble_eq_true rfl) ⟨rfl, rfl⟩ (W_kd_1 (fx_WS F1 H)) (W_s_1 (fx_WS F1 H)) (sp_worthOf (fx_WS F1 H) (fx_hsh F1 Ha) ha.1 v' hc' hx hq hp (fun g F => ?_))
    refine t_X1_perform_115 _ _ _ ?_
    simp only [s_iadd, s_isub, s_imul, s_iand, s_ior, s_ixor, s_ishl, s_ishr, s_iushr, s_idiv, s_irem, s_ladd, s_lsub, s_lmul, s_ldiv, s_lrem, s_ineg, s_i2l, s_l2i, s_i2c, s_lcmp, s_ic, s_lc, s_nul, s_str, s_il, s_ll, s_al, s_dup, s_dup2, s_pop, s_ifne, s_icne, s_ifeq, s_iflt, s_ifge, s_ifgt, s_ifle, s_iceq, s_iclt, s_icge, s_icgt, s_icle, s_ifnull, s_ifnonnull, s_is, s_ls, s_as, s_ii, s_gi, s_gl, s_gr, s_pi, s_pz, s_pl, s_pr, s_iald, s_zald, s_lald, s_aald, s_alen, s_iast, s_zast, s_last, s_iret, s_zret, s_lret, s_aret, s_vret, s_sw, s_aast, mm_sw, mm_ld, mm_s1, mm_s2, mm_kl, Value.category, va_rf, List.nil_append, List.cons_append, Option.toList, true_and, and_true, and_self, true_or, or_true, eq_self, not_true_eq_false, false_implies, true_implies, not_false_eq_true, mm_10, mm_01, false_or, or_false, Nat.left_eq_add, Nat.add_eq_left, Nat.add_left_cancel_iff, Nat.reduceEqDiff, false_and, and_false, reduceIte, mm_kd_pi, mm_ln_pi, mm_gl_pi, mm_gr_pi, mm_sz_pi, mm_gi_pi, mm_kd_pl, mm_ln_pl, mm_gi_pl, mm_gr_pl, mm_sz_pl, mm_gl_pl, mm_kd_pr, mm_ln_pr, mm_gi_pr, mm_gl_pr, mm_sz_pr, mm_gr_pr, mm_kd_pa, mm_ln_pa, mm_gl_pa, mm_gr_pa, mm_sz_pa, mm_gi_pa]
    have := k g (fx_tr F1 (xhs_C F)) (HC_fx ha.1 F hc')
    have el : lE (upS S 0 4 (S 0 4 ||| 2 ^ p)) q (some p) (-1) (S 1 q) (S 9 0) = lE S q (some p) (-1) (S 1 q) (S 9 0) := lE_cg (fun i j h0 _ _ _ => by unfold upS; rw [if_neg (fun z => h0 z.1)]) rfl
    rw [dR, ← el] at this
    exact this
  refine c_X1_perform_107 (bb := (0, 0)) (b := (0, 0)) (Nat.le_of_ble_eq_true rfl) ⟨rfl, rfl⟩ (fx_hsh F1 Ha).1.1 (hsz0 (fx_hsh F1 Ha)) (LV_ofa (fx_hsh F1 Ha) v' hc' hA' (fun x hx xr => ?_))
  refine t_X1_perform_110 _ _ _ ?_
  rcases xr with rfl | ⟨t, rfl⟩
  · simp only [s_iadd, s_isub, s_imul, s_iand, s_ior, s_ixor, s_ishl, s_ishr, s_iushr, s_idiv, s_irem, s_ladd, s_lsub, s_lmul, s_ldiv, s_lrem, s_ineg, s_i2l, s_l2i, s_i2c, s_lcmp, s_ic, s_lc, s_nul, s_str, s_il, s_ll, s_al, s_dup, s_dup2, s_pop, s_ifne, s_icne, s_ifeq, s_iflt, s_ifge, s_ifgt, s_ifle, s_iceq, s_iclt, s_icge, s_icgt, s_icle, s_ifnull, s_ifnonnull, s_is, s_ls, s_as, s_ii, s_gi, s_gl, s_gr, s_pi, s_pz, s_pl, s_pr, s_iald, s_zald, s_lald, s_aald, s_alen, s_iast, s_zast, s_last, s_iret, s_zret, s_lret, s_aret, s_vret, s_sw, s_aast, mm_sw, mm_ld, mm_s1, mm_s2, mm_kl, Value.category, va_rf, List.nil_append, List.cons_append, Option.toList, true_and, and_true, and_self, true_or, or_true, eq_self, not_true_eq_false, false_implies, true_implies, not_false_eq_true, mm_10, mm_01, false_or, or_false, Nat.left_eq_add, Nat.add_eq_left, Nat.add_left_cancel_iff, Nat.reduceEqDiff, false_and, and_false, reduceIte, mm_kd_pi, mm_ln_pi, mm_gl_pi, mm_gr_pi, mm_sz_pi, mm_gi_pi, mm_kd_pl, mm_ln_pl, mm_gi_pl, mm_gr_pl, mm_sz_pl, mm_gl_pl, mm_kd_pr, mm_ln_pr, mm_gi_pr, mm_gl_pr, mm_sz_pr, mm_gr_pr, mm_kd_pa, mm_ln_pa, mm_gl_pa, mm_gr_pa, mm_sz_pa, mm_gi_pa]
    exact fin _ hx
  · simp only [s_iadd, s_isub, s_imul, s_iand, s_ior, s_ixor, s_ishl, s_ishr, s_iushr, s_idiv, s_irem, s_ladd, s_lsub, s_lmul, s_ldiv, s_lrem, s_ineg, s_i2l, s_l2i, s_i2c, s_lcmp, s_ic, s_lc, s_nul, s_str, s_il, s_ll, s_al, s_dup, s_dup2, s_pop, s_ifne, s_icne, s_ifeq, s_iflt, s_ifge, s_ifgt, s_ifle, s_iceq, s_iclt, s_icge, s_icgt, s_icle, s_ifnull, s_ifnonnull, s_is, s_ls, s_as, s_ii, s_gi, s_gl, s_gr, s_pi, s_pz, s_pl, s_pr, s_iald, s_zald, s_lald, s_aald, s_alen, s_iast, s_zast, s_last, s_iret, s_zret, s_lret, s_aret, s_vret, s_sw, s_aast, mm_sw, mm_ld, mm_s1, mm_s2, mm_kl, Value.category, va_rf, List.nil_append, List.cons_append, Option.toList, true_and, and_true, and_self, true_or, or_true, eq_self, not_true_eq_false, false_implies, true_implies, not_false_eq_true, mm_10, mm_01, false_or, or_false, Nat.left_eq_add, Nat.add_eq_left, Nat.add_left_cancel_iff, Nat.reduceEqDiff, false_and, and_false, reduceIte, mm_kd_pi, mm_ln_pi, mm_gl_pi, mm_gr_pi, mm_sz_pi, mm_gi_pi, mm_kd_pl, mm_ln_pl, mm_gi_pl, mm_gr_pl, mm_sz_pl, mm_gl_pl, mm_kd_pr, mm_ln_pr, mm_gi_pr, mm_gl_pr, mm_sz_pr, mm_gr_pr, mm_kd_pa, mm_ln_pa, mm_gl_pa, mm_gr_pa, mm_sz_pa, mm_gi_pa]
    exact fin _ hx
theorem sp_perf2 (H : WS h) (Ha : hsh h a) (v : HV S) (hc : HC h a S) (hp : p < 8) (hq : q < S 0 1) (hb : S 1 q / 2 ^ p % 2 = 1) (k : ∀ g, fx (xhs a) y0 h g → HC g a (dS S A 2 p q) → K (some (.int (dR S A 2 p q))) g) : mm_MV q_X1_perform (d + 4) (0, 0) [.ref a, .int 2, .int (nI p), .int (nI q)] h K := by
  obtain ⟨h1, h2, h3, h4⟩ := id Ha
  have c6 : q < 6 := by have := v.1.2.1; omega
  have w1 := v.2.1 q hq
  have vc := vp_in_nI c6 (show 6 < 2 ^ 31 by decide)
  have cl := nI_clamp (show q < 2 ^ 31 by omega)
  have e8 := (hc.2.1 q hq).1
  refine e_X1_perform (t_X1_perform_0 _ _ _ ?_)
  obtain ⟨K0, ek0⟩ : ∃ T : mmK, T = (s_al 0 (s_gr 1 7 (s_il 3 (s_iald (s_is 4 (s_al 0 (s_gr 1 7 (s_il 3 (s_al 0 (s_gr 1 0 (s_al 0 (s_il 3 (s_il 2 (s_il 4 (mm_V q_X1_perform (d + 4) (0, 0) K 50))))))))))))))) := ⟨_, rfl⟩
  rw [← ek0]
  simp only [s_iadd, s_isub, s_imul, s_iand, s_ior, s_ixor, s_ishl, s_ishr, s_iushr, s_idiv, s_irem, s_ladd, s_lsub, s_lmul, s_ldiv, s_lrem, s_ineg, s_i2l, s_l2i, s_i2c, s_lcmp, s_ic, s_lc, s_nul, s_str, s_il, s_ll, s_al, s_dup, s_dup2, s_pop, s_ifne, s_icne, s_ifeq, s_iflt, s_ifge, s_ifgt, s_ifle, s_iceq, s_iclt, s_icge, s_icgt, s_icle, s_ifnull, s_ifnonnull, s_is, s_ls, s_as, s_ii, s_gi, s_gl, s_gr, s_pi, s_pz, s_pl, s_pr, s_iald, s_zald, s_lald, s_aald, s_alen, s_iast, s_zast, s_last, s_iret, s_zret, s_lret, s_aret, s_vret, s_sw, s_aast, mm_sw, mm_ld, mm_s1, mm_s2, mm_kl, Value.category, va_rf, List.nil_append, List.cons_append, Option.toList, true_and, and_true, and_self, true_or, or_true, eq_self, not_true_eq_false, false_implies, true_implies, not_false_eq_true, mm_10, mm_01, false_or, or_false, Nat.left_eq_add, Nat.add_eq_left, Nat.add_left_cancel_iff, Nat.reduceEqDiff, false_and, and_false, reduceIte, mm_kd_pi, mm_ln_pi, mm_gl_pi, mm_gr_pi, mm_sz_pi, mm_gi_pi, mm_kd_pl, mm_ln_pl, mm_gi_pl, mm_gr_pl, mm_sz_pl, mm_gl_pl, mm_kd_pr, mm_ln_pr, mm_gi_pr, mm_gl_pr, mm_sz_pr, mm_gr_pr, mm_kd_pa, mm_ln_pa, mm_gl_pa, mm_gr_pa, mm_sz_pa, mm_gi_pa, show ((2 : Int32) = 0) = False by decide, show ((2 : Int32) = 1) = False by decide, h1, h2, h3, h4, hsz0 Ha, hsz Ha (show 4 ≤ 10 by decide), vc, cl, e8, shl1 p (by omega), bit_clr _ w1.1 p hp, hb]
  refine c_X1_perform_136 (bb := (0, 0)) (b := (0, 0)) (Nat.le_of_ble_eq_true rfl) ⟨rfl, rfl⟩ (sp_bitCount (show S 1 q - 2 ^ p < 256 from Nat.lt_of_le_of_lt (Nat.sub_le _ _) w1.1) ?_)
  refine t_X1_perform_139 _ _ _ ?_
  simp only [s_iadd, s_isub, s_imul, s_iand, s_ior, s_ixor, s_ishl, s_ishr, s_iushr, s_idiv, s_irem, s_ladd, s_lsub, s_lmul, s_ldiv, s_lrem, s_ineg, s_i2l, s_l2i, s_i2c, s_lcmp, s_ic, s_lc, s_nul, s_str, s_il, s_ll, s_al, s_dup, s_dup2, s_pop, s_ifne, s_icne, s_ifeq, s_iflt, s_ifge, s_ifgt, s_ifle, s_iceq, s_iclt, s_icge, s_icgt, s_icle, s_ifnull, s_ifnonnull, s_is, s_ls, s_as, s_ii, s_gi, s_gl, s_gr, s_pi, s_pz, s_pl, s_pr, s_iald, s_zald, s_lald, s_aald, s_alen, s_iast, s_zast, s_last, s_iret, s_zret, s_lret, s_aret, s_vret, s_sw, s_aast, mm_sw, mm_ld, mm_s1, mm_s2, mm_kl, Value.category, va_rf, List.nil_append, List.cons_append, Option.toList, true_and, and_true, and_self, true_or, or_true, eq_self, not_true_eq_false, false_implies, true_implies, not_false_eq_true, mm_10, mm_01, false_or, or_false, Nat.left_eq_add, Nat.add_eq_left, Nat.add_left_cancel_iff, Nat.reduceEqDiff, false_and, and_false, reduceIte, mm_kd_pi, mm_ln_pi, mm_gl_pi, mm_gr_pi, mm_sz_pi, mm_gi_pi, mm_kd_pl, mm_ln_pl, mm_gi_pl, mm_gr_pl, mm_sz_pl, mm_gl_pl, mm_kd_pr, mm_ln_pr, mm_gi_pr, mm_gl_pr, mm_sz_pr, mm_gr_pr, mm_kd_pa, mm_ln_pa, mm_gl_pa, mm_gr_pa, mm_sz_pa, mm_gi_pa]
  exact k _ (fx_pi (Or.inr (by omega)) fx_rf) (HC_set1 hc)
theorem lp_perf3 {x y : Int32} (H : WS h) (Ha : hsh h a) (ha : 4 ≤ a ∧ a + 10 < 122) (v : HV S) (hc : HC h a S) (hA : CAL h a S A) (k : ∀ g, fx (xhs a) y0 h g → HC g a (dS S A 3 p q) → K (some (.int (dR S A 3 p q))) g) :
    ∀ n i g, i + n = S 0 1 → fx (xhs a) y0 h g → HC g a (psS S A i) → mm_V q_X1_perform (d + 4) (0, 0) K 143 [some (.ref a), some (.int 3), some (.int x), some (.int y), none, some (.int (nI i))] [] g := by
  have v2 := v.1.2.1
  intro n
  induction n with
  | zero =>
    intro i g hi F hcg
    obtain rfl : i = S 0 1 := by omega
    have Hag := fx_hsh F Ha
    obtain ⟨b1, b2, b3, b4⟩ := id Hag
    have e6 : mm_gi g a 6 = nI (S 0 1) := hcg.1.2.1
    have e9 : mm_gi g (a + 9) 0 = nI (S 9 0) := hcg.2.2.2.2 0 (by decide)
    refine t_X1_perform_143 _ _ _ ?_
    simp only [s_iadd, s_isub, s_imul, s_iand, s_ior, s_ixor, s_ishl, s_ishr, s_iushr, s_idiv, s_irem, s_ladd, s_lsub, s_lmul, s_ldiv, s_lrem, s_ineg, s_i2l, s_l2i, s_i2c, s_lcmp, s_ic, s_lc, s_nul, s_str, s_il, s_ll, s_al, s_dup, s_dup2, s_pop, s_ifne, s_icne, s_ifeq, s_iflt, s_ifge, s_ifgt, s_ifle, s_iceq, s_iclt, s_icge, s_icgt, s_icle, s_ifnull, s_ifnonnull, s_is, s_ls, s_as, s_ii, s_gi, s_gl, s_gr, s_pi, s_pz, s_pl, s_pr, s_iald, s_zald, s_lald, s_aald, s_alen, s_iast, s_zast, s_last, s_iret, s_zret, s_lret, s_aret, s_vret, s_sw, s_aast, mm_sw, mm_ld, mm_s1, mm_s2, mm_kl, Value.category, va_rf, List.nil_append, List.cons_append, Option.toList, true_and, and_true, and_self, true_or, or_true, eq_self, not_true_eq_false, false_implies, true_implies, not_false_eq_true, mm_10, mm_01, false_or, or_false, Nat.left_eq_add, Nat.add_eq_left, Nat.add_left_cancel_iff, Nat.reduceEqDiff, false_and, and_false, reduceIte, mm_kd_pi, mm_ln_pi, mm_gl_pi, mm_gr_pi, mm_sz_pi, mm_gi_pi, mm_kd_pl, mm_ln_pl, mm_gi_pl, mm_gr_pl, mm_sz_pl, mm_gl_pl, mm_kd_pr, mm_ln_pr, mm_gi_pr, mm_gl_pr, mm_sz_pr, mm_gr_pr, mm_kd_pa, mm_ln_pa, mm_gl_pa, mm_gr_pa, mm_sz_pa, mm_gi_pa, b1, b2, b3, b4, hsz0 Hag, hsz Hag (show 9 ≤ 10 by decide), e6, eq_true (nI_le (Nat.le_refl (S 0 1)) (show S 0 1 < 2 ^ 31 by omega)), show (0 : Int32).toNatClampNeg = 0 from rfl, show vp_in (0 : Int32) 3 from vp_in_nI (n := 0) (by decide) (by decide), e9, nI_1]
    refine k _ (fx_pi (Or.inr (by omega)) F) ?_
    exact HC_setT hcg
  | succ n ih =>
    intro i g hi F hcg
    have Hg := fx_WS F H
    have Hag := fx_hsh F Ha
    obtain ⟨b1, b2, b3, b4⟩ := id Hag
    have hi' : i < S 0 1 := by omega
    have e6 : mm_gi g a 6 = nI (S 0 1) := hcg.1.2.1
    have e9 : mm_gi g (a + 9) 0 = nI (S 9 0) := hcg.2.2.2.2 0 (by decide)
    have pi : psS S A i 1 i = S 1 i := by unfold psS; rw [if_neg (by omega)]
    have e8 : mm_gi g (a + 4) i = nI (S 1 i) := by have := (hcg.2.1 i hi').1; rwa [pi] at this
    have vc := vp_in_nI (show i < 6 by omega) (show 6 < 2 ^ 31 by decide)
    have cl := nI_clamp (show i < 2 ^ 31 by omega)
    have t9 : S 9 0 ≤ 999 := v.2.2.2.2 0 (by decide)
    have hAg : CAL g a (psS S A i) A := CAL_x F (fun c j hc => by unfold xhs; omega) (by unfold psS; rw [if_neg (by omega)]) (by unfold psS; rw [if_neg (by omega)]) hA
    refine t_X1_perform_143 _ _ _ ?_
    simp only [s_iadd, s_isub, s_imul, s_iand, s_ior, s_ixor, s_ishl, s_ishr, s_iushr, s_idiv, s_irem, s_ladd, s_lsub, s_lmul, s_ldiv, s_lrem, s_ineg, s_i2l, s_l2i, s_i2c, s_lcmp, s_ic, s_lc, s_nul, s_str, s_il, s_ll, s_al, s_dup, s_dup2, s_pop, s_ifne, s_icne, s_ifeq, s_iflt, s_ifge, s_ifgt, s_ifle, s_iceq, s_iclt, s_icge, s_icgt, s_icle, s_ifnull, s_ifnonnull, s_is, s_ls, s_as, s_ii, s_gi, s_gl, s_gr, s_pi, s_pz, s_pl, s_pr, s_iald, s_zald, s_lald, s_aald, s_alen, s_iast, s_zast, s_last, s_iret, s_zret, s_lret, s_aret, s_vret, s_sw, s_aast, mm_sw, mm_ld, mm_s1, mm_s2, mm_kl, Value.category, va_rf, List.nil_append, List.cons_append, Option.toList, true_and, and_true, and_self, true_or, or_true, eq_self, not_true_eq_false, false_implies, true_implies, not_false_eq_true, mm_10, mm_01, false_or, or_false, Nat.left_eq_add, Nat.add_eq_left, Nat.add_left_cancel_iff, Nat.reduceEqDiff, false_and, and_false, reduceIte, mm_kd_pi, mm_ln_pi, mm_gl_pi, mm_gr_pi, mm_sz_pi, mm_gi_pi, mm_kd_pl, mm_ln_pl, mm_gi_pl, mm_gr_pl, mm_sz_pl, mm_gl_pl, mm_kd_pr, mm_ln_pr, mm_gi_pr, mm_gl_pr, mm_sz_pr, mm_gr_pr, mm_kd_pa, mm_ln_pa, mm_gl_pa, mm_gr_pa, mm_sz_pa, mm_gi_pa, b1, b2, b3, b4, hsz0 Hag, hsz Hag (show 9 ≤ 10 by decide), hsz Hag (show 4 ≤ 10 by decide), e6, eq_false (nI_ge hi' (show S 0 1 < 2 ^ 31 by omega)), show (0 : Int32).toNatClampNeg = 0 from rfl, show vp_in (0 : Int32) 3 from vp_in_nI (n := 0) (by decide) (by decide), e9, vc, cl, e8]
    refine c_X1_perform_178 (bb := (0, 0)) (b := (0, 0)) (Nat.le_of_ble_eq_true rfl) ⟨rfl, rfl⟩ (W_kd_1 Hg) (W_s_1 Hg) (sp_whatStays (S := psS S A i) Hg Hag ha.1 (HV_ps v) hcg hAg hi' (v.2.1 i hi').1 (by omega) (fun g' F' => ?_))
    have Hag' := fx_hsh F' Hag
    obtain ⟨d1, d2, d3, d4⟩ := id Hag'
    refine t_X1_perform_181 _ _ _ ?_
    simp only [s_iadd, s_isub, s_imul, s_iand, s_ior, s_ixor, s_ishl, s_ishr, s_iushr, s_idiv, s_irem, s_ladd, s_lsub, s_lmul, s_ldiv, s_lrem, s_ineg, s_i2l, s_l2i, s_i2c, s_lcmp, s_ic, s_lc, s_nul, s_str, s_il, s_ll, s_al, s_dup, s_dup2, s_pop, s_ifne, s_icne, s_ifeq, s_iflt, s_ifge, s_ifgt, s_ifle, s_iceq, s_iclt, s_icge, s_icgt, s_icle, s_ifnull, s_ifnonnull, s_is, s_ls, s_as, s_ii, s_gi, s_gl, s_gr, s_pi, s_pz, s_pl, s_pr, s_iald, s_zald, s_lald, s_aald, s_alen, s_iast, s_zast, s_last, s_iret, s_zret, s_lret, s_aret, s_vret, s_sw, s_aast, mm_sw, mm_ld, mm_s1, mm_s2, mm_kl, Value.category, va_rf, List.nil_append, List.cons_append, Option.toList, true_and, and_true, and_self, true_or, or_true, eq_self, not_true_eq_false, false_implies, true_implies, not_false_eq_true, mm_10, mm_01, false_or, or_false, Nat.left_eq_add, Nat.add_eq_left, Nat.add_left_cancel_iff, Nat.reduceEqDiff, false_and, and_false, reduceIte, mm_kd_pi, mm_ln_pi, mm_gl_pi, mm_gr_pi, mm_sz_pi, mm_gi_pi, mm_kd_pl, mm_ln_pl, mm_gi_pl, mm_gr_pl, mm_sz_pl, mm_gl_pl, mm_kd_pr, mm_ln_pr, mm_gi_pr, mm_gl_pr, mm_sz_pr, mm_gr_pr, mm_kd_pa, mm_ln_pa, mm_gl_pa, mm_gr_pa, mm_sz_pa, mm_gi_pa, d3, d4, hsz Hag' (show 4 ≤ 10 by decide), vc, cl, nI_1]
    refine ih (i + 1) _ (by omega) (fx_pi (Or.inr (by omega)) (fx_tr F (xhs_C F'))) ?_
    rw [fdF_cg (fun tr => lE_ps), ← psS_s]
    exact HC_set1 (HC_fx ha.1 F' hcg)
theorem sp_perf3 {x y : Int32} (H : WS h) (Ha : hsh h a) (ha : 4 ≤ a ∧ a + 10 < 122) (v : HV S) (hc : HC h a S) (hA : CAL h a S A) (k : ∀ g, fx (xhs a) y0 h g → HC g a (dS S A 3 p q) → K (some (.int (dR S A 3 p q))) g) : mm_MV q_X1_perform (d + 4) (0, 0) [.ref a, .int 3, .int x, .int y] h K := by
  refine e_X1_perform (t_X1_perform_0 _ _ _ ?_)
  obtain ⟨K0, ek0⟩ : ∃ T : mmK, T = (s_al 0 (s_gr 1 7 (s_il 3 (s_iald (s_is 4 (s_al 0 (s_gr 1 7 (s_il 3 (s_al 0 (s_gr 1 0 (s_al 0 (s_il 3 (s_il 2 (s_il 4 (mm_V q_X1_perform (d + 4) (0, 0) K 50))))))))))))))) := ⟨_, rfl⟩
  rw [← ek0]
  obtain ⟨K2, ek2⟩ : ∃ T : mmK, T = (s_al 0 (s_gr 1 7 (s_il 3 (s_dup2 (s_iald (s_ic 1 (s_il 2 (s_ishl (s_ic (-1) (s_ixor (s_iand (s_iast (s_al 0 (s_gr 1 7 (s_il 3 (s_iald (mm_V q_X1_perform (d + 4) (0, 0) K 136))))))))))))))))) := ⟨_, rfl⟩
  rw [← ek2]
  simp only [s_iadd, s_isub, s_imul, s_iand, s_ior, s_ixor, s_ishl, s_ishr, s_iushr, s_idiv, s_irem, s_ladd, s_lsub, s_lmul, s_ldiv, s_lrem, s_ineg, s_i2l, s_l2i, s_i2c, s_lcmp, s_ic, s_lc, s_nul, s_str, s_il, s_ll, s_al, s_dup, s_dup2, s_pop, s_ifne, s_icne, s_ifeq, s_iflt, s_ifge, s_ifgt, s_ifle, s_iceq, s_iclt, s_icge, s_icgt, s_icle, s_ifnull, s_ifnonnull, s_is, s_ls, s_as, s_ii, s_gi, s_gl, s_gr, s_pi, s_pz, s_pl, s_pr, s_iald, s_zald, s_lald, s_aald, s_alen, s_iast, s_zast, s_last, s_iret, s_zret, s_lret, s_aret, s_vret, s_sw, s_aast, mm_sw, mm_ld, mm_s1, mm_s2, mm_kl, Value.category, va_rf, List.nil_append, List.cons_append, Option.toList, true_and, and_true, and_self, true_or, or_true, eq_self, not_true_eq_false, false_implies, true_implies, not_false_eq_true, mm_10, mm_01, false_or, or_false, Nat.left_eq_add, Nat.add_eq_left, Nat.add_left_cancel_iff, Nat.reduceEqDiff, false_and, and_false, reduceIte, mm_kd_pi, mm_ln_pi, mm_gl_pi, mm_gr_pi, mm_sz_pi, mm_gi_pi, mm_kd_pl, mm_ln_pl, mm_gi_pl, mm_gr_pl, mm_sz_pl, mm_gl_pl, mm_kd_pr, mm_ln_pr, mm_gi_pr, mm_gl_pr, mm_sz_pr, mm_gr_pr, mm_kd_pa, mm_ln_pa, mm_gl_pa, mm_gr_pa, mm_sz_pa, mm_gi_pa, show ((3 : Int32) = 0) = False by decide, show ((3 : Int32) = 1) = False by decide, show ((3 : Int32) = 2) = False by decide]
  exact lp_perf3 H Ha ha v hc hA k (S 0 1) 0 h (by omega) fx_rf (by rw [psS_0]; exact hc)
theorem sp_perform {kind : Nat} {x y : Int32} (H : WS h) (Ha : hsh h a) (ha : 4 ≤ a ∧ a + 10 < 122) (v : HV S) (hc : HC h a S) (hA : CAL h a S A) (hk : kind < 4) (ok : dOk S A kind x y p q) (k : ∀ g, fx (xhs a) y0 h g → HC g a (dS S A kind p q) → K (some (.int (dR S A kind p q))) g) : mm_MV q_X1_perform (d + 4) (0, 0) [.ref a, .int (nI kind), .int x, .int y] h K := by
  match kind, hk with
  | 0, _ =>
    obtain ⟨o1, o2, rfl, rfl⟩ := ok
    exact sp_perf0 H Ha ha v hc hA o1 o2 k
  | 1, _ =>
    obtain ⟨o1, o2, rfl, rfl, o3⟩ := ok
    exact sp_perf1 H Ha ha v hc hA o1 o2 k
  | 2, _ =>
    obtain ⟨o1, o2, rfl, rfl, o3⟩ := ok
    exact sp_perf2 H Ha v hc o1 o2 o3 k
  | 3, _ => exact sp_perf3 H Ha ha v hc hA k
end
