/-! orders: a clause run once, on paper and in the class -/
def oE (S : HSt) (dn : Nat) (la : Int) : xE := fun j => if j = 0 then (S 9 0 : Int) else if j = 1 then (dn : Int) else if j = 2 then la else if j = 3 then ((S 0 0 - pop (S 0 4) : Nat) : Int) else if j < 10 then (if j - 4 < S 0 1 then (pop (S 1 (j - 4)) : Int) else -1) else (if j - 10 < S 0 1 then (S 2 (j - 10) : Int) else -1)
abbrev oS : Type := HSt × Nat × (Nat → tEn) × Nat × Int
def oX (s : oS) : xE := oE s.1 s.2.2.2.1 s.2.2.2.2
def ONx (A : Option lwD) (x : cDt) (s : oS) (r : Option oS) : Prop :=
  ((∃ D, x.2.2.2.2 = some D ∧ D (oX s) ≠ some 1) ∧ r = some s) ∨
  ((∀ D, x.2.2.2.2 = some D → D (oX s) = some 1) ∧
    ((x.1 ≠ 3 ∧ (∃ D1 D2, x.2.1 = some D1 ∧ x.2.2.1 = some D2 ∧ (D1 (oX s) = none ∨ D2 (oX s) = none)) ∧ r = none) ∨
      ∃ xv yv : Int32, ((x.1 = 3 ∧ xv = -1 ∧ yv = -1) ∨ (x.1 ≠ 3 ∧ ∃ D1 D2 a b, x.2.1 = some D1 ∧ x.2.2.1 = some D2 ∧ D1 (oX s) = some a ∧ D2 (oX s) = some b ∧ xv = i32 a ∧ yv = i32 b)) ∧
        ((dE s.1 A x.1 xv yv ≠ 0 ∧ r = none) ∨ ∃ p q, dOk s.1 A x.1 xv yv p q ∧ r = some (dS s.1 A x.1 p q, pshN s.2.1, pshT s.2.1 s.2.2.1 (entr s.1 x.1), s.2.2.2.1 + 1, if x.1 = 1 then (dR s.1 A x.1 p q).toInt else s.2.2.2.2))))
def WFo (x : cDt) : Prop := (x.1 = 3 → x.2.1 = none ∧ x.2.2.1 = none) ∧ (x.1 ≠ 3 → ∃ D1 D2, x.2.1 = some D1 ∧ x.2.2.1 = some D2)
/-- the class while orders run -/
def CX (h : mmH) (N z : Nat) (I : xIn) (cl : Nat → cDt) : Prop := TXP h 58 12 400 z I ∧ N ≤ 12 ∧ ∀ k, k < N → CDc true h z I k (cl k)
def COr (A : Option lwD) (h : mmH) (s : oS) : Prop := CI h s.1 A s.2.1 s.2.2.1 ∧ mm_gi h 0 15 = nI s.2.2.2.1 ∧ mm_gi h 0 16 = i32 s.2.2.2.2 ∧ s.2.2.2.1 ≤ 1000 ∧ -1 ≤ s.2.2.2.2 ∧ s.2.2.2.2 ≤ 1000
def xRn (c j : Nat) : Prop := (c = 2 ∨ c = 3) ∨ (4 ≤ c ∧ c ≤ 13) ∨ c = 50 ∨ c = 51 ∨ (c = 0 ∧ (j = 15 ∨ j = 16))
section
variable {d : Nat} {h g : mmH} {K : Option Value → mmH → Prop} {A : Option lwD} {S : HSt} {s : oS} {N z i : Nat} {I : xIn} {cl : Nat → cDt}
theorem oX_ok (v : HV S) {dn : Nat} {la : Int} (h1 : dn ≤ 1000) (h2 : -1 ≤ la) (h3 : la ≤ 1000) : xOk 16 (oE S dn la) := by
  obtain ⟨⟨v1, v2, v3, v4, v5, v6⟩, w1, w2, w3, w4⟩ := v
  intro j hj
  have d9 : S 9 0 ≤ 999 := w4 0 (by decide)
  unfold oE xB
  by_cases q0 : j = 0
  · rw [if_pos q0]; omega
  rw [if_neg q0]
  by_cases q1 : j = 1
  · rw [if_pos q1]; omega
  rw [if_neg q1]
  by_cases q2 : j = 2
  · rw [if_pos q2]; omega
  rw [if_neg q2]
  by_cases q3 : j = 3
  · rw [if_pos q3]; omega
  rw [if_neg q3]
  by_cases q4 : j < 10
  · rw [if_pos q4]
    have := pop_le (S 1 (j - 4))
    split <;> omega
  · rw [if_neg q4]
    by_cases q5 : j - 10 < S 0 1
    · rw [if_pos q5]
      have := (w1 (j - 10) q5).2.1
      omega
    · rw [if_neg q5]; omega
theorem oE_k {dn c : Nat} {la : Int} (hc : c < 6) : oE S dn la (4 + c) = (if c < S 0 1 then (pop (S 1 c) : Int) else -1) ∧ oE S dn la (10 + c) = if c < S 0 1 then (S 2 c : Int) else -1 := by
  unfold oE
  refine ⟨?_, ?_⟩
  · rw [if_neg (by omega), if_neg (by omega), if_neg (by omega), if_neg (by omega), if_pos (by omega), show 4 + c - 4 = c by omega]
  · rw [if_neg (by omega), if_neg (by omega), if_neg (by omega), if_neg (by omega), if_neg (by omega), show 10 + c - 10 = c by omega]
theorem lp_pose {n : Nat} {te : Nat → tEn} {dn : Nat} {la : Int} (Q : CI h S A n te) {x2 x3 : Int32} (k : ∀ g, fx xC y0 h g → (∀ j, j < 16 → mm_gi g 2 j = i32 (oE S dn la j)) → K none g) : ∀ m c g v5, c + m = 6 → fx xC y0 h g → (∀ j, j < 4 → mm_gi g 2 j = i32 (oE S dn la j)) → (∀ e, e < c → mm_gi g 2 (4 + e) = i32 (oE S dn la (4 + e)) ∧ mm_gi g 2 (10 + e) = i32 (oE S dn la (10 + e))) → mm_V q_X0_poseOrder (d + 2) (0, 0) K 39 [some (.ref 1), some (.ref 4), some (.int x2), some (.int x3), some (.int (nI c)), v5] [] g := by
  obtain ⟨H, v, hc, hA, hT, h16⟩ := id Q
  have v2 := v.1.2.1
  intro m
  induction m with
  | zero =>
    intro c g v5 hcm F D0 D
    obtain rfl : c = 6 := by omega
    refine t_X0_poseOrder_39 _ _ _ ?_
    simp only [s_iadd, s_isub, s_imul, s_iand, s_ior, s_ixor, s_ishl, s_ishr, s_iushr, s_idiv, s_irem, s_ladd, s_lsub, s_lmul, s_ldiv, s_lrem, s_ineg, s_i2l, s_l2i, s_i2c, s_lcmp, s_ic, s_lc, s_nul, s_str, s_il, s_ll, s_al, s_dup, s_dup2, s_pop, s_ifne, s_icne, s_ifeq, s_iflt, s_ifge, s_ifgt, s_ifle, s_iceq, s_iclt, s_icge, s_icgt, s_icle, s_ifnull, s_ifnonnull, s_is, s_ls, s_as, s_ii, s_gi, s_gl, s_gr, s_pi, s_pz, s_pl, s_pr, s_iald, s_zald, s_lald, s_aald, s_alen, s_iast, s_zast, s_last, s_iret, s_zret, s_lret, s_aret, s_vret, s_sw, s_aast, mm_sw, mm_ld, mm_s1, mm_s2, mm_kl, Value.category, va_rf, List.nil_append, List.cons_append, Option.toList, true_and, and_true, and_self, true_or, or_true, eq_self, not_true_eq_false, false_implies, true_implies, not_false_eq_true, mm_10, mm_01, false_or, or_false, Nat.left_eq_add, Nat.add_eq_left, Nat.add_left_cancel_iff, Nat.reduceEqDiff, false_and, and_false, reduceIte, mm_kd_pi, mm_ln_pi, mm_gl_pi, mm_gr_pi, mm_sz_pi, mm_gi_pi, mm_kd_pl, mm_ln_pl, mm_gi_pl, mm_gr_pl, mm_sz_pl, mm_gl_pl, mm_kd_pr, mm_ln_pr, mm_gi_pr, mm_gl_pr, mm_sz_pr, mm_gr_pr, mm_kd_pa, mm_ln_pa, mm_gl_pa, mm_gr_pa, mm_sz_pa, mm_gi_pa, show ((6 : Int32) ≤ nI 6) = True by decide]
    refine k g F (fun j hj => ?_)
    by_cases q : j < 4
    · exact D0 j q
    · by_cases q2 : j < 10
      · have := (D (j - 4) (by omega)).1
        rw [show 4 + (j - 4) = j by omega] at this
        exact this
      · have := (D (j - 10) (by omega)).2
        rw [show 10 + (j - 10) = j by omega] at this
        exact this
  | succ m ih =>
    intro c g v5 hcm F D0 D
    obtain ⟨Hg, -, hcg, -, -, -⟩ := CI_fx F Q
    have ek := oE_k (S := S) (dn := dn) (la := la) (show c < 6 by omega)
    refine t_X0_poseOrder_39 _ _ _ ?_
    simp only [s_iadd, s_isub, s_imul, s_iand, s_ior, s_ixor, s_ishl, s_ishr, s_iushr, s_idiv, s_irem, s_ladd, s_lsub, s_lmul, s_ldiv, s_lrem, s_ineg, s_i2l, s_l2i, s_i2c, s_lcmp, s_ic, s_lc, s_nul, s_str, s_il, s_ll, s_al, s_dup, s_dup2, s_pop, s_ifne, s_icne, s_ifeq, s_iflt, s_ifge, s_ifgt, s_ifle, s_iceq, s_iclt, s_icge, s_icgt, s_icle, s_ifnull, s_ifnonnull, s_is, s_ls, s_as, s_ii, s_gi, s_gl, s_gr, s_pi, s_pz, s_pl, s_pr, s_iald, s_zald, s_lald, s_aald, s_alen, s_iast, s_zast, s_last, s_iret, s_zret, s_lret, s_aret, s_vret, s_sw, s_aast, mm_sw, mm_ld, mm_s1, mm_s2, mm_kl, Value.category, va_rf, List.nil_append, List.cons_append, Option.toList, true_and, and_true, and_self, true_or, or_true, eq_self, not_true_eq_false, false_implies, true_implies, not_false_eq_true, mm_10, mm_01, false_or, or_false, Nat.left_eq_add, Nat.add_eq_left, Nat.add_left_cancel_iff, Nat.reduceEqDiff, false_and, and_false, reduceIte, mm_kd_pi, mm_ln_pi, mm_gl_pi, mm_gr_pi, mm_sz_pi, mm_gi_pi, mm_kd_pl, mm_ln_pl, mm_gi_pl, mm_gr_pl, mm_sz_pl, mm_gl_pl, mm_kd_pr, mm_ln_pr, mm_gi_pr, mm_gl_pr, mm_sz_pr, mm_gr_pr, mm_kd_pa, mm_ln_pa, mm_gl_pa, mm_gr_pa, mm_sz_pa, mm_gi_pa, show ((6 : Int32) ≤ nI c) = False from eq_false (nI_ge (b := 6) (by omega) (by decide))]
    -- one child
    have nx : ∀ w1 w2 : Int32, w1 = i32 (oE S dn la (4 + c)) → w2 = i32 (oE S dn la (10 + c)) → ∀ v5', mm_V q_X0_poseOrder (d + 2) (0, 0) K 39 [some (.ref 1), some (.ref 4), some (.int x2), some (.int x3), some (.int (nI (c + 1))), v5'] [] (mm_pi (mm_pi g 2 (4 + c) w1) 2 (10 + c) w2) := by
      intro w1 w2 e1 e2 v5'
      refine ih (c + 1) _ v5' (by omega) (fx_pi (Or.inl rfl) (fx_pi (Or.inl rfl) F)) (fun j hj => ?_) (fun e he => ?_)
      · rw [mm_gi_pi, if_neg (by omega), mm_gi_pi, if_neg (by omega)]; exact D0 j hj
      · by_cases q : e = c
        · subst q
          rw [mm_gi_pi, if_neg (by omega), mm_gi_pi, if_pos ⟨rfl, rfl⟩, mm_gi_pi, if_pos ⟨rfl, rfl⟩]
          exact ⟨e1, e2⟩
        · rw [mm_gi_pi, if_neg (by omega), mm_gi_pi, if_neg (by omega), mm_gi_pi, if_neg (by omega), mm_gi_pi, if_neg (by omega)]
          exact D e (by omega)
    have s81 : ∀ w1 : Int32, w1 = i32 (oE S dn la (4 + c)) → ∀ b : Int32, (b = 0 → ¬ c < S 0 1) → (b ≠ 0 → c < S 0 1) → mm_V q_X0_poseOrder (d + 2) (0, 0) K 81 [some (.ref 1), some (.ref 4), some (.int x2), some (.int x3), some (.int (nI c)), some (.int b)] [.int w1, .int (nI (4 + c)), .ref 2] g := by
      intro w1 e1 b b0 b1
      obtain ⟨g1, eg1⟩ : ∃ g1 : mmH, g1 = mm_pi g 2 (4 + c) w1 := ⟨_, rfl⟩
      have F1 : fx xC y0 h g1 := by rw [eg1]; exact fx_pi (Or.inl rfl) F
      obtain ⟨H1, -, hc1, -, -, -⟩ := CI_fx F1 Q
      have s107 : ∀ w2 : Int32, w2 = i32 (oE S dn la (10 + c)) → mm_V q_X0_poseOrder (d + 2) (0, 0) K 107 [some (.ref 1), some (.ref 4), some (.int x2), some (.int x3), some (.int (nI c)), some (.int b)] [.int w2, .int (nI (10 + c)), .ref 2] g1 := by
        intro w2 e2
        refine t_X0_poseOrder_107 _ _ _ ?_
        simp only [s_iadd, s_isub, s_imul, s_iand, s_ior, s_ixor, s_ishl, s_ishr, s_iushr, s_idiv, s_irem, s_ladd, s_lsub, s_lmul, s_ldiv, s_lrem, s_ineg, s_i2l, s_l2i, s_i2c, s_lcmp, s_ic, s_lc, s_nul, s_str, s_il, s_ll, s_al, s_dup, s_dup2, s_pop, s_ifne, s_icne, s_ifeq, s_iflt, s_ifge, s_ifgt, s_ifle, s_iceq, s_iclt, s_icge, s_icgt, s_icle, s_ifnull, s_ifnonnull, s_is, s_ls, s_as, s_ii, s_gi, s_gl, s_gr, s_pi, s_pz, s_pl, s_pr, s_iald, s_zald, s_lald, s_aald, s_alen, s_iast, s_zast, s_last, s_iret, s_zret, s_lret, s_aret, s_vret, s_sw, s_aast, mm_sw, mm_ld, mm_s1, mm_s2, mm_kl, Value.category, va_rf, List.nil_append, List.cons_append, Option.toList, true_and, and_true, and_self, true_or, or_true, eq_self, not_true_eq_false, false_implies, true_implies, not_false_eq_true, mm_10, mm_01, false_or, or_false, Nat.left_eq_add, Nat.add_eq_left, Nat.add_left_cancel_iff, Nat.reduceEqDiff, false_and, and_false, reduceIte, mm_kd_pi, mm_ln_pi, mm_gl_pi, mm_gr_pi, mm_sz_pi, mm_gi_pi, mm_kd_pl, mm_ln_pl, mm_gi_pl, mm_gr_pl, mm_sz_pl, mm_gl_pl, mm_kd_pr, mm_ln_pr, mm_gi_pr, mm_gl_pr, mm_sz_pr, mm_gr_pr, mm_kd_pa, mm_ln_pa, mm_gl_pa, mm_gr_pa, mm_sz_pa, mm_gi_pa, W_kd_2 H1, W_s_2 H1, W_ln_2 H1, nI_clamp (show 10 + c < 2 ^ 31 by omega), vp_in_nI (show 10 + c < 16 by omega) (show 16 < 2 ^ 31 by decide), nI_1]
        rw [eg1]
        exact nx w1 w2 e1 e2 _
      refine t_X0_poseOrder_81 _ _ _ ?_
      by_cases q : b = 0
      · simp only [s_iadd, s_isub, s_imul, s_iand, s_ior, s_ixor, s_ishl, s_ishr, s_iushr, s_idiv, s_irem, s_ladd, s_lsub, s_lmul, s_ldiv, s_lrem, s_ineg, s_i2l, s_l2i, s_i2c, s_lcmp, s_ic, s_lc, s_nul, s_str, s_il, s_ll, s_al, s_dup, s_dup2, s_pop, s_ifne, s_icne, s_ifeq, s_iflt, s_ifge, s_ifgt, s_ifle, s_iceq, s_iclt, s_icge, s_icgt, s_icle, s_ifnull, s_ifnonnull, s_is, s_ls, s_as, s_ii, s_gi, s_gl, s_gr, s_pi, s_pz, s_pl, s_pr, s_iald, s_zald, s_lald, s_aald, s_alen, s_iast, s_zast, s_last, s_iret, s_zret, s_lret, s_aret, s_vret, s_sw, s_aast, mm_sw, mm_ld, mm_s1, mm_s2, mm_kl, Value.category, va_rf, List.nil_append, List.cons_append, Option.toList, true_and, and_true, and_self, true_or, or_true, eq_self, not_true_eq_false, false_implies, true_implies, not_false_eq_true, mm_10, mm_01, false_or, or_false, Nat.left_eq_add, Nat.add_eq_left, Nat.add_left_cancel_iff, Nat.reduceEqDiff, false_and, and_false, reduceIte, mm_kd_pi, mm_ln_pi, mm_gl_pi, mm_gr_pi, mm_sz_pi, mm_gi_pi, mm_kd_pl, mm_ln_pl, mm_gi_pl, mm_gr_pl, mm_sz_pl, mm_gl_pl, mm_kd_pr, mm_ln_pr, mm_gi_pr, mm_gl_pr, mm_sz_pr, mm_gr_pr, mm_kd_pa, mm_ln_pa, mm_gl_pa, mm_gr_pa, mm_sz_pa, mm_gi_pa, W_kd_1 Hg, W_s_1 Hg, W_gr_1_0 Hg, W_gr_1_1 Hg, W_kd_2 Hg, W_s_2 Hg, W_ln_2 Hg, nI_clamp (show 4 + c < 2 ^ 31 by omega), vp_in_nI (show 4 + c < 16 by omega) (show 16 < 2 ^ 31 by decide), ← eg1, W_kd_1 H1, W_s_1 H1, W_gr_1_0 H1, W_gr_1_1 H1, show (10 : Int32) + nI c = nI (10 + c) from nI_add 10 c, eq_true q]
        exact s107 (-1) (by rw [ek.2, if_neg (b0 q)]; rfl)
      · have cc := b1 q
        simp only [s_iadd, s_isub, s_imul, s_iand, s_ior, s_ixor, s_ishl, s_ishr, s_iushr, s_idiv, s_irem, s_ladd, s_lsub, s_lmul, s_ldiv, s_lrem, s_ineg, s_i2l, s_l2i, s_i2c, s_lcmp, s_ic, s_lc, s_nul, s_str, s_il, s_ll, s_al, s_dup, s_dup2, s_pop, s_ifne, s_icne, s_ifeq, s_iflt, s_ifge, s_ifgt, s_ifle, s_iceq, s_iclt, s_icge, s_icgt, s_icle, s_ifnull, s_ifnonnull, s_is, s_ls, s_as, s_ii, s_gi, s_gl, s_gr, s_pi, s_pz, s_pl, s_pr, s_iald, s_zald, s_lald, s_aald, s_alen, s_iast, s_zast, s_last, s_iret, s_zret, s_lret, s_aret, s_vret, s_sw, s_aast, mm_sw, mm_ld, mm_s1, mm_s2, mm_kl, Value.category, va_rf, List.nil_append, List.cons_append, Option.toList, true_and, and_true, and_self, true_or, or_true, eq_self, not_true_eq_false, false_implies, true_implies, not_false_eq_true, mm_10, mm_01, false_or, or_false, Nat.left_eq_add, Nat.add_eq_left, Nat.add_left_cancel_iff, Nat.reduceEqDiff, false_and, and_false, reduceIte, mm_kd_pi, mm_ln_pi, mm_gl_pi, mm_gr_pi, mm_sz_pi, mm_gi_pi, mm_kd_pl, mm_ln_pl, mm_gi_pl, mm_gr_pl, mm_sz_pl, mm_gl_pl, mm_kd_pr, mm_ln_pr, mm_gi_pr, mm_gl_pr, mm_sz_pr, mm_gr_pr, mm_kd_pa, mm_ln_pa, mm_gl_pa, mm_gr_pa, mm_sz_pa, mm_gi_pa, W_kd_1 Hg, W_s_1 Hg, W_gr_1_0 Hg, W_gr_1_1 Hg, W_kd_2 Hg, W_s_2 Hg, W_ln_2 Hg, nI_clamp (show 4 + c < 2 ^ 31 by omega), vp_in_nI (show 4 + c < 16 by omega) (show 16 < 2 ^ 31 by decide), ← eg1, W_kd_1 H1, W_s_1 H1, W_gr_1_0 H1, W_gr_1_1 H1, W_kd_4 H1, W_s_4 H1, W_gr_4_0 H1, W_gr_4_2 H1, W_gr_4_3 H1, W_gr_4_4 H1, W_gr_4_7 H1, W_gr_4_8 H1, W_gr_4_9 H1, W_gr_4_11 H1, W_gr_4_12 H1, W_gr_4_13 H1, W_gr_4_15 H1, W_kd_10 H1, W_s_10 H1, W_ln_10 H1, show (10 : Int32) + nI c = nI (10 + c) from nI_add 10 c, eq_false q, nI_clamp (show c < 2 ^ 31 by omega), vp_in_nI (show c < 6 by omega) (show 6 < 2 ^ 31 by decide), (hc1.2.1 c cc).2.1]
        exact s107 _ (by rw [ek.2, if_pos cc, i32_nat])
    refine c_X0_poseOrder_49 (bb := (0, 0)) (b := (0, 0)) (Nat.le_of_ble_eq_true rfl) ⟨rfl, rfl⟩ (W_kd_4 Hg) (W_s_4 Hg) (sp_hasChild (W_h4 Hg) hcg.1.2.1 (by omega) (fun q => ?_) (fun q => ?_)) <;> refine t_X0_poseOrder_52 _ _ _ ?_
    · have cc : c < S 0 1 := by
        obtain ⟨j, hj, ej⟩ := vp_in_of q (by omega)
        have := (nI_eq (by omega) (by omega)).mp ej
        omega
      simp only [s_iadd, s_isub, s_imul, s_iand, s_ior, s_ixor, s_ishl, s_ishr, s_iushr, s_idiv, s_irem, s_ladd, s_lsub, s_lmul, s_ldiv, s_lrem, s_ineg, s_i2l, s_l2i, s_i2c, s_lcmp, s_ic, s_lc, s_nul, s_str, s_il, s_ll, s_al, s_dup, s_dup2, s_pop, s_ifne, s_icne, s_ifeq, s_iflt, s_ifge, s_ifgt, s_ifle, s_iceq, s_iclt, s_icge, s_icgt, s_icle, s_ifnull, s_ifnonnull, s_is, s_ls, s_as, s_ii, s_gi, s_gl, s_gr, s_pi, s_pz, s_pl, s_pr, s_iald, s_zald, s_lald, s_aald, s_alen, s_iast, s_zast, s_last, s_iret, s_zret, s_lret, s_aret, s_vret, s_sw, s_aast, mm_sw, mm_ld, mm_s1, mm_s2, mm_kl, Value.category, va_rf, List.nil_append, List.cons_append, Option.toList, true_and, and_true, and_self, true_or, or_true, eq_self, not_true_eq_false, false_implies, true_implies, not_false_eq_true, mm_10, mm_01, false_or, or_false, Nat.left_eq_add, Nat.add_eq_left, Nat.add_left_cancel_iff, Nat.reduceEqDiff, false_and, and_false, reduceIte, mm_kd_pi, mm_ln_pi, mm_gl_pi, mm_gr_pi, mm_sz_pi, mm_gi_pi, mm_kd_pl, mm_ln_pl, mm_gi_pl, mm_gr_pl, mm_sz_pl, mm_gl_pl, mm_kd_pr, mm_ln_pr, mm_gi_pr, mm_gl_pr, mm_sz_pr, mm_gr_pr, mm_kd_pa, mm_ln_pa, mm_gl_pa, mm_gr_pa, mm_sz_pa, mm_gi_pa, W_kd_1 Hg, W_s_1 Hg, W_gr_1_0 Hg, W_gr_1_1 Hg, W_kd_4 Hg, W_s_4 Hg, W_gr_4_0 Hg, W_gr_4_2 Hg, W_gr_4_3 Hg, W_gr_4_4 Hg, W_gr_4_7 Hg, W_gr_4_8 Hg, W_gr_4_9 Hg, W_gr_4_11 Hg, W_gr_4_12 Hg, W_gr_4_13 Hg, W_gr_4_15 Hg, W_kd_8 Hg, W_s_8 Hg, W_ln_8 Hg, show (4 : Int32) + nI c = nI (4 + c) from nI_add 4 c, show ((1 : Int32) = 0) = False by decide, nI_clamp (show c < 2 ^ 31 by omega), vp_in_nI (show c < 6 by omega) (show 6 < 2 ^ 31 by decide), (hcg.2.1 c cc).1]
      refine c_X0_poseOrder_74 (bb := (0, 0)) (b := (0, 0)) (Nat.le_of_ble_eq_true rfl) ⟨rfl, rfl⟩ (sp_bitCount (v.2.1 c cc).1 ?_)
      refine t_X0_poseOrder_77 _ _ _ ?_
      exact s81 _ (by rw [ek.1, if_pos cc, i32_nat]) 1 (fun q => absurd q (by decide)) (fun _ => cc)
    · have cc : ¬ c < S 0 1 := fun cc => q (vp_in_nI cc (by omega))
      simp only [s_iadd, s_isub, s_imul, s_iand, s_ior, s_ixor, s_ishl, s_ishr, s_iushr, s_idiv, s_irem, s_ladd, s_lsub, s_lmul, s_ldiv, s_lrem, s_ineg, s_i2l, s_l2i, s_i2c, s_lcmp, s_ic, s_lc, s_nul, s_str, s_il, s_ll, s_al, s_dup, s_dup2, s_pop, s_ifne, s_icne, s_ifeq, s_iflt, s_ifge, s_ifgt, s_ifle, s_iceq, s_iclt, s_icge, s_icgt, s_icle, s_ifnull, s_ifnonnull, s_is, s_ls, s_as, s_ii, s_gi, s_gl, s_gr, s_pi, s_pz, s_pl, s_pr, s_iald, s_zald, s_lald, s_aald, s_alen, s_iast, s_zast, s_last, s_iret, s_zret, s_lret, s_aret, s_vret, s_sw, s_aast, mm_sw, mm_ld, mm_s1, mm_s2, mm_kl, Value.category, va_rf, List.nil_append, List.cons_append, Option.toList, true_and, and_true, and_self, true_or, or_true, eq_self, not_true_eq_false, false_implies, true_implies, not_false_eq_true, mm_10, mm_01, false_or, or_false, Nat.left_eq_add, Nat.add_eq_left, Nat.add_left_cancel_iff, Nat.reduceEqDiff, false_and, and_false, reduceIte, mm_kd_pi, mm_ln_pi, mm_gl_pi, mm_gr_pi, mm_sz_pi, mm_gi_pi, mm_kd_pl, mm_ln_pl, mm_gi_pl, mm_gr_pl, mm_sz_pl, mm_gl_pl, mm_kd_pr, mm_ln_pr, mm_gi_pr, mm_gl_pr, mm_sz_pr, mm_gr_pr, mm_kd_pa, mm_ln_pa, mm_gl_pa, mm_gr_pa, mm_sz_pa, mm_gi_pa, W_kd_1 Hg, W_s_1 Hg, W_gr_1_0 Hg, W_gr_1_1 Hg, W_kd_4 Hg, W_s_4 Hg, W_gr_4_0 Hg, W_gr_4_2 Hg, W_gr_4_3 Hg, W_gr_4_4 Hg, W_gr_4_7 Hg, W_gr_4_8 Hg, W_gr_4_9 Hg, W_gr_4_11 Hg, W_gr_4_12 Hg, W_gr_4_13 Hg, W_gr_4_15 Hg, show (4 : Int32) + nI c = nI (4 + c) from nI_add 4 c]
      exact s81 _ (by rw [ek.1, if_neg cc]; rfl) 0 (fun _ => cc) (fun q => absurd rfl q)
theorem sp_pose {n : Nat} {te : Nat → tEn} {dn : Nat} {la : Int} (Q : CI h S A n te) (k : ∀ g, fx xC y0 h g → (∀ j, j < 16 → mm_gi g 2 j = i32 (oE S dn la j)) → K none g) : mm_MV q_X0_poseOrder (d + 2) (0, 0) [.ref 1, .ref 4, .int (nI dn), .int (i32 la)] h K := by
  obtain ⟨H, v, hc, hA, hT, h16⟩ := id Q
  have L8 := v.1.1
  have A8 : S 0 4 < 256 := Nat.lt_of_lt_of_le v.1.2.2.2.2.1 (Nat.pow_le_pow_right (by decide) L8)
  obtain ⟨g1, eg1⟩ : ∃ g1 : mmH, g1 = mm_pi h 2 0 (nI (S 9 0)) := ⟨_, rfl⟩
  obtain ⟨g2, eg2⟩ : ∃ g2 : mmH, g2 = mm_pi g1 2 1 (nI dn) := ⟨_, rfl⟩
  obtain ⟨g3, eg3⟩ : ∃ g3 : mmH, g3 = mm_pi g2 2 2 (i32 la) := ⟨_, rfl⟩
  have F1 : fx xC y0 h g1 := by rw [eg1]; exact fx_pi (Or.inl rfl) fx_rf
  have F2 : fx xC y0 h g2 := by rw [eg2]; exact fx_pi (Or.inl rfl) F1
  have F3 : fx xC y0 h g3 := by rw [eg3]; exact fx_pi (Or.inl rfl) F2
  have H1 := fx_WS F1 H
  have H2 := fx_WS F2 H
  obtain ⟨H3, -, hc3, -, -, -⟩ := CI_fx F3 Q
  have popL : pop (S 0 4) ≤ S 0 0 := (opn_bits (S 0 0) L8 (S 0 4) (fun a => nI (S 0 4 / 2 ^ (a - 20) % 2)) v.1.2.2.2.2.1 (fun l _ => by show nI (S 0 4 / 2 ^ (20 + l - 20) % 2) = _; rw [Nat.add_sub_cancel_left])).1
  refine e_X0_poseOrder (t_X0_poseOrder_0 _ _ _ ?_)
  simp only [s_iadd, s_isub, s_imul, s_iand, s_ior, s_ixor, s_ishl, s_ishr, s_iushr, s_idiv, s_irem, s_ladd, s_lsub, s_lmul, s_ldiv, s_lrem, s_ineg, s_i2l, s_l2i, s_i2c, s_lcmp, s_ic, s_lc, s_nul, s_str, s_il, s_ll, s_al, s_dup, s_dup2, s_pop, s_ifne, s_icne, s_ifeq, s_iflt, s_ifge, s_ifgt, s_ifle, s_iceq, s_iclt, s_icge, s_icgt, s_icle, s_ifnull, s_ifnonnull, s_is, s_ls, s_as, s_ii, s_gi, s_gl, s_gr, s_pi, s_pz, s_pl, s_pr, s_iald, s_zald, s_lald, s_aald, s_alen, s_iast, s_zast, s_last, s_iret, s_zret, s_lret, s_aret, s_vret, s_sw, s_aast, mm_sw, mm_ld, mm_s1, mm_s2, mm_kl, Value.category, va_rf, List.nil_append, List.cons_append, Option.toList, true_and, and_true, and_self, true_or, or_true, eq_self, not_true_eq_false, false_implies, true_implies, not_false_eq_true, mm_10, mm_01, false_or, or_false, Nat.left_eq_add, Nat.add_eq_left, Nat.add_left_cancel_iff, Nat.reduceEqDiff, false_and, and_false, reduceIte, mm_kd_pi, mm_ln_pi, mm_gl_pi, mm_gr_pi, mm_sz_pi, mm_gi_pi, mm_kd_pl, mm_ln_pl, mm_gi_pl, mm_gr_pl, mm_sz_pl, mm_gl_pl, mm_kd_pr, mm_ln_pr, mm_gi_pr, mm_gl_pr, mm_sz_pr, mm_gr_pr, mm_kd_pa, mm_ln_pa, mm_gl_pa, mm_gr_pa, mm_sz_pa, mm_gi_pa, W_kd_1 H, W_s_1 H, W_gr_1_0 H, W_gr_1_1 H, W_kd_4 H, W_s_4 H, W_gr_4_0 H, W_gr_4_2 H, W_gr_4_3 H, W_gr_4_4 H, W_gr_4_7 H, W_gr_4_8 H, W_gr_4_9 H, W_gr_4_11 H, W_gr_4_12 H, W_gr_4_13 H, W_gr_4_15 H, W_kd_13 H, W_s_13 H, W_ln_13 H, W_kd_2 H, W_s_2 H, W_ln_2 H, show (0 : Int32).toNatClampNeg = 0 from rfl, show vp_in (0 : Int32) 3 from vp_in_nI (n := 0) (by decide) (by decide), show (0 : Int32).toNatClampNeg = 0 from rfl, show vp_in (0 : Int32) 16 from vp_in_nI (n := 0) (by decide) (by decide), show (1 : Int32).toNatClampNeg = 1 from rfl, show vp_in (1 : Int32) 16 from vp_in_nI (n := 1) (by decide) (by decide), show (2 : Int32).toNatClampNeg = 2 from rfl, show vp_in (2 : Int32) 16 from vp_in_nI (n := 2) (by decide) (by decide), hc.2.2.2.2 0 (by decide), ← eg1, W_kd_1 H1, W_s_1 H1, W_gr_1_0 H1, W_gr_1_1 H1, W_kd_2 H1, W_s_2 H1, W_ln_2 H1, ← eg2, W_kd_1 H2, W_s_1 H2, W_gr_1_0 H2, W_gr_1_1 H2, W_kd_2 H2, W_s_2 H2, W_ln_2 H2, ← eg3, W_kd_1 H3, W_s_1 H3, W_gr_1_0 H3, W_gr_1_1 H3]
  refine c_X0_poseOrder_32 (bb := (0, 0)) (b := (0, 0)) (Nat.le_of_ble_eq_true rfl) ⟨rfl, rfl⟩ (W_kd_4 H3) (W_s_4 H3) (sp_openLetters (W_h4 H3) hc3.1.1 hc3.1.2.2.2.2.1 A8 popL ?_)
  refine t_X0_poseOrder_35 _ _ _ ?_
  simp only [s_iadd, s_isub, s_imul, s_iand, s_ior, s_ixor, s_ishl, s_ishr, s_iushr, s_idiv, s_irem, s_ladd, s_lsub, s_lmul, s_ldiv, s_lrem, s_ineg, s_i2l, s_l2i, s_i2c, s_lcmp, s_ic, s_lc, s_nul, s_str, s_il, s_ll, s_al, s_dup, s_dup2, s_pop, s_ifne, s_icne, s_ifeq, s_iflt, s_ifge, s_ifgt, s_ifle, s_iceq, s_iclt, s_icge, s_icgt, s_icle, s_ifnull, s_ifnonnull, s_is, s_ls, s_as, s_ii, s_gi, s_gl, s_gr, s_pi, s_pz, s_pl, s_pr, s_iald, s_zald, s_lald, s_aald, s_alen, s_iast, s_zast, s_last, s_iret, s_zret, s_lret, s_aret, s_vret, s_sw, s_aast, mm_sw, mm_ld, mm_s1, mm_s2, mm_kl, Value.category, va_rf, List.nil_append, List.cons_append, Option.toList, true_and, and_true, and_self, true_or, or_true, eq_self, not_true_eq_false, false_implies, true_implies, not_false_eq_true, mm_10, mm_01, false_or, or_false, Nat.left_eq_add, Nat.add_eq_left, Nat.add_left_cancel_iff, Nat.reduceEqDiff, false_and, and_false, reduceIte, mm_kd_pi, mm_ln_pi, mm_gl_pi, mm_gr_pi, mm_sz_pi, mm_gi_pi, mm_kd_pl, mm_ln_pl, mm_gi_pl, mm_gr_pl, mm_sz_pl, mm_gl_pl, mm_kd_pr, mm_ln_pr, mm_gi_pr, mm_gl_pr, mm_sz_pr, mm_gr_pr, mm_kd_pa, mm_ln_pa, mm_gl_pa, mm_gr_pa, mm_sz_pa, mm_gi_pa, W_kd_2 H3, W_s_2 H3, W_ln_2 H3, show (3 : Int32).toNatClampNeg = 3 from rfl, show vp_in (3 : Int32) 16 from vp_in_nI (n := 3) (by decide) (by decide)]
  refine lp_pose (dn := dn) (la := la) Q k 6 0 _ _ rfl (fx_pi (Or.inl rfl) F3) (fun j hj => ?_) (fun e he => by omega)
  have : j = 0 ∨ j = 1 ∨ j = 2 ∨ j = 3 := by omega
  rcases this with rfl | rfl | rfl | rfl
  · rw [mm_gi_pi, if_neg (by omega), eg3, mm_gi_pi, if_neg (by omega), eg2, mm_gi_pi, if_neg (by omega), eg1, mm_gi_pi, if_pos ⟨rfl, rfl⟩]
    exact i32_nat.symm
  · rw [mm_gi_pi, if_neg (by omega), eg3, mm_gi_pi, if_neg (by omega), eg2, mm_gi_pi, if_pos ⟨rfl, rfl⟩]
    exact i32_nat.symm
  · rw [mm_gi_pi, if_neg (by omega), eg3, mm_gi_pi, if_pos ⟨rfl, rfl⟩]
    rfl
  · rw [mm_gi_pi, if_pos ⟨rfl, rfl⟩]
    exact i32_nat.symm
theorem CX_fx {X : Nat → Nat → Prop} {Y : Nat → Prop} (F : fx X Y h g) (hX : ∀ c j, 58 ≤ c → c ≤ 65 → ¬ X c j) (H : CX h N z I cl) : CX g N z I cl := by
  obtain ⟨⟨t1, t2, t3, t4, t5, t6⟩, n12, D⟩ := H
  have e : ∀ c j, 58 ≤ c → c ≤ 65 → mm_gi g c j = mm_gi h c j := fun c j c1 c2 => F.2.1 c j (hX c j c1 c2)
  refine ⟨⟨fx_txS F t1, t2, (e 58 6 (by decide) (by decide)).trans t3, t4, t5, fun i hi => ?_⟩, n12, fun k hk => CDc_mo (Nat.le_refl _) (fun _ _ => rfl) (fun c c1 c2 => e c k (by omega) (by omega)) (D k hk)⟩
  have := t6 i hi
  unfold cde at this ⊢
  rw [e 64 i (by decide) (by decide), e 65 i (by decide) (by decide)]
  exact this
theorem sp_runOnce (C : COr A h s) (X : CX h N z I cl) (hi : i < N) (wf : WFo (cl i)) (k1 : ∀ g s', ONx A (cl i) s (some s') → COr A g (s'.1, s'.2.1, s'.2.2.1, s'.2.2.2.1, s'.2.2.2.2) ∨ s'.2.2.2.1 > 1000 → (s'.2.2.2.1 = s.2.2.2.1 ∨ s'.2.2.2.1 = s.2.2.2.1 + 1) → fx xRn y0 h g → K (some (.int 1)) g) (k0 : ∀ g, ONx A (cl i) s none → fx xRn y0 h g → K (some (.int 0)) g) : mm_MV q_X9_runOnce (d + 7) (0, 0) [.ref 0, .ref 58, .int (nI i)] h K := by
  obtain ⟨Q, e15, e16, b1, b2, b3⟩ := C
  obtain ⟨S, n, te, dn, la⟩ := s
  have Q : CI h S A n te := Q
  have b1 : dn ≤ 1000 := b1
  have b2 : -1 ≤ la := b2
  have b3 : la ≤ 1000 := b3
  have H := Q.1
  have v := Q.2.1
  have n12 := X.2.1
  have okE := oX_ok v b1 b2 b3
  refine e_X9_runOnce (t_X9_runOnce_0 _ _ _ ?_)
  simp only [s_iadd, s_isub, s_imul, s_iand, s_ior, s_ixor, s_ishl, s_ishr, s_iushr, s_idiv, s_irem, s_ladd, s_lsub, s_lmul, s_ldiv, s_lrem, s_ineg, s_i2l, s_l2i, s_i2c, s_lcmp, s_ic, s_lc, s_nul, s_str, s_il, s_ll, s_al, s_dup, s_dup2, s_pop, s_ifne, s_icne, s_ifeq, s_iflt, s_ifge, s_ifgt, s_ifle, s_iceq, s_iclt, s_icge, s_icgt, s_icle, s_ifnull, s_ifnonnull, s_is, s_ls, s_as, s_ii, s_gi, s_gl, s_gr, s_pi, s_pz, s_pl, s_pr, s_iald, s_zald, s_lald, s_aald, s_alen, s_iast, s_zast, s_last, s_iret, s_zret, s_lret, s_aret, s_vret, s_sw, s_aast, mm_sw, mm_ld, mm_s1, mm_s2, mm_kl, Value.category, va_rf, List.nil_append, List.cons_append, Option.toList, true_and, and_true, and_self, true_or, or_true, eq_self, not_true_eq_false, false_implies, true_implies, not_false_eq_true, mm_10, mm_01, false_or, or_false, Nat.left_eq_add, Nat.add_eq_left, Nat.add_left_cancel_iff, Nat.reduceEqDiff, false_and, and_false, reduceIte, mm_kd_pi, mm_ln_pi, mm_gl_pi, mm_gr_pi, mm_sz_pi, mm_gi_pi, mm_kd_pl, mm_ln_pl, mm_gi_pl, mm_gr_pl, mm_sz_pl, mm_gl_pl, mm_kd_pr, mm_ln_pr, mm_gi_pr, mm_gl_pr, mm_sz_pr, mm_gr_pr, mm_kd_pa, mm_ln_pa, mm_gl_pa, mm_gr_pa, mm_sz_pa, mm_gi_pa, W_kd_0 H, W_s_0 H, W_gr_0_0 H, W_gr_0_1 H, W_gr_0_2 H, W_gr_0_3 H, W_gr_0_4 H, W_gr_0_5 H, W_gr_0_6 H, W_gr_0_7 H, W_gr_0_8 H, W_gr_0_9 H, W_gr_0_10 H, W_gr_0_11 H, e15, e16]
  refine c_X9_runOnce_16 (bb := (0, 0)) (b := (0, 0)) (Nat.le_of_ble_eq_true rfl) ⟨rfl, rfl⟩ (W_kd_1 H) (W_s_1 H) (sp_pose (d := d + 4) (dn := dn) (la := la) Q (fun g1 F1 Wd => ?_))
  have Q1 := CI_fx F1 Q
  have H1 := Q1.1
  have X1 : CX g1 N z I cl := CX_fx F1 (fun c j c1 c2 => by unfold xC; omega) X
  have rn1 : fx xRn y0 h g1 := fx_mo (fun c j q => Or.inl q) (fun _ q => q) F1
  obtain ⟨x1, x2, x3, x4, x5, x6⟩ := X1.2.2 i hi
  -- the deed itself
  have act : ∀ g2 xv yv r5 r6, fx (fun c _ => c = 3) y0 g1 g2 → (∀ D, (cl i).2.2.2.2 = some D → D (oE S dn la) = some 1) → (((cl i).1 = 3 ∧ xv = -1 ∧ yv = -1) ∨ ((cl i).1 ≠ 3 ∧ ∃ D1 D2 a b, (cl i).2.1 = some D1 ∧ (cl i).2.2.1 = some D2 ∧ D1 (oE S dn la) = some a ∧ D2 (oE S dn la) = some b ∧ xv = i32 a ∧ yv = i32 b)) → r5 = some (Value.int yv) → mm_V q_X9_runOnce (d + 7) (0, 0) K 117 [some (.ref 0), some (.ref 58), some (.int (nI i)), some (.int (nI (cl i).1)), some (.int xv), r5, r6] [] g2 := by
    intro g2 xv yv r5 r6 F2 ht hv e5
    subst e5
    have F2' : fx xC y0 g1 g2 := fx_mo (fun c j q => Or.inr q) (fun _ q => q) F2
    have Q2 := CI_fx F2' Q1
    have H2 := Q2.1
    have rn2 : fx xRn y0 h g2 := fx_tr rn1 (fx_mo (fun c j q => Or.inl (Or.inr q)) (fun _ q => q) F2)
    refine t_X9_runOnce_117 _ _ _ ?_
    simp only [s_iadd, s_isub, s_imul, s_iand, s_ior, s_ixor, s_ishl, s_ishr, s_iushr, s_idiv, s_irem, s_ladd, s_lsub, s_lmul, s_ldiv, s_lrem, s_ineg, s_i2l, s_l2i, s_i2c, s_lcmp, s_ic, s_lc, s_nul, s_str, s_il, s_ll, s_al, s_dup, s_dup2, s_pop, s_ifne, s_icne, s_ifeq, s_iflt, s_ifge, s_ifgt, s_ifle, s_iceq, s_iclt, s_icge, s_icgt, s_icle, s_ifnull, s_ifnonnull, s_is, s_ls, s_as, s_ii, s_gi, s_gl, s_gr, s_pi, s_pz, s_pl, s_pr, s_iald, s_zald, s_lald, s_aald, s_alen, s_iast, s_zast, s_last, s_iret, s_zret, s_lret, s_aret, s_vret, s_sw, s_aast, mm_sw, mm_ld, mm_s1, mm_s2, mm_kl, Value.category, va_rf, List.nil_append, List.cons_append, Option.toList, true_and, and_true, and_self, true_or, or_true, eq_self, not_true_eq_false, false_implies, true_implies, not_false_eq_true, mm_10, mm_01, false_or, or_false, Nat.left_eq_add, Nat.add_eq_left, Nat.add_left_cancel_iff, Nat.reduceEqDiff, false_and, and_false, reduceIte, mm_kd_pi, mm_ln_pi, mm_gl_pi, mm_gr_pi, mm_sz_pi, mm_gi_pi, mm_kd_pl, mm_ln_pl, mm_gi_pl, mm_gr_pl, mm_sz_pl, mm_gl_pl, mm_kd_pr, mm_ln_pr, mm_gi_pr, mm_gl_pr, mm_sz_pr, mm_gr_pr, mm_kd_pa, mm_ln_pa, mm_gl_pa, mm_gr_pa, mm_sz_pa, mm_gi_pa]
    refine c_X9_runOnce_123 (bb := (0, 0)) (b := (0, 0)) (Nat.le_of_ble_eq_true rfl) ⟨rfl, rfl⟩ (W_kd_0 H2) (W_s_0 H2) (sp_act (d := d + 1) (kind := (cl i).1) Q2 x1.2 (fun g3 F3 zz => ?_) (fun p q g3 ok F3 C3 => ?_)) <;> refine t_X9_runOnce_126 _ _ _ ?_
    · have neg : (0 ≤ dE S A (cl i).1 xv yv) = False := eq_false (by
        rcases dE_cases S A (cl i).1 xv yv with e | e | e | e
        · exact absurd e zz
        · rw [e]; decide
        · rw [e]; decide
        · rw [e]; decide)
      simp only [s_iadd, s_isub, s_imul, s_iand, s_ior, s_ixor, s_ishl, s_ishr, s_iushr, s_idiv, s_irem, s_ladd, s_lsub, s_lmul, s_ldiv, s_lrem, s_ineg, s_i2l, s_l2i, s_i2c, s_lcmp, s_ic, s_lc, s_nul, s_str, s_il, s_ll, s_al, s_dup, s_dup2, s_pop, s_ifne, s_icne, s_ifeq, s_iflt, s_ifge, s_ifgt, s_ifle, s_iceq, s_iclt, s_icge, s_icgt, s_icle, s_ifnull, s_ifnonnull, s_is, s_ls, s_as, s_ii, s_gi, s_gl, s_gr, s_pi, s_pz, s_pl, s_pr, s_iald, s_zald, s_lald, s_aald, s_alen, s_iast, s_zast, s_last, s_iret, s_zret, s_lret, s_aret, s_vret, s_sw, s_aast, mm_sw, mm_ld, mm_s1, mm_s2, mm_kl, Value.category, va_rf, List.nil_append, List.cons_append, Option.toList, true_and, and_true, and_self, true_or, or_true, eq_self, not_true_eq_false, false_implies, true_implies, not_false_eq_true, mm_10, mm_01, false_or, or_false, Nat.left_eq_add, Nat.add_eq_left, Nat.add_left_cancel_iff, Nat.reduceEqDiff, false_and, and_false, reduceIte, mm_kd_pi, mm_ln_pi, mm_gl_pi, mm_gr_pi, mm_sz_pi, mm_gi_pi, mm_kd_pl, mm_ln_pl, mm_gi_pl, mm_gr_pl, mm_sz_pl, mm_gl_pl, mm_kd_pr, mm_ln_pr, mm_gi_pr, mm_gl_pr, mm_sz_pr, mm_gr_pr, mm_kd_pa, mm_ln_pa, mm_gl_pa, mm_gr_pa, mm_sz_pa, mm_gi_pa, neg]
      exact k0 g3 (Or.inr ⟨ht, Or.inr ⟨xv, yv, hv, Or.inl ⟨zz, rfl⟩⟩⟩) (fx_tr rn2 (fx_mo (fun c j q => Or.inl q) (fun _ q => q) F3))
    · obtain ⟨rr, r1, r2⟩ := dR_nn x1.2 v ok
      have H3 := C3.1
      have c15 : mm_gi g3 0 15 = nI dn := by rw [F3.2.1 0 15 (by unfold xAct; omega), F2.2.1 0 15 (by omega), F1.2.1 0 15 (by unfold xC; omega)]; exact e15
      have c16 : mm_gi g3 0 16 = i32 la := by rw [F3.2.1 0 16 (by unfold xAct; omega), F2.2.1 0 16 (by omega), F1.2.1 0 16 (by unfold xC; omega)]; exact e16
      have rn3 : fx xRn y0 h g3 := fx_tr rn2 (fx_mo (fun c j q => by unfold xAct at q; unfold xRn; omega) (fun _ q => q) F3)
      have nn : (0 ≤ dR S A (cl i).1 p q) = True := eq_true (by rw [r2]; exact nI_pos' (by omega))
      obtain ⟨g4, eg4⟩ : ∃ g4 : mmH, g4 = mm_pi g3 0 15 (nI (dn + 1)) := ⟨_, rfl⟩
      have H4 : WS g4 := by rw [eg4]; exact WS_pi H3
      have rn4 : fx xRn y0 h g4 := by rw [eg4]; exact fx_pi (by unfold xRn; omega) rn3
      have cis : ∀ g5, fx (fun c j => c = 0 ∧ (j = 15 ∨ j = 16)) y0 g3 g5 → CI g5 (dS S A (cl i).1 p q) A (pshN n) (pshT n te (entr S (cl i).1)) := fun g5 F5 => by
        obtain ⟨q1, q2, q3, q4, q5, q6⟩ := C3
        exact ⟨fx_WS F5 q1, q2, HC_cg (fun c j c1 c2 => F5.2.1 c j (by omega)) q3, CAL_x F5 (fun c j hc => by omega) rfl rfl q4, CT_fx F5 (fun c j hc => by omega) q5, q6⟩
      have F34 : fx (fun c j => c = 0 ∧ (j = 15 ∨ j = 16)) y0 g3 g4 := by rw [eg4]; exact fx_pi ⟨rfl, Or.inl rfl⟩ fx_rf
      by_cases ka : (cl i).1 = 1
      · simp only [s_iadd, s_isub, s_imul, s_iand, s_ior, s_ixor, s_ishl, s_ishr, s_iushr, s_idiv, s_irem, s_ladd, s_lsub, s_lmul, s_ldiv, s_lrem, s_ineg, s_i2l, s_l2i, s_i2c, s_lcmp, s_ic, s_lc, s_nul, s_str, s_il, s_ll, s_al, s_dup, s_dup2, s_pop, s_ifne, s_icne, s_ifeq, s_iflt, s_ifge, s_ifgt, s_ifle, s_iceq, s_iclt, s_icge, s_icgt, s_icle, s_ifnull, s_ifnonnull, s_is, s_ls, s_as, s_ii, s_gi, s_gl, s_gr, s_pi, s_pz, s_pl, s_pr, s_iald, s_zald, s_lald, s_aald, s_alen, s_iast, s_zast, s_last, s_iret, s_zret, s_lret, s_aret, s_vret, s_sw, s_aast, mm_sw, mm_ld, mm_s1, mm_s2, mm_kl, Value.category, va_rf, List.nil_append, List.cons_append, Option.toList, true_and, and_true, and_self, true_or, or_true, eq_self, not_true_eq_false, false_implies, true_implies, not_false_eq_true, mm_10, mm_01, false_or, or_false, Nat.left_eq_add, Nat.add_eq_left, Nat.add_left_cancel_iff, Nat.reduceEqDiff, false_and, and_false, reduceIte, mm_kd_pi, mm_ln_pi, mm_gl_pi, mm_gr_pi, mm_sz_pi, mm_gi_pi, mm_kd_pl, mm_ln_pl, mm_gi_pl, mm_gr_pl, mm_sz_pl, mm_gl_pl, mm_kd_pr, mm_ln_pr, mm_gi_pr, mm_gl_pr, mm_sz_pr, mm_gr_pr, mm_kd_pa, mm_ln_pa, mm_gl_pa, mm_gr_pa, mm_sz_pa, mm_gi_pa, nn, W_kd_0 H3, W_s_0 H3, W_gr_0_0 H3, W_gr_0_1 H3, W_gr_0_2 H3, W_gr_0_3 H3, W_gr_0_4 H3, W_gr_0_5 H3, W_gr_0_6 H3, W_gr_0_7 H3, W_gr_0_8 H3, W_gr_0_9 H3, W_gr_0_10 H3, W_gr_0_11 H3, c15, nI_1, ← eg4, W_kd_0 H4, W_s_0 H4, W_gr_0_0 H4, W_gr_0_1 H4, W_gr_0_2 H4, W_gr_0_3 H4, W_gr_0_4 H4, W_gr_0_5 H4, W_gr_0_6 H4, W_gr_0_7 H4, W_gr_0_8 H4, W_gr_0_9 H4, W_gr_0_10 H4, W_gr_0_11 H4, show (nI (cl i).1 = 1) = True from eq_true (by rw [ka]; rfl)]
        refine t_X9_runOnce_156 _ _ _ ?_
        simp only [s_iadd, s_isub, s_imul, s_iand, s_ior, s_ixor, s_ishl, s_ishr, s_iushr, s_idiv, s_irem, s_ladd, s_lsub, s_lmul, s_ldiv, s_lrem, s_ineg, s_i2l, s_l2i, s_i2c, s_lcmp, s_ic, s_lc, s_nul, s_str, s_il, s_ll, s_al, s_dup, s_dup2, s_pop, s_ifne, s_icne, s_ifeq, s_iflt, s_ifge, s_ifgt, s_ifle, s_iceq, s_iclt, s_icge, s_icgt, s_icle, s_ifnull, s_ifnonnull, s_is, s_ls, s_as, s_ii, s_gi, s_gl, s_gr, s_pi, s_pz, s_pl, s_pr, s_iald, s_zald, s_lald, s_aald, s_alen, s_iast, s_zast, s_last, s_iret, s_zret, s_lret, s_aret, s_vret, s_sw, s_aast, mm_sw, mm_ld, mm_s1, mm_s2, mm_kl, Value.category, va_rf, List.nil_append, List.cons_append, Option.toList, true_and, and_true, and_self, true_or, or_true, eq_self, not_true_eq_false, false_implies, true_implies, not_false_eq_true, mm_10, mm_01, false_or, or_false, Nat.left_eq_add, Nat.add_eq_left, Nat.add_left_cancel_iff, Nat.reduceEqDiff, false_and, and_false, reduceIte, mm_kd_pi, mm_ln_pi, mm_gl_pi, mm_gr_pi, mm_sz_pi, mm_gi_pi, mm_kd_pl, mm_ln_pl, mm_gi_pl, mm_gr_pl, mm_sz_pl, mm_gl_pl, mm_kd_pr, mm_ln_pr, mm_gi_pr, mm_gl_pr, mm_sz_pr, mm_gr_pr, mm_kd_pa, mm_ln_pa, mm_gl_pa, mm_gr_pa, mm_sz_pa, mm_gi_pa]
        refine k1 _ (dS S A (cl i).1 p q, pshN n, pshT n te (entr S (cl i).1), dn + 1, (dR S A (cl i).1 p q).toInt) (Or.inr ⟨ht, Or.inr ⟨xv, yv, hv, Or.inr ⟨p, q, ok, by rw [if_pos ka]⟩⟩⟩) ?_ (Or.inr rfl) (fx_pi (by unfold xRn; omega) rn4)
        by_cases d1 : dn + 1 ≤ 1000
        · refine Or.inl ⟨cis _ (fx_pi ⟨rfl, Or.inr rfl⟩ F34), ?_, ?_, d1, ?_, ?_⟩
          · rw [mm_gi_pi, if_neg (by omega), eg4, mm_gi_pi, if_pos ⟨rfl, rfl⟩]
          · rw [mm_gi_pi, if_pos ⟨rfl, rfl⟩]
            show _ = i32 (dR S A (cl i).1 p q).toInt
            rw [r2, nI_toInt (by omega), i32_nat]
          · show -1 ≤ (dR S A (cl i).1 p q).toInt
            rw [r2, nI_toInt (by omega)]; omega
          · show (dR S A (cl i).1 p q).toInt ≤ 1000
            rw [r2, nI_toInt (by omega)]; omega
        · exact Or.inr (by show dn + 1 > 1000; omega)
      · simp only [s_iadd, s_isub, s_imul, s_iand, s_ior, s_ixor, s_ishl, s_ishr, s_iushr, s_idiv, s_irem, s_ladd, s_lsub, s_lmul, s_ldiv, s_lrem, s_ineg, s_i2l, s_l2i, s_i2c, s_lcmp, s_ic, s_lc, s_nul, s_str, s_il, s_ll, s_al, s_dup, s_dup2, s_pop, s_ifne, s_icne, s_ifeq, s_iflt, s_ifge, s_ifgt, s_ifle, s_iceq, s_iclt, s_icge, s_icgt, s_icle, s_ifnull, s_ifnonnull, s_is, s_ls, s_as, s_ii, s_gi, s_gl, s_gr, s_pi, s_pz, s_pl, s_pr, s_iald, s_zald, s_lald, s_aald, s_alen, s_iast, s_zast, s_last, s_iret, s_zret, s_lret, s_aret, s_vret, s_sw, s_aast, mm_sw, mm_ld, mm_s1, mm_s2, mm_kl, Value.category, va_rf, List.nil_append, List.cons_append, Option.toList, true_and, and_true, and_self, true_or, or_true, eq_self, not_true_eq_false, false_implies, true_implies, not_false_eq_true, mm_10, mm_01, false_or, or_false, Nat.left_eq_add, Nat.add_eq_left, Nat.add_left_cancel_iff, Nat.reduceEqDiff, false_and, and_false, reduceIte, mm_kd_pi, mm_ln_pi, mm_gl_pi, mm_gr_pi, mm_sz_pi, mm_gi_pi, mm_kd_pl, mm_ln_pl, mm_gi_pl, mm_gr_pl, mm_sz_pl, mm_gl_pl, mm_kd_pr, mm_ln_pr, mm_gi_pr, mm_gl_pr, mm_sz_pr, mm_gr_pr, mm_kd_pa, mm_ln_pa, mm_gl_pa, mm_gr_pa, mm_sz_pa, mm_gi_pa, nn, W_kd_0 H3, W_s_0 H3, W_gr_0_0 H3, W_gr_0_1 H3, W_gr_0_2 H3, W_gr_0_3 H3, W_gr_0_4 H3, W_gr_0_5 H3, W_gr_0_6 H3, W_gr_0_7 H3, W_gr_0_8 H3, W_gr_0_9 H3, W_gr_0_10 H3, W_gr_0_11 H3, c15, nI_1, ← eg4, W_kd_0 H4, W_s_0 H4, W_gr_0_0 H4, W_gr_0_1 H4, W_gr_0_2 H4, W_gr_0_3 H4, W_gr_0_4 H4, W_gr_0_5 H4, W_gr_0_6 H4, W_gr_0_7 H4, W_gr_0_8 H4, W_gr_0_9 H4, W_gr_0_10 H4, W_gr_0_11 H4, show (nI (cl i).1 = 1) = False from eq_false (fun u => ka ((nI_eq (b := 1) (by omega) (by decide)).mp u))]
        refine t_X9_runOnce_156 _ _ _ ?_
        simp only [s_iadd, s_isub, s_imul, s_iand, s_ior, s_ixor, s_ishl, s_ishr, s_iushr, s_idiv, s_irem, s_ladd, s_lsub, s_lmul, s_ldiv, s_lrem, s_ineg, s_i2l, s_l2i, s_i2c, s_lcmp, s_ic, s_lc, s_nul, s_str, s_il, s_ll, s_al, s_dup, s_dup2, s_pop, s_ifne, s_icne, s_ifeq, s_iflt, s_ifge, s_ifgt, s_ifle, s_iceq, s_iclt, s_icge, s_icgt, s_icle, s_ifnull, s_ifnonnull, s_is, s_ls, s_as, s_ii, s_gi, s_gl, s_gr, s_pi, s_pz, s_pl, s_pr, s_iald, s_zald, s_lald, s_aald, s_alen, s_iast, s_zast, s_last, s_iret, s_zret, s_lret, s_aret, s_vret, s_sw, s_aast, mm_sw, mm_ld, mm_s1, mm_s2, mm_kl, Value.category, va_rf, List.nil_append, List.cons_append, Option.toList, true_and, and_true, and_self, true_or, or_true, eq_self, not_true_eq_false, false_implies, true_implies, not_false_eq_true, mm_10, mm_01, false_or, or_false, Nat.left_eq_add, Nat.add_eq_left, Nat.add_left_cancel_iff, Nat.reduceEqDiff, false_and, and_false, reduceIte, mm_kd_pi, mm_ln_pi, mm_gl_pi, mm_gr_pi, mm_sz_pi, mm_gi_pi, mm_kd_pl, mm_ln_pl, mm_gi_pl, mm_gr_pl, mm_sz_pl, mm_gl_pl, mm_kd_pr, mm_ln_pr, mm_gi_pr, mm_gl_pr, mm_sz_pr, mm_gr_pr, mm_kd_pa, mm_ln_pa, mm_gl_pa, mm_gr_pa, mm_sz_pa, mm_gi_pa]
        refine k1 _ (dS S A (cl i).1 p q, pshN n, pshT n te (entr S (cl i).1), dn + 1, la) (Or.inr ⟨ht, Or.inr ⟨xv, yv, hv, Or.inr ⟨p, q, ok, by rw [if_neg ka]⟩⟩⟩) ?_ (Or.inr rfl) rn4
        by_cases d1 : dn + 1 ≤ 1000
        · refine Or.inl ⟨cis _ F34, by rw [eg4, mm_gi_pi, if_pos ⟨rfl, rfl⟩], by rw [eg4, mm_gi_pi, if_neg (by omega)]; exact c16, d1, b2, b3⟩
        · exact Or.inr (by show dn + 1 > 1000; omega)
  -- behind the test
  have go : ∀ g2 v3 v4 v5 v6, fx (fun c _ => c = 3) y0 g1 g2 → (∀ D, (cl i).2.2.2.2 = some D → D (oE S dn la) = some 1) → mm_V q_X9_runOnce (d + 7) (0, 0) K 49 [some (.ref 0), some (.ref 58), some (.int (nI i)), v3, v4, v5, v6] [] g2 := by
    intro g2 v3 v4 v5 v6 F2 ht
    have F2' : fx xC y0 g1 g2 := fx_mo (fun c j q => Or.inr q) (fun _ q => q) F2
    have Q2 := CI_fx F2' Q1
    have H2 := Q2.1
    have X2 : CX g2 N z I cl := CX_fx F2 (fun c j c1 c2 => by omega) X1
    have rn2 : fx xRn y0 h g2 := fx_tr rn1 (fx_mo (fun c j q => Or.inl (Or.inr q)) (fun _ q => q) F2)
    obtain ⟨y1, y2, y3, y4, y5, y6⟩ := X2.2.2 i hi
    have Wd2 : ∀ j, j < 16 → mm_gi g2 2 j = i32 (oE S dn la j) := fun j hj => by rw [F2.2.1 2 j (by omega)]; exact Wd j hj
    refine t_X9_runOnce_49 _ _ _ ?_
    by_cases z3 : (cl i).1 = 3
    · simp only [s_iadd, s_isub, s_imul, s_iand, s_ior, s_ixor, s_ishl, s_ishr, s_iushr, s_idiv, s_irem, s_ladd, s_lsub, s_lmul, s_ldiv, s_lrem, s_ineg, s_i2l, s_l2i, s_i2c, s_lcmp, s_ic, s_lc, s_nul, s_str, s_il, s_ll, s_al, s_dup, s_dup2, s_pop, s_ifne, s_icne, s_ifeq, s_iflt, s_ifge, s_ifgt, s_ifle, s_iceq, s_iclt, s_icge, s_icgt, s_icle, s_ifnull, s_ifnonnull, s_is, s_ls, s_as, s_ii, s_gi, s_gl, s_gr, s_pi, s_pz, s_pl, s_pr, s_iald, s_zald, s_lald, s_aald, s_alen, s_iast, s_zast, s_last, s_iret, s_zret, s_lret, s_aret, s_vret, s_sw, s_aast, mm_sw, mm_ld, mm_s1, mm_s2, mm_kl, Value.category, va_rf, List.nil_append, List.cons_append, Option.toList, true_and, and_true, and_self, true_or, or_true, eq_self, not_true_eq_false, false_implies, true_implies, not_false_eq_true, mm_10, mm_01, false_or, or_false, Nat.left_eq_add, Nat.add_eq_left, Nat.add_left_cancel_iff, Nat.reduceEqDiff, false_and, and_false, reduceIte, mm_kd_pi, mm_ln_pi, mm_gl_pi, mm_gr_pi, mm_sz_pi, mm_gi_pi, mm_kd_pl, mm_ln_pl, mm_gi_pl, mm_gr_pl, mm_sz_pl, mm_gl_pl, mm_kd_pr, mm_ln_pr, mm_gi_pr, mm_gl_pr, mm_sz_pr, mm_gr_pr, mm_kd_pa, mm_ln_pa, mm_gl_pa, mm_gr_pa, mm_sz_pa, mm_gi_pa, W_kd_58 H2, W_s_58 H2, W_gr_58_1 H2, W_gr_58_2 H2, W_gr_58_3 H2, W_gr_58_4 H2, W_gr_58_5 H2, W_gr_58_7 H2, W_gr_58_8 H2, W_kd_59 H2, W_s_59 H2, W_ln_59 H2, nI_clamp (show i < 2 ^ 31 by omega), vp_in_nI (show i < 12 by omega) (show 12 < 2 ^ 31 by decide), y1.1, show (nI (cl i).1 = 3) = True from eq_true (by rw [z3]; rfl)]
      exact act g2 (-1) (-1) _ _ F2 ht (Or.inl ⟨z3, rfl, rfl⟩) rfl
    · obtain ⟨D1, D2, w1, w2⟩ := wf.2 z3
      obtain ⟨p1, q1, u1, ep1, eq1, es1, eu1, P1⟩ := y2 D1 w1
      simp only [s_iadd, s_isub, s_imul, s_iand, s_ior, s_ixor, s_ishl, s_ishr, s_iushr, s_idiv, s_irem, s_ladd, s_lsub, s_lmul, s_ldiv, s_lrem, s_ineg, s_i2l, s_l2i, s_i2c, s_lcmp, s_ic, s_lc, s_nul, s_str, s_il, s_ll, s_al, s_dup, s_dup2, s_pop, s_ifne, s_icne, s_ifeq, s_iflt, s_ifge, s_ifgt, s_ifle, s_iceq, s_iclt, s_icge, s_icgt, s_icle, s_ifnull, s_ifnonnull, s_is, s_ls, s_as, s_ii, s_gi, s_gl, s_gr, s_pi, s_pz, s_pl, s_pr, s_iald, s_zald, s_lald, s_aald, s_alen, s_iast, s_zast, s_last, s_iret, s_zret, s_lret, s_aret, s_vret, s_sw, s_aast, mm_sw, mm_ld, mm_s1, mm_s2, mm_kl, Value.category, va_rf, List.nil_append, List.cons_append, Option.toList, true_and, and_true, and_self, true_or, or_true, eq_self, not_true_eq_false, false_implies, true_implies, not_false_eq_true, mm_10, mm_01, false_or, or_false, Nat.left_eq_add, Nat.add_eq_left, Nat.add_left_cancel_iff, Nat.reduceEqDiff, false_and, and_false, reduceIte, mm_kd_pi, mm_ln_pi, mm_gl_pi, mm_gr_pi, mm_sz_pi, mm_gi_pi, mm_kd_pl, mm_ln_pl, mm_gi_pl, mm_gr_pl, mm_sz_pl, mm_gl_pl, mm_kd_pr, mm_ln_pr, mm_gi_pr, mm_gl_pr, mm_sz_pr, mm_gr_pr, mm_kd_pa, mm_ln_pa, mm_gl_pa, mm_gr_pa, mm_sz_pa, mm_gi_pa, W_kd_58 H2, W_s_58 H2, W_gr_58_1 H2, W_gr_58_2 H2, W_gr_58_3 H2, W_gr_58_4 H2, W_gr_58_5 H2, W_gr_58_7 H2, W_gr_58_8 H2, W_kd_59 H2, W_s_59 H2, W_ln_59 H2, W_kd_60 H2, W_s_60 H2, W_ln_60 H2, nI_clamp (show i < 2 ^ 31 by omega), vp_in_nI (show i < 12 by omega) (show 12 < 2 ^ 31 by decide), y1.1, show (nI (cl i).1 = 3) = False from eq_false (fun u => z3 ((nI_eq (b := 3) (by have := y1.2; omega) (by decide)).mp u)), W_kd_0 H2, W_s_0 H2, W_gr_0_0 H2, W_gr_0_1 H2, W_gr_0_2 H2, W_gr_0_3 H2, W_gr_0_4 H2, W_gr_0_5 H2, W_gr_0_6 H2, W_gr_0_7 H2, W_gr_0_8 H2, W_gr_0_9 H2, W_gr_0_10 H2, W_gr_0_11 H2, ep1]
      -- the second sum
      have sec : ∀ g3 xv, fx (fun c _ => c = 3) y0 g1 g3 → (D1 (oE S dn la) = none ∧ xv = 1000000001 ∨ ∃ a, D1 (oE S dn la) = some a ∧ xB a ∧ xv = i32 a) → ∀ v5 v6, mm_V q_X9_runOnce (d + 7) (0, 0) K 81 [some (.ref 0), some (.ref 58), some (.int (nI i)), some (.int (nI (cl i).1)), some (.int (-1)), v5, v6] [.int xv] g3 := by
        intro g3 xv F3 hx v5 v6
        have F3' : fx xC y0 g1 g3 := fx_mo (fun c j q => Or.inr q) (fun _ q => q) F3
        have Q3 := CI_fx F3' Q1
        have H3 := Q3.1
        have X3 : CX g3 N z I cl := CX_fx F3 (fun c j c1 c2 => by omega) X1
        have rn3 : fx xRn y0 h g3 := fx_tr rn1 (fx_mo (fun c j q => Or.inl (Or.inr q)) (fun _ q => q) F3)
        obtain ⟨z1, z2, z3', z4, z5, z6⟩ := X3.2.2 i hi
        obtain ⟨p2, q2, u2, ep2, eq2, es2, eu2, P2⟩ := z3' D2 w2
        have Wd3 : ∀ j, j < 16 → mm_gi g3 2 j = i32 (oE S dn la j) := fun j hj => by rw [F3.2.1 2 j (by omega)]; exact Wd j hj
        refine t_X9_runOnce_81 _ _ _ ?_
        simp only [s_iadd, s_isub, s_imul, s_iand, s_ior, s_ixor, s_ishl, s_ishr, s_iushr, s_idiv, s_irem, s_ladd, s_lsub, s_lmul, s_ldiv, s_lrem, s_ineg, s_i2l, s_l2i, s_i2c, s_lcmp, s_ic, s_lc, s_nul, s_str, s_il, s_ll, s_al, s_dup, s_dup2, s_pop, s_ifne, s_icne, s_ifeq, s_iflt, s_ifge, s_ifgt, s_ifle, s_iceq, s_iclt, s_icge, s_icgt, s_icle, s_ifnull, s_ifnonnull, s_is, s_ls, s_as, s_ii, s_gi, s_gl, s_gr, s_pi, s_pz, s_pl, s_pr, s_iald, s_zald, s_lald, s_aald, s_alen, s_iast, s_zast, s_last, s_iret, s_zret, s_lret, s_aret, s_vret, s_sw, s_aast, mm_sw, mm_ld, mm_s1, mm_s2, mm_kl, Value.category, va_rf, List.nil_append, List.cons_append, Option.toList, true_and, and_true, and_self, true_or, or_true, eq_self, not_true_eq_false, false_implies, true_implies, not_false_eq_true, mm_10, mm_01, false_or, or_false, Nat.left_eq_add, Nat.add_eq_left, Nat.add_left_cancel_iff, Nat.reduceEqDiff, false_and, and_false, reduceIte, mm_kd_pi, mm_ln_pi, mm_gl_pi, mm_gr_pi, mm_sz_pi, mm_gi_pi, mm_kd_pl, mm_ln_pl, mm_gi_pl, mm_gr_pl, mm_sz_pl, mm_gl_pl, mm_kd_pr, mm_ln_pr, mm_gi_pr, mm_gl_pr, mm_sz_pr, mm_gr_pr, mm_kd_pa, mm_ln_pa, mm_gl_pa, mm_gr_pa, mm_sz_pa, mm_gi_pa, W_kd_0 H3, W_s_0 H3, W_gr_0_0 H3, W_gr_0_1 H3, W_gr_0_2 H3, W_gr_0_3 H3, W_gr_0_4 H3, W_gr_0_5 H3, W_gr_0_6 H3, W_gr_0_7 H3, W_gr_0_8 H3, W_gr_0_9 H3, W_gr_0_10 H3, W_gr_0_11 H3, W_kd_58 H3, W_s_58 H3, W_gr_58_1 H3, W_gr_58_2 H3, W_gr_58_3 H3, W_gr_58_4 H3, W_gr_58_5 H3, W_gr_58_7 H3, W_gr_58_8 H3, W_kd_61 H3, W_s_61 H3, W_ln_61 H3, nI_clamp (show i < 2 ^ 31 by omega), vp_in_nI (show i < 12 by omega) (show 12 < 2 ^ 31 by decide), ep2]
        have bk : ∀ a, xB a → (i32 a = 1000000001) = False := fun a ha => eq_false (fun u => by
          have := congrArg Int32.toInt u
          rw [i32_toInt ha, show (1000000001 : Int32).toInt = 1000000001 by decide] at this
          unfold xB at ha
          omega)
        have fail : ∀ g4 v4 v5 v6, fx (fun c _ => c = 3) y0 g3 g4 → (D1 (oE S dn la) = none ∨ D2 (oE S dn la) = none) → mm_V q_X9_runOnce (d + 7) (0, 0) K 115 [some (.ref 0), some (.ref 58), some (.int (nI i)), some (.int (nI (cl i).1)), v4, v5, v6] [] g4 := by
          intro g4 v4 v5 v6 F4 hn
          refine t_X9_runOnce_115 _ _ _ ?_
          simp only [s_iadd, s_isub, s_imul, s_iand, s_ior, s_ixor, s_ishl, s_ishr, s_iushr, s_idiv, s_irem, s_ladd, s_lsub, s_lmul, s_ldiv, s_lrem, s_ineg, s_i2l, s_l2i, s_i2c, s_lcmp, s_ic, s_lc, s_nul, s_str, s_il, s_ll, s_al, s_dup, s_dup2, s_pop, s_ifne, s_icne, s_ifeq, s_iflt, s_ifge, s_ifgt, s_ifle, s_iceq, s_iclt, s_icge, s_icgt, s_icle, s_ifnull, s_ifnonnull, s_is, s_ls, s_as, s_ii, s_gi, s_gl, s_gr, s_pi, s_pz, s_pl, s_pr, s_iald, s_zald, s_lald, s_aald, s_alen, s_iast, s_zast, s_last, s_iret, s_zret, s_lret, s_aret, s_vret, s_sw, s_aast, mm_sw, mm_ld, mm_s1, mm_s2, mm_kl, Value.category, va_rf, List.nil_append, List.cons_append, Option.toList, true_and, and_true, and_self, true_or, or_true, eq_self, not_true_eq_false, false_implies, true_implies, not_false_eq_true, mm_10, mm_01, false_or, or_false, Nat.left_eq_add, Nat.add_eq_left, Nat.add_left_cancel_iff, Nat.reduceEqDiff, false_and, and_false, reduceIte, mm_kd_pi, mm_ln_pi, mm_gl_pi, mm_gr_pi, mm_sz_pi, mm_gi_pi, mm_kd_pl, mm_ln_pl, mm_gi_pl, mm_gr_pl, mm_sz_pl, mm_gl_pl, mm_kd_pr, mm_ln_pr, mm_gi_pr, mm_gl_pr, mm_sz_pr, mm_gr_pr, mm_kd_pa, mm_ln_pa, mm_gl_pa, mm_gr_pa, mm_sz_pa, mm_gi_pa]
          exact k0 g4 (Or.inr ⟨ht, Or.inl ⟨z3, ⟨D1, D2, w1, w2, hn⟩, rfl⟩⟩) (fx_tr rn3 (fx_mo (fun c j q => Or.inl (Or.inr q)) (fun _ q => q) F4))
        refine c_X9_runOnce_94 (bb := (0, 0)) (b := (0, 0)) (Nat.le_of_ble_eq_true rfl) ⟨rfl, rfl⟩ (W_kd_1 H3) (W_s_1 H3) (sp_reckon (d := d + 5) (nw := 16) H3 X3.1 okE Wd3 (by decide) P2 eu2 eq2 es2 (fun g4 b F4 e4 xb => ?_) (fun g4 F4 e4 => ?_)) <;> refine t_X9_runOnce_97 _ _ _ ?_
        · rcases hx with ⟨hn, rfl⟩ | ⟨a, ea, xa, rfl⟩
          · simp only [s_iadd, s_isub, s_imul, s_iand, s_ior, s_ixor, s_ishl, s_ishr, s_iushr, s_idiv, s_irem, s_ladd, s_lsub, s_lmul, s_ldiv, s_lrem, s_ineg, s_i2l, s_l2i, s_i2c, s_lcmp, s_ic, s_lc, s_nul, s_str, s_il, s_ll, s_al, s_dup, s_dup2, s_pop, s_ifne, s_icne, s_ifeq, s_iflt, s_ifge, s_ifgt, s_ifle, s_iceq, s_iclt, s_icge, s_icgt, s_icle, s_ifnull, s_ifnonnull, s_is, s_ls, s_as, s_ii, s_gi, s_gl, s_gr, s_pi, s_pz, s_pl, s_pr, s_iald, s_zald, s_lald, s_aald, s_alen, s_iast, s_zast, s_last, s_iret, s_zret, s_lret, s_aret, s_vret, s_sw, s_aast, mm_sw, mm_ld, mm_s1, mm_s2, mm_kl, Value.category, va_rf, List.nil_append, List.cons_append, Option.toList, true_and, and_true, and_self, true_or, or_true, eq_self, not_true_eq_false, false_implies, true_implies, not_false_eq_true, mm_10, mm_01, false_or, or_false, Nat.left_eq_add, Nat.add_eq_left, Nat.add_left_cancel_iff, Nat.reduceEqDiff, false_and, and_false, reduceIte, mm_kd_pi, mm_ln_pi, mm_gl_pi, mm_gr_pi, mm_sz_pi, mm_gi_pi, mm_kd_pl, mm_ln_pl, mm_gi_pl, mm_gr_pl, mm_sz_pl, mm_gl_pl, mm_kd_pr, mm_ln_pr, mm_gi_pr, mm_gl_pr, mm_sz_pr, mm_gr_pr, mm_kd_pa, mm_ln_pa, mm_gl_pa, mm_gr_pa, mm_sz_pa, mm_gi_pa]
            exact fail g4 _ _ _ F4 (Or.inl hn)
          · simp only [s_iadd, s_isub, s_imul, s_iand, s_ior, s_ixor, s_ishl, s_ishr, s_iushr, s_idiv, s_irem, s_ladd, s_lsub, s_lmul, s_ldiv, s_lrem, s_ineg, s_i2l, s_l2i, s_i2c, s_lcmp, s_ic, s_lc, s_nul, s_str, s_il, s_ll, s_al, s_dup, s_dup2, s_pop, s_ifne, s_icne, s_ifeq, s_iflt, s_ifge, s_ifgt, s_ifle, s_iceq, s_iclt, s_icge, s_icgt, s_icle, s_ifnull, s_ifnonnull, s_is, s_ls, s_as, s_ii, s_gi, s_gl, s_gr, s_pi, s_pz, s_pl, s_pr, s_iald, s_zald, s_lald, s_aald, s_alen, s_iast, s_zast, s_last, s_iret, s_zret, s_lret, s_aret, s_vret, s_sw, s_aast, mm_sw, mm_ld, mm_s1, mm_s2, mm_kl, Value.category, va_rf, List.nil_append, List.cons_append, Option.toList, true_and, and_true, and_self, true_or, or_true, eq_self, not_true_eq_false, false_implies, true_implies, not_false_eq_true, mm_10, mm_01, false_or, or_false, Nat.left_eq_add, Nat.add_eq_left, Nat.add_left_cancel_iff, Nat.reduceEqDiff, false_and, and_false, reduceIte, mm_kd_pi, mm_ln_pi, mm_gl_pi, mm_gr_pi, mm_sz_pi, mm_gi_pi, mm_kd_pl, mm_ln_pl, mm_gi_pl, mm_gr_pl, mm_sz_pl, mm_gl_pl, mm_kd_pr, mm_ln_pr, mm_gi_pr, mm_gl_pr, mm_sz_pr, mm_gr_pr, mm_kd_pa, mm_ln_pa, mm_gl_pa, mm_gr_pa, mm_sz_pa, mm_gi_pa, bk a xa, bk b xb]
            exact act g4 (i32 a) (i32 b) _ _ (fx_tr F3 F4) ht (Or.inr ⟨z3, D1, D2, a, b, w1, w2, ea, e4, rfl, rfl⟩) rfl
        · rcases hx with ⟨hn, rfl⟩ | ⟨a, ea, xa, rfl⟩
          · simp only [s_iadd, s_isub, s_imul, s_iand, s_ior, s_ixor, s_ishl, s_ishr, s_iushr, s_idiv, s_irem, s_ladd, s_lsub, s_lmul, s_ldiv, s_lrem, s_ineg, s_i2l, s_l2i, s_i2c, s_lcmp, s_ic, s_lc, s_nul, s_str, s_il, s_ll, s_al, s_dup, s_dup2, s_pop, s_ifne, s_icne, s_ifeq, s_iflt, s_ifge, s_ifgt, s_ifle, s_iceq, s_iclt, s_icge, s_icgt, s_icle, s_ifnull, s_ifnonnull, s_is, s_ls, s_as, s_ii, s_gi, s_gl, s_gr, s_pi, s_pz, s_pl, s_pr, s_iald, s_zald, s_lald, s_aald, s_alen, s_iast, s_zast, s_last, s_iret, s_zret, s_lret, s_aret, s_vret, s_sw, s_aast, mm_sw, mm_ld, mm_s1, mm_s2, mm_kl, Value.category, va_rf, List.nil_append, List.cons_append, Option.toList, true_and, and_true, and_self, true_or, or_true, eq_self, not_true_eq_false, false_implies, true_implies, not_false_eq_true, mm_10, mm_01, false_or, or_false, Nat.left_eq_add, Nat.add_eq_left, Nat.add_left_cancel_iff, Nat.reduceEqDiff, false_and, and_false, reduceIte, mm_kd_pi, mm_ln_pi, mm_gl_pi, mm_gr_pi, mm_sz_pi, mm_gi_pi, mm_kd_pl, mm_ln_pl, mm_gi_pl, mm_gr_pl, mm_sz_pl, mm_gl_pl, mm_kd_pr, mm_ln_pr, mm_gi_pr, mm_gl_pr, mm_sz_pr, mm_gr_pr, mm_kd_pa, mm_ln_pa, mm_gl_pa, mm_gr_pa, mm_sz_pa, mm_gi_pa]
            exact fail g4 _ _ _ F4 (Or.inl hn)
          · simp only [s_iadd, s_isub, s_imul, s_iand, s_ior, s_ixor, s_ishl, s_ishr, s_iushr, s_idiv, s_irem, s_ladd, s_lsub, s_lmul, s_ldiv, s_lrem, s_ineg, s_i2l, s_l2i, s_i2c, s_lcmp, s_ic, s_lc, s_nul, s_str, s_il, s_ll, s_al, s_dup, s_dup2, s_pop, s_ifne, s_icne, s_ifeq, s_iflt, s_ifge, s_ifgt, s_ifle, s_iceq, s_iclt, s_icge, s_icgt, s_icle, s_ifnull, s_ifnonnull, s_is, s_ls, s_as, s_ii, s_gi, s_gl, s_gr, s_pi, s_pz, s_pl, s_pr, s_iald, s_zald, s_lald, s_aald, s_alen, s_iast, s_zast, s_last, s_iret, s_zret, s_lret, s_aret, s_vret, s_sw, s_aast, mm_sw, mm_ld, mm_s1, mm_s2, mm_kl, Value.category, va_rf, List.nil_append, List.cons_append, Option.toList, true_and, and_true, and_self, true_or, or_true, eq_self, not_true_eq_false, false_implies, true_implies, not_false_eq_true, mm_10, mm_01, false_or, or_false, Nat.left_eq_add, Nat.add_eq_left, Nat.add_left_cancel_iff, Nat.reduceEqDiff, false_and, and_false, reduceIte, mm_kd_pi, mm_ln_pi, mm_gl_pi, mm_gr_pi, mm_sz_pi, mm_gi_pi, mm_kd_pl, mm_ln_pl, mm_gi_pl, mm_gr_pl, mm_sz_pl, mm_gl_pl, mm_kd_pr, mm_ln_pr, mm_gi_pr, mm_gl_pr, mm_sz_pr, mm_gr_pr, mm_kd_pa, mm_ln_pa, mm_gl_pa, mm_gr_pa, mm_sz_pa, mm_gi_pa, bk a xa]
            exact fail g4 _ _ _ F4 (Or.inr e4)
      refine c_X9_runOnce_78 (bb := (0, 0)) (b := (0, 0)) (Nat.le_of_ble_eq_true rfl) ⟨rfl, rfl⟩ (W_kd_1 H2) (W_s_1 H2) (sp_reckon (d := d + 5) (nw := 16) H2 X2.1 okE Wd2 (by decide) P1 eu1 eq1 es1 (fun g3 a F3 e3 xa => ?_) (fun g3 F3 e3 => ?_))
      · exact sec g3 (i32 a) (fx_tr F2 F3) (Or.inr ⟨a, e3, xa, rfl⟩) _ _
      · exact sec g3 1000000001 (fx_tr F2 F3) (Or.inl ⟨e3, rfl⟩) _ _
  refine t_X9_runOnce_19 _ _ _ ?_
  cases eT : (cl i).2.2.2.2 with
  | none =>
    simp only [s_iadd, s_isub, s_imul, s_iand, s_ior, s_ixor, s_ishl, s_ishr, s_iushr, s_idiv, s_irem, s_ladd, s_lsub, s_lmul, s_ldiv, s_lrem, s_ineg, s_i2l, s_l2i, s_i2c, s_lcmp, s_ic, s_lc, s_nul, s_str, s_il, s_ll, s_al, s_dup, s_dup2, s_pop, s_ifne, s_icne, s_ifeq, s_iflt, s_ifge, s_ifgt, s_ifle, s_iceq, s_iclt, s_icge, s_icgt, s_icle, s_ifnull, s_ifnonnull, s_is, s_ls, s_as, s_ii, s_gi, s_gl, s_gr, s_pi, s_pz, s_pl, s_pr, s_iald, s_zald, s_lald, s_aald, s_alen, s_iast, s_zast, s_last, s_iret, s_zret, s_lret, s_aret, s_vret, s_sw, s_aast, mm_sw, mm_ld, mm_s1, mm_s2, mm_kl, Value.category, va_rf, List.nil_append, List.cons_append, Option.toList, true_and, and_true, and_self, true_or, or_true, eq_self, not_true_eq_false, false_implies, true_implies, not_false_eq_true, mm_10, mm_01, false_or, or_false, Nat.left_eq_add, Nat.add_eq_left, Nat.add_left_cancel_iff, Nat.reduceEqDiff, false_and, and_false, reduceIte, mm_kd_pi, mm_ln_pi, mm_gl_pi, mm_gr_pi, mm_sz_pi, mm_gi_pi, mm_kd_pl, mm_ln_pl, mm_gi_pl, mm_gr_pl, mm_sz_pl, mm_gl_pl, mm_kd_pr, mm_ln_pr, mm_gi_pr, mm_gl_pr, mm_sz_pr, mm_gr_pr, mm_kd_pa, mm_ln_pa, mm_gl_pa, mm_gr_pa, mm_sz_pa, mm_gi_pa, W_kd_58 H1, W_s_58 H1, W_gr_58_1 H1, W_gr_58_2 H1, W_gr_58_3 H1, W_gr_58_4 H1, W_gr_58_5 H1, W_gr_58_7 H1, W_gr_58_8 H1, W_kd_63 H1, W_s_63 H1, W_ln_63 H1, nI_clamp (show i < 2 ^ 31 by omega), vp_in_nI (show i < 12 by omega) (show 12 < 2 ^ 31 by decide), x5 eT]
    exact go g1 _ _ _ _ fx_rf (fun D q => by rw [eT] at q; cases q)
  | some DT =>
    obtain ⟨⟨p0, q0, u0, ep0, eq0, es0, eu0, P0⟩, xt0⟩ := x6 DT eT
    have p0q := P0.1.1
    have z4 := X1.1.2.2.2.1
    have z5 := X1.1.2.2.2.2.1
    simp only [s_iadd, s_isub, s_imul, s_iand, s_ior, s_ixor, s_ishl, s_ishr, s_iushr, s_idiv, s_irem, s_ladd, s_lsub, s_lmul, s_ldiv, s_lrem, s_ineg, s_i2l, s_l2i, s_i2c, s_lcmp, s_ic, s_lc, s_nul, s_str, s_il, s_ll, s_al, s_dup, s_dup2, s_pop, s_ifne, s_icne, s_ifeq, s_iflt, s_ifge, s_ifgt, s_ifle, s_iceq, s_iclt, s_icge, s_icgt, s_icle, s_ifnull, s_ifnonnull, s_is, s_ls, s_as, s_ii, s_gi, s_gl, s_gr, s_pi, s_pz, s_pl, s_pr, s_iald, s_zald, s_lald, s_aald, s_alen, s_iast, s_zast, s_last, s_iret, s_zret, s_lret, s_aret, s_vret, s_sw, s_aast, mm_sw, mm_ld, mm_s1, mm_s2, mm_kl, Value.category, va_rf, List.nil_append, List.cons_append, Option.toList, true_and, and_true, and_self, true_or, or_true, eq_self, not_true_eq_false, false_implies, true_implies, not_false_eq_true, mm_10, mm_01, false_or, or_false, Nat.left_eq_add, Nat.add_eq_left, Nat.add_left_cancel_iff, Nat.reduceEqDiff, false_and, and_false, reduceIte, mm_kd_pi, mm_ln_pi, mm_gl_pi, mm_gr_pi, mm_sz_pi, mm_gi_pi, mm_kd_pl, mm_ln_pl, mm_gi_pl, mm_gr_pl, mm_sz_pl, mm_gl_pl, mm_kd_pr, mm_ln_pr, mm_gi_pr, mm_gl_pr, mm_sz_pr, mm_gr_pr, mm_kd_pa, mm_ln_pa, mm_gl_pa, mm_gr_pa, mm_sz_pa, mm_gi_pa, W_kd_58 H1, W_s_58 H1, W_gr_58_1 H1, W_gr_58_2 H1, W_gr_58_3 H1, W_gr_58_4 H1, W_gr_58_5 H1, W_gr_58_7 H1, W_gr_58_8 H1, W_kd_63 H1, W_s_63 H1, W_ln_63 H1, nI_clamp (show i < 2 ^ 31 by omega), vp_in_nI (show i < 12 by omega) (show 12 < 2 ^ 31 by decide), ep0, eq_false (nI_m1 (show p0 < 2 ^ 31 by omega)), W_kd_0 H1, W_s_0 H1, W_gr_0_0 H1, W_gr_0_1 H1, W_gr_0_2 H1, W_gr_0_3 H1, W_gr_0_4 H1, W_gr_0_5 H1, W_gr_0_6 H1, W_gr_0_7 H1, W_gr_0_8 H1, W_gr_0_9 H1, W_gr_0_10 H1, W_gr_0_11 H1]
    refine c_X9_runOnce_40 (bb := (0, 0)) (b := (0, 0)) (Nat.le_of_ble_eq_true rfl) ⟨rfl, rfl⟩ (W_kd_1 H1) (W_s_1 H1) (sp_reckon (d := d + 5) (nw := 16) H1 X1.1 okE Wd (by decide) P0 eu0 eq0 es0 (fun g2 a F2 e2 xa => ?_) (fun g2 F2 e2 => ?_)) <;> refine t_X9_runOnce_43 _ _ _ ?_
    · rcases xt0 _ okE a e2 with ra | ra
      · subst ra
        simp only [s_iadd, s_isub, s_imul, s_iand, s_ior, s_ixor, s_ishl, s_ishr, s_iushr, s_idiv, s_irem, s_ladd, s_lsub, s_lmul, s_ldiv, s_lrem, s_ineg, s_i2l, s_l2i, s_i2c, s_lcmp, s_ic, s_lc, s_nul, s_str, s_il, s_ll, s_al, s_dup, s_dup2, s_pop, s_ifne, s_icne, s_ifeq, s_iflt, s_ifge, s_ifgt, s_ifle, s_iceq, s_iclt, s_icge, s_icgt, s_icle, s_ifnull, s_ifnonnull, s_is, s_ls, s_as, s_ii, s_gi, s_gl, s_gr, s_pi, s_pz, s_pl, s_pr, s_iald, s_zald, s_lald, s_aald, s_alen, s_iast, s_zast, s_last, s_iret, s_zret, s_lret, s_aret, s_vret, s_sw, s_aast, mm_sw, mm_ld, mm_s1, mm_s2, mm_kl, Value.category, va_rf, List.nil_append, List.cons_append, Option.toList, true_and, and_true, and_self, true_or, or_true, eq_self, not_true_eq_false, false_implies, true_implies, not_false_eq_true, mm_10, mm_01, false_or, or_false, Nat.left_eq_add, Nat.add_eq_left, Nat.add_left_cancel_iff, Nat.reduceEqDiff, false_and, and_false, reduceIte, mm_kd_pi, mm_ln_pi, mm_gl_pi, mm_gr_pi, mm_sz_pi, mm_gi_pi, mm_kd_pl, mm_ln_pl, mm_gi_pl, mm_gr_pl, mm_sz_pl, mm_gl_pl, mm_kd_pr, mm_ln_pr, mm_gi_pr, mm_gl_pr, mm_sz_pr, mm_gr_pr, mm_kd_pa, mm_ln_pa, mm_gl_pa, mm_gr_pa, mm_sz_pa, mm_gi_pa, show (i32 0 = 1) = False by decide]
        refine k1 g2 (S, n, te, dn, la) (Or.inl ⟨⟨DT, eT, by show DT (oE S dn la) ≠ some 1; rw [e2]; decide⟩, rfl⟩) (Or.inl ⟨?_, ?_, ?_, b1, b2, b3⟩) (Or.inl rfl) (fx_tr rn1 (fx_mo (fun c j q => Or.inl (Or.inr q)) (fun _ q => q) F2))
        · exact CI_fx (fx_mo (fun c j q => Or.inr q) (fun _ q => q) F2) Q1
        · rw [F2.2.1 0 15 (by unfold xS; omega), F1.2.1 0 15 (by unfold xC; omega)]; exact e15
        · rw [F2.2.1 0 16 (by unfold xS; omega), F1.2.1 0 16 (by unfold xC; omega)]; exact e16
      · subst ra
        simp only [s_iadd, s_isub, s_imul, s_iand, s_ior, s_ixor, s_ishl, s_ishr, s_iushr, s_idiv, s_irem, s_ladd, s_lsub, s_lmul, s_ldiv, s_lrem, s_ineg, s_i2l, s_l2i, s_i2c, s_lcmp, s_ic, s_lc, s_nul, s_str, s_il, s_ll, s_al, s_dup, s_dup2, s_pop, s_ifne, s_icne, s_ifeq, s_iflt, s_ifge, s_ifgt, s_ifle, s_iceq, s_iclt, s_icge, s_icgt, s_icle, s_ifnull, s_ifnonnull, s_is, s_ls, s_as, s_ii, s_gi, s_gl, s_gr, s_pi, s_pz, s_pl, s_pr, s_iald, s_zald, s_lald, s_aald, s_alen, s_iast, s_zast, s_last, s_iret, s_zret, s_lret, s_aret, s_vret, s_sw, s_aast, mm_sw, mm_ld, mm_s1, mm_s2, mm_kl, Value.category, va_rf, List.nil_append, List.cons_append, Option.toList, true_and, and_true, and_self, true_or, or_true, eq_self, not_true_eq_false, false_implies, true_implies, not_false_eq_true, mm_10, mm_01, false_or, or_false, Nat.left_eq_add, Nat.add_eq_left, Nat.add_left_cancel_iff, Nat.reduceEqDiff, false_and, and_false, reduceIte, mm_kd_pi, mm_ln_pi, mm_gl_pi, mm_gr_pi, mm_sz_pi, mm_gi_pi, mm_kd_pl, mm_ln_pl, mm_gi_pl, mm_gr_pl, mm_sz_pl, mm_gl_pl, mm_kd_pr, mm_ln_pr, mm_gi_pr, mm_gl_pr, mm_sz_pr, mm_gr_pr, mm_kd_pa, mm_ln_pa, mm_gl_pa, mm_gr_pa, mm_sz_pa, mm_gi_pa, show (i32 1 = 1) = True by decide]
        exact go g2 _ _ _ _ F2 (fun D q => by rw [eT] at q; cases q; exact e2)
    · simp only [s_iadd, s_isub, s_imul, s_iand, s_ior, s_ixor, s_ishl, s_ishr, s_iushr, s_idiv, s_irem, s_ladd, s_lsub, s_lmul, s_ldiv, s_lrem, s_ineg, s_i2l, s_l2i, s_i2c, s_lcmp, s_ic, s_lc, s_nul, s_str, s_il, s_ll, s_al, s_dup, s_dup2, s_pop, s_ifne, s_icne, s_ifeq, s_iflt, s_ifge, s_ifgt, s_ifle, s_iceq, s_iclt, s_icge, s_icgt, s_icle, s_ifnull, s_ifnonnull, s_is, s_ls, s_as, s_ii, s_gi, s_gl, s_gr, s_pi, s_pz, s_pl, s_pr, s_iald, s_zald, s_lald, s_aald, s_alen, s_iast, s_zast, s_last, s_iret, s_zret, s_lret, s_aret, s_vret, s_sw, s_aast, mm_sw, mm_ld, mm_s1, mm_s2, mm_kl, Value.category, va_rf, List.nil_append, List.cons_append, Option.toList, true_and, and_true, and_self, true_or, or_true, eq_self, not_true_eq_false, false_implies, true_implies, not_false_eq_true, mm_10, mm_01, false_or, or_false, Nat.left_eq_add, Nat.add_eq_left, Nat.add_left_cancel_iff, Nat.reduceEqDiff, false_and, and_false, reduceIte, mm_kd_pi, mm_ln_pi, mm_gl_pi, mm_gr_pi, mm_sz_pi, mm_gi_pi, mm_kd_pl, mm_ln_pl, mm_gi_pl, mm_gr_pl, mm_sz_pl, mm_gl_pl, mm_kd_pr, mm_ln_pr, mm_gi_pr, mm_gl_pr, mm_sz_pr, mm_gr_pr, mm_kd_pa, mm_ln_pa, mm_gl_pa, mm_gr_pa, mm_sz_pa, mm_gi_pa, show ((1000000001 : Int32) = 1) = False by decide]
      refine k1 g2 (S, n, te, dn, la) (Or.inl ⟨⟨DT, eT, by show DT (oE S dn la) ≠ some 1; rw [e2]; decide⟩, rfl⟩) (Or.inl ⟨?_, ?_, ?_, b1, b2, b3⟩) (Or.inl rfl) (fx_tr rn1 (fx_mo (fun c j q => Or.inl (Or.inr q)) (fun _ q => q) F2))
      · exact CI_fx (fx_mo (fun c j q => Or.inr q) (fun _ q => q) F2) Q1
      · rw [F2.2.1 0 15 (by unfold xS; omega), F1.2.1 0 15 (by unfold xC; omega)]; exact e15
      · rw [F2.2.1 0 16 (by unfold xS; omega), F1.2.1 0 16 (by unfold xC; omega)]; exact e16
end
