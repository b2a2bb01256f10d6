/-! matched -/
def wo (S : HSt) (A : Option lwD) (c l : Nat) : Nat := aW A (lE S c (some l) (-1) (S 1 c) (S 9 0)) (pop (S 5 l &&& S 1 c))
theorem wo_le {S : HSt} {A : Option lwD} {c l : Nat} : wo S A c l ≤ 99 := aW_le (by have := pop_le (S 5 l &&& S 1 c); omega)
noncomputable def gI (S : HSt) (A : Option lwD) (c l : Nat) : Int32 := pif (can S A l c) (nI (wo S A c l)) (-1)
/-- what child c may take -/
def pm (S : HSt) (A : Option lwD) (c tk l : Nat) : Prop := can S A l c ∧ tk / 2 ^ l % 2 = 0
def mx2 (a b : Nat) : Nat := if a < b then b else a
noncomputable def mxF (S : HSt) (A : Option lwD) (c : Nat) (f : Nat → Nat) (tk : Nat) : Nat → Nat
  | 0 => f tk
  | l + 1 => pif (pm S A c tk l) (mx2 (mxF S A c f tk l) (wo S A c l + f (tk ||| 2 ^ l))) (mxF S A c f tk l)
/-- the most, with r children left -/
noncomputable def bM (S : HSt) (A : Option lwD) : Nat → Nat → Nat
  | 0 => fun _ => 0
  | r + 1 => fun tk => mxF S A (S 0 1 - 1 - r) (bM S A r) tk (S 0 0)
theorem mxF_le {S : HSt} {A : Option lwD} {c tk m : Nat} {f : Nat → Nat} (hf : ∀ t, f t ≤ m) : ∀ l, mxF S A c f tk l ≤ m + 99
  | 0 => by have := hf tk; rw [mxF]; omega
  | l + 1 => by
    have := mxF_le (S := S) (A := A) (c := c) (tk := tk) hf l
    have w := wo_le (S := S) (A := A) (c := c) (l := l)
    have q := hf (tk ||| 2 ^ l)
    by_cases z : pm S A c tk l
    · rw [mxF, pif_t z, mx2]; split <;> omega
    · rw [mxF, pif_f z]; exact this
theorem bM_le {S : HSt} {A : Option lwD} : ∀ r tk, bM S A r tk ≤ 99 * r
  | 0, _ => Nat.le_refl 0
  | r + 1, tk => by
    have := mxF_le (S := S) (A := A) (c := S 0 1 - 1 - r) (tk := tk) (fun t => bM_le (S := S) (A := A) r t) (S 0 0)
    rw [bM]
    omega
/-- the first that makes the most -/
def pf (S : HSt) (A : Option lwD) (c tk l : Nat) : Prop := pm S A c tk l ∧ wo S A c l + bM S A (S 0 1 - 1 - c) (tk ||| 2 ^ l) = bM S A (S 0 1 - c) tk
noncomputable def fsF (p : Nat → Prop) : Nat → Nat → Nat
  | 0, _ => 100
  | n + 1, i => pif (p i) i (fsF p n (i + 1))
theorem fsF_or (p : Nat → Prop) : ∀ n i, fsF p n i = 100 ∨ (i ≤ fsF p n i ∧ fsF p n i < i + n ∧ p (fsF p n i))
  | 0, i => Or.inl rfl
  | n + 1, i => by
    by_cases z : p i
    · rw [fsF, pif_t z]; exact Or.inr ⟨by omega, by omega, z⟩
    · rw [fsF, pif_f z]
      rcases fsF_or p n (i + 1) with y | y
      · exact Or.inl y
      · exact Or.inr ⟨by omega, by omega, y.2.2⟩
noncomputable def frs (S : HSt) (A : Option lwD) (c tk : Nat) : Nat := fsF (pf S A c tk) (S 0 0) 0
def tk1 (tk f : Nat) : Nat := if f = 100 then tk else tk ||| 2 ^ f
noncomputable def tkN (S : HSt) (A : Option lwD) : Nat → Nat
  | 0 => 0
  | c + 1 => tk1 (tkN S A c) (frs S A c (tkN S A c))
theorem pop_or1 : ∀ j, j < 256 → ∀ t, t < 8 → pop (j ||| 2 ^ t) ≤ pop j + 1 := by decide +kernel
theorem or_pw {a L l : Nat} (ha : a < 2 ^ L) (hl : l < L) : a ||| 2 ^ l < 2 ^ L := Nat.or_lt_two_pow ha (Nat.pow_lt_pow_right (by decide) hl)
theorem frs_or {S : HSt} {A : Option lwD} {c tk : Nat} : frs S A c tk = 100 ∨ frs S A c tk < S 0 0 := by
  rcases fsF_or (pf S A c tk) (S 0 0) 0 with y | y
  · exact Or.inl y
  · exact Or.inr (by unfold frs; omega)
theorem tkN_ok {S : HSt} {A : Option lwD} (h8 : S 0 0 ≤ 8) : ∀ c, tkN S A c < 2 ^ S 0 0 ∧ pop (tkN S A c) ≤ c
  | 0 => ⟨Nat.two_pow_pos _, by rw [tkN]; decide⟩
  | c + 1 => by
    obtain ⟨h1, h2⟩ := tkN_ok (A := A) h8 c
    have p256 : 2 ^ S 0 0 ≤ 256 := Nat.pow_le_pow_right (n := 2) (by decide) h8
    rw [tkN, tk1]
    split
    · exact ⟨h1, by omega⟩
    · rename_i z
      rcases frs_or (S := S) (A := A) (c := c) (tk := tkN S A c) with y | y
      · exact absurd y z
      · have := pop_or1 (tkN S A c) (by omega) (frs S A c (tkN S A c)) (by omega)
        exact ⟨or_pw h1 y, by omega⟩
def xmt (c j : Nat) : Prop := xC c j ∨ c = 74 ∨ c = 75 ∨ c = 76
section
variable {d : Nat} {h : mmH} {S : HSt} {K : Option Value → mmH → Prop} {A : Option lwD} {vt : Value}
theorem CLW_x {g : mmH} {t : Nat} {L : lwD} {X : Nat → Nat → Prop} {Y : Nat → Prop} (hX : ∀ c j, 122 ≤ c → ¬ X c j) (ht : 122 ≤ t) (F : fx X Y h g) (H : CLW h t L) : CLW g t L :=
  CLW_cg (fun c hc _ _ => ⟨by rw [F.1.1], by rw [F.1.2.1], fun j => F.2.1 c j (hX c j (by omega)), fun j => by rw [F.1.2.2.1]⟩) (by rw [F.1.2.2.2]; exact Nat.le_refl _) H
theorem LV_x {g : mmH} {x : Value} {X : Nat → Nat → Prop} {Y : Nat → Prop} (hX : ∀ c j, 122 ≤ c → ¬ X c j) (F : fx X Y h g) (H : LV h A x) : LV g A x := by
  rcases H with z | ⟨t, L, z1, z2, z3, z4⟩
  · exact Or.inl z
  · exact Or.inr ⟨t, L, z1, z2, z3, CLW_x hX z3 F z4⟩
theorem xmt_hi : ∀ c j, 122 ≤ c → ¬ xmt c j := fun c j hc => by unfold xmt xC; omega
theorem HC_mt {g : mmH} (F : fx xmt y0 h g) (hc : HC h 4 S) : HC g 4 S := HC_cg (fun c j c1 c2 => F.2.1 c j (by unfold xmt xC; omega)) hc
theorem xC_mt {g g' : mmH} (F : fx xmt y0 h g) (F' : fx xC y0 g g') : fx xmt y0 h g' := fx_tr F (fx_mo (fun c j z => Or.inl z) (fun c z => z) F')
theorem dE_1 {c l : Nat} (hC : S 0 1 ≤ 6) (hL : S 0 0 ≤ 8) (hcc : c < S 0 1) (hl : l < S 0 0) : dE S A 1 (nI l) (nI c) = pif (can S A l c) 0 (-3) := by
  rw [dE, pif_t ⟨vp_in_nI hl (by omega), vp_in_nI hcc (by omega)⟩, nI_clamp (by omega), nI_clamp (by omega)]
/-- weigh -/
theorem lw_in {c : Nat} (H : WS h) (v : HV S) (hc : HC h 4 S) (hA : CAL h 4 S A) (hx : LV h A vt) (xr : vt = .null ∨ ∃ t : Nat, vt = .ref t) (hcc : c < S 0 1) (k : ∀ g v3 v4, fx xmt y0 h g → (∀ c' l, c' ≤ c → l < S 0 0 → mm_gi g 74 (8 * c' + l) = gI S A c' l) → mm_V q_X2_weigh (d + 5) (0, 0) K 10 [some (.ref 66), some vt, some (.int (nI (c + 1))), v3, v4] [] g) : ∀ n l g v4, l + n = S 0 0 → fx xmt y0 h g → (∀ c' l', c' < c ∨ (c' = c ∧ l' < l) → l' < S 0 0 → mm_gi g 74 (8 * c' + l') = gI S A c' l') → mm_V q_X2_weigh (d + 5) (0, 0) K 23 [some (.ref 66), some vt, some (.int (nI c)), some (.int (nI l)), v4] [] g := by
  have v1 := v.1.1
  have v2 := v.1.2.1
  intro n
  induction n with
  | zero =>
    intro l g v4 hl F e
    have Hg := fx_WS F H
    have hcg := HC_mt F hc
    have k' := fun v3 => k g v3 v4 F (fun c' l' q1 q2 => e c' l' (by omega) q2)
    refine t_X2_weigh_23 _ _ _ ?_
    rcases xr with rfl | ⟨t, rfl⟩
    · simp only [s_iadd, s_isub, s_imul, s_iand, s_ior, s_ixor, s_ishl, s_ishr, s_iushr, s_idiv, s_irem, s_ladd, s_lsub, s_lmul, s_ldiv, s_lrem, s_ineg, s_i2l, s_l2i, s_i2c, s_lcmp, s_ic, s_lc, s_nul, s_str, s_il, s_ll, s_al, s_dup, s_dup2, s_pop, s_ifne, s_icne, s_ifeq, s_iflt, s_ifge, s_ifgt, s_ifle, s_iceq, s_iclt, s_icge, s_icgt, s_icle, s_ifnull, s_ifnonnull, s_is, s_ls, s_as, s_ii, s_gi, s_gl, s_gr, s_pi, s_pz, s_pl, s_pr, s_iald, s_zald, s_lald, s_aald, s_alen, s_iast, s_zast, s_last, s_iret, s_zret, s_lret, s_aret, s_vret, s_sw, s_aast, mm_sw, mm_ld, mm_s1, mm_s2, mm_kl, Value.category, va_rf, List.nil_append, List.cons_append, Option.toList, true_and, and_true, and_self, true_or, or_true, eq_self, not_true_eq_false, false_implies, true_implies, not_false_eq_true, mm_10, mm_01, false_or, or_false, Nat.left_eq_add, Nat.add_eq_left, Nat.add_left_cancel_iff, Nat.reduceEqDiff, false_and, and_false, reduceIte, mm_kd_pi, mm_ln_pi, mm_gl_pi, mm_gr_pi, mm_sz_pi, mm_gi_pi, mm_kd_pl, mm_ln_pl, mm_gi_pl, mm_gr_pl, mm_sz_pl, mm_gl_pl, mm_kd_pr, mm_ln_pr, mm_gi_pr, mm_gl_pr, mm_sz_pr, mm_gr_pr, mm_kd_pa, mm_ln_pa, mm_gl_pa, mm_gr_pa, mm_sz_pa, mm_gi_pa, W_kd_66 Hg, W_s_66 Hg, W_gr_66_0 Hg, W_gr_66_1 Hg, W_gr_66_2 Hg, W_gr_66_3 Hg, W_gr_66_4 Hg, W_gr_66_5 Hg, W_gr_66_6 Hg, W_gr_66_7 Hg, W_gr_66_8 Hg, W_gr_66_9 Hg, W_gr_66_10 Hg, W_gr_66_11 Hg, W_gr_66_12 Hg, W_kd_4 Hg, W_s_4 Hg, W_gr_4_0 Hg, W_gr_4_2 Hg, W_gr_4_3 Hg, W_gr_4_4 Hg, W_gr_4_7 Hg, W_gr_4_8 Hg, W_gr_4_9 Hg, W_gr_4_11 Hg, W_gr_4_12 Hg, W_gr_4_13 Hg, W_gr_4_15 Hg, hcg.1.1, eq_true (nI_le (show S 0 0 ≤ l by omega) (show l < 2 ^ 31 by omega)), nI_1]
      exact k' _
    · simp only [s_iadd, s_isub, s_imul, s_iand, s_ior, s_ixor, s_ishl, s_ishr, s_iushr, s_idiv, s_irem, s_ladd, s_lsub, s_lmul, s_ldiv, s_lrem, s_ineg, s_i2l, s_l2i, s_i2c, s_lcmp, s_ic, s_lc, s_nul, s_str, s_il, s_ll, s_al, s_dup, s_dup2, s_pop, s_ifne, s_icne, s_ifeq, s_iflt, s_ifge, s_ifgt, s_ifle, s_iceq, s_iclt, s_icge, s_icgt, s_icle, s_ifnull, s_ifnonnull, s_is, s_ls, s_as, s_ii, s_gi, s_gl, s_gr, s_pi, s_pz, s_pl, s_pr, s_iald, s_zald, s_lald, s_aald, s_alen, s_iast, s_zast, s_last, s_iret, s_zret, s_lret, s_aret, s_vret, s_sw, s_aast, mm_sw, mm_ld, mm_s1, mm_s2, mm_kl, Value.category, va_rf, List.nil_append, List.cons_append, Option.toList, true_and, and_true, and_self, true_or, or_true, eq_self, not_true_eq_false, false_implies, true_implies, not_false_eq_true, mm_10, mm_01, false_or, or_false, Nat.left_eq_add, Nat.add_eq_left, Nat.add_left_cancel_iff, Nat.reduceEqDiff, false_and, and_false, reduceIte, mm_kd_pi, mm_ln_pi, mm_gl_pi, mm_gr_pi, mm_sz_pi, mm_gi_pi, mm_kd_pl, mm_ln_pl, mm_gi_pl, mm_gr_pl, mm_sz_pl, mm_gl_pl, mm_kd_pr, mm_ln_pr, mm_gi_pr, mm_gl_pr, mm_sz_pr, mm_gr_pr, mm_kd_pa, mm_ln_pa, mm_gl_pa, mm_gr_pa, mm_sz_pa, mm_gi_pa, W_kd_66 Hg, W_s_66 Hg, W_gr_66_0 Hg, W_gr_66_1 Hg, W_gr_66_2 Hg, W_gr_66_3 Hg, W_gr_66_4 Hg, W_gr_66_5 Hg, W_gr_66_6 Hg, W_gr_66_7 Hg, W_gr_66_8 Hg, W_gr_66_9 Hg, W_gr_66_10 Hg, W_gr_66_11 Hg, W_gr_66_12 Hg, W_kd_4 Hg, W_s_4 Hg, W_gr_4_0 Hg, W_gr_4_2 Hg, W_gr_4_3 Hg, W_gr_4_4 Hg, W_gr_4_7 Hg, W_gr_4_8 Hg, W_gr_4_9 Hg, W_gr_4_11 Hg, W_gr_4_12 Hg, W_gr_4_13 Hg, W_gr_4_15 Hg, hcg.1.1, eq_true (nI_le (show S 0 0 ≤ l by omega) (show l < 2 ^ 31 by omega)), nI_1]
      exact k' _
  | succ n ih =>
    intro l g v4 hl F e
    have Hg := fx_WS F H
    have hcg := HC_mt F hc
    have fin : ∀ g' v4, fx xmt y0 h g' → (∀ u, mm_gi g' 74 u = mm_gi g 74 u) → mm_V q_X2_weigh (d + 5) (0, 0) K 87 [some (.ref 66), some vt, some (.int (nI c)), some (.int (nI l)), v4] [.int (gI S A c l), .int (nI (c * 8 + l)), .ref 74] g' := by
      intro g' v4 F' e74
      have Hg' := fx_WS F' H
      have nx := ih (l + 1) (mm_pi g' 74 (c * 8 + l) (gI S A c l)) v4 (by omega) (fx_pi (Or.inr (Or.inl rfl)) F') (fun c' l' q1 q2 => by
        rw [mm_gi_pi]
        by_cases y : 8 * c' + l' = c * 8 + l
        · rw [if_pos ⟨rfl, y⟩]
          obtain rfl : c' = c := by omega
          obtain rfl : l' = l := by omega
          rfl
        · rw [if_neg (fun q => y q.2), e74]
          exact e c' l' (by omega) q2)
      refine t_X2_weigh_87 _ _ _ ?_
      rcases xr with rfl | ⟨t, rfl⟩
      · simp only [s_iadd, s_isub, s_imul, s_iand, s_ior, s_ixor, s_ishl, s_ishr, s_iushr, s_idiv, s_irem, s_ladd, s_lsub, s_lmul, s_ldiv, s_lrem, s_ineg, s_i2l, s_l2i, s_i2c, s_lcmp, s_ic, s_lc, s_nul, s_str, s_il, s_ll, s_al, s_dup, s_dup2, s_pop, s_ifne, s_icne, s_ifeq, s_iflt, s_ifge, s_ifgt, s_ifle, s_iceq, s_iclt, s_icge, s_icgt, s_icle, s_ifnull, s_ifnonnull, s_is, s_ls, s_as, s_ii, s_gi, s_gl, s_gr, s_pi, s_pz, s_pl, s_pr, s_iald, s_zald, s_lald, s_aald, s_alen, s_iast, s_zast, s_last, s_iret, s_zret, s_lret, s_aret, s_vret, s_sw, s_aast, mm_sw, mm_ld, mm_s1, mm_s2, mm_kl, Value.category, va_rf, List.nil_append, List.cons_append, Option.toList, true_and, and_true, and_self, true_or, or_true, eq_self, not_true_eq_false, false_implies, true_implies, not_false_eq_true, mm_10, mm_01, false_or, or_false, Nat.left_eq_add, Nat.add_eq_left, Nat.add_left_cancel_iff, Nat.reduceEqDiff, false_and, and_false, reduceIte, mm_kd_pi, mm_ln_pi, mm_gl_pi, mm_gr_pi, mm_sz_pi, mm_gi_pi, mm_kd_pl, mm_ln_pl, mm_gi_pl, mm_gr_pl, mm_sz_pl, mm_gl_pl, mm_kd_pr, mm_ln_pr, mm_gi_pr, mm_gl_pr, mm_sz_pr, mm_gr_pr, mm_kd_pa, mm_ln_pa, mm_gl_pa, mm_gr_pa, mm_sz_pa, mm_gi_pa, W_kd_74 Hg', W_s_74 Hg', W_ln_74 Hg', nI_clamp (show c * 8 + l < 2 ^ 31 by omega), vp_in_nI (show c * 8 + l < 48 by omega) (show 48 < 2 ^ 31 by decide), nI_1]
        exact nx
      · simp only [s_iadd, s_isub, s_imul, s_iand, s_ior, s_ixor, s_ishl, s_ishr, s_iushr, s_idiv, s_irem, s_ladd, s_lsub, s_lmul, s_ldiv, s_lrem, s_ineg, s_i2l, s_l2i, s_i2c, s_lcmp, s_ic, s_lc, s_nul, s_str, s_il, s_ll, s_al, s_dup, s_dup2, s_pop, s_ifne, s_icne, s_ifeq, s_iflt, s_ifge, s_ifgt, s_ifle, s_iceq, s_iclt, s_icge, s_icgt, s_icle, s_ifnull, s_ifnonnull, s_is, s_ls, s_as, s_ii, s_gi, s_gl, s_gr, s_pi, s_pz, s_pl, s_pr, s_iald, s_zald, s_lald, s_aald, s_alen, s_iast, s_zast, s_last, s_iret, s_zret, s_lret, s_aret, s_vret, s_sw, s_aast, mm_sw, mm_ld, mm_s1, mm_s2, mm_kl, Value.category, va_rf, List.nil_append, List.cons_append, Option.toList, true_and, and_true, and_self, true_or, or_true, eq_self, not_true_eq_false, false_implies, true_implies, not_false_eq_true, mm_10, mm_01, false_or, or_false, Nat.left_eq_add, Nat.add_eq_left, Nat.add_left_cancel_iff, Nat.reduceEqDiff, false_and, and_false, reduceIte, mm_kd_pi, mm_ln_pi, mm_gl_pi, mm_gr_pi, mm_sz_pi, mm_gi_pi, mm_kd_pl, mm_ln_pl, mm_gi_pl, mm_gr_pl, mm_sz_pl, mm_gl_pl, mm_kd_pr, mm_ln_pr, mm_gi_pr, mm_gl_pr, mm_sz_pr, mm_gr_pr, mm_kd_pa, mm_ln_pa, mm_gl_pa, mm_gr_pa, mm_sz_pa, mm_gi_pa, W_kd_74 Hg', W_s_74 Hg', W_ln_74 Hg', nI_clamp (show c * 8 + l < 2 ^ 31 by omega), vp_in_nI (show c * 8 + l < 48 by omega) (show 48 < 2 ^ 31 by decide), nI_1]
        exact nx
    have ob : mm_V q_X2_weigh (d + 5) (0, 0) K 41 [some (.ref 66), some vt, some (.int (nI c)), some (.int (nI l)), v4] [.int (nI c), .int (nI l), .int 1, .ref 4] g := by
      refine c_X2_weigh_41 (bb := (0, 0)) (b := (0, 0)) (Nat.le_of_ble_eq_true rfl) ⟨rfl, rfl⟩ (W_kd_4 Hg) (W_s_4 Hg) (sp_objection (kind := 1) Hg (W_h4 Hg) (by decide) v hcg (CAL_x F xmt_hi rfl rfl hA) (by decide) (fun g1 F1 => ?_))
      have Hg1 := fx_WS F1 Hg
      have F1' := xC_mt F F1
      have hcg1 := HC_mt F1' hc
      have e1 : ∀ u, mm_gi g1 74 u = mm_gi g 74 u := fun u => F1.2.1 74 u (by unfold xC; omega)
      rw [dE_1 v2 v1 hcc (by omega)]
      refine t_X2_weigh_44 _ _ _ ?_
      by_cases z : can S A l c
      · have eg : gI S A c l = nI (wo S A c l) := by rw [gI, pif_t z]
        have wt : mm_V q_X2_weigh (d + 5) (0, 0) K 80 [some (.ref 66), some vt, some (.int (nI c)), some (.int (nI l)), some (.int 1)] [.int (nI l), .int (nI c), vt, .ref 4, .ref 1, .int (nI (c * 8 + l)), .ref 74] g1 := by
          refine c_X2_weigh_80 (bb := (0, 0)) (b := (0, 0)) (Nat.le_of_ble_eq_true rfl) ⟨rfl, rfl⟩ (W_kd_1 Hg1) (W_s_1 Hg1) (sp_worthOf Hg1 (W_h4 Hg1) (by decide) v hcg1 (LV_x xmt_hi F1' hx) hcc (by omega) (fun g2 F2 => ?_))
          refine t_X2_weigh_83 _ _ _ ?_
          have := fin g2 (some (.int 1)) (xC_mt F1' F2) (fun u => (F2.2.1 74 u (by unfold xC; omega)).trans (e1 u))
          rw [eg] at this
          exact this
        rw [pif_t z]
        rcases xr with rfl | ⟨t, rfl⟩
        · simp only [s_iadd, s_isub, s_imul, s_iand, s_ior, s_ixor, s_ishl, s_ishr, s_iushr, s_idiv, s_irem, s_ladd, s_lsub, s_lmul, s_ldiv, s_lrem, s_ineg, s_i2l, s_l2i, s_i2c, s_lcmp, s_ic, s_lc, s_nul, s_str, s_il, s_ll, s_al, s_dup, s_dup2, s_pop, s_ifne, s_icne, s_ifeq, s_iflt, s_ifge, s_ifgt, s_ifle, s_iceq, s_iclt, s_icge, s_icgt, s_icle, s_ifnull, s_ifnonnull, s_is, s_ls, s_as, s_ii, s_gi, s_gl, s_gr, s_pi, s_pz, s_pl, s_pr, s_iald, s_zald, s_lald, s_aald, s_alen, s_iast, s_zast, s_last, s_iret, s_zret, s_lret, s_aret, s_vret, s_sw, s_aast, mm_sw, mm_ld, mm_s1, mm_s2, mm_kl, Value.category, va_rf, List.nil_append, List.cons_append, Option.toList, true_and, and_true, and_self, true_or, or_true, eq_self, not_true_eq_false, false_implies, true_implies, not_false_eq_true, mm_10, mm_01, false_or, or_false, Nat.left_eq_add, Nat.add_eq_left, Nat.add_left_cancel_iff, Nat.reduceEqDiff, false_and, and_false, reduceIte, mm_kd_pi, mm_ln_pi, mm_gl_pi, mm_gr_pi, mm_sz_pi, mm_gi_pi, mm_kd_pl, mm_ln_pl, mm_gi_pl, mm_gr_pl, mm_sz_pl, mm_gl_pl, mm_kd_pr, mm_ln_pr, mm_gi_pr, mm_gl_pr, mm_sz_pr, mm_gr_pr, mm_kd_pa, mm_ln_pa, mm_gl_pa, mm_gr_pa, mm_sz_pa, mm_gi_pa]
          refine t_X2_weigh_52 _ _ _ ?_
          simp only [s_iadd, s_isub, s_imul, s_iand, s_ior, s_ixor, s_ishl, s_ishr, s_iushr, s_idiv, s_irem, s_ladd, s_lsub, s_lmul, s_ldiv, s_lrem, s_ineg, s_i2l, s_l2i, s_i2c, s_lcmp, s_ic, s_lc, s_nul, s_str, s_il, s_ll, s_al, s_dup, s_dup2, s_pop, s_ifne, s_icne, s_ifeq, s_iflt, s_ifge, s_ifgt, s_ifle, s_iceq, s_iclt, s_icge, s_icgt, s_icle, s_ifnull, s_ifnonnull, s_is, s_ls, s_as, s_ii, s_gi, s_gl, s_gr, s_pi, s_pz, s_pl, s_pr, s_iald, s_zald, s_lald, s_aald, s_alen, s_iast, s_zast, s_last, s_iret, s_zret, s_lret, s_aret, s_vret, s_sw, s_aast, mm_sw, mm_ld, mm_s1, mm_s2, mm_kl, Value.category, va_rf, List.nil_append, List.cons_append, Option.toList, true_and, and_true, and_self, true_or, or_true, eq_self, not_true_eq_false, false_implies, true_implies, not_false_eq_true, mm_10, mm_01, false_or, or_false, Nat.left_eq_add, Nat.add_eq_left, Nat.add_left_cancel_iff, Nat.reduceEqDiff, false_and, and_false, reduceIte, mm_kd_pi, mm_ln_pi, mm_gl_pi, mm_gr_pi, mm_sz_pi, mm_gi_pi, mm_kd_pl, mm_ln_pl, mm_gi_pl, mm_gr_pl, mm_sz_pl, mm_gl_pl, mm_kd_pr, mm_ln_pr, mm_gi_pr, mm_gl_pr, mm_sz_pr, mm_gr_pr, mm_kd_pa, mm_ln_pa, mm_gl_pa, mm_gr_pa, mm_sz_pa, mm_gi_pa, mm_10, W_kd_66 Hg1, W_s_66 Hg1, W_gr_66_0 Hg1, W_gr_66_1 Hg1, W_gr_66_2 Hg1, W_gr_66_3 Hg1, W_gr_66_4 Hg1, W_gr_66_5 Hg1, W_gr_66_6 Hg1, W_gr_66_7 Hg1, W_gr_66_8 Hg1, W_gr_66_9 Hg1, W_gr_66_10 Hg1, W_gr_66_11 Hg1, W_gr_66_12 Hg1, l_8, pk_mul, nI_add]
          exact wt
        · simp only [s_iadd, s_isub, s_imul, s_iand, s_ior, s_ixor, s_ishl, s_ishr, s_iushr, s_idiv, s_irem, s_ladd, s_lsub, s_lmul, s_ldiv, s_lrem, s_ineg, s_i2l, s_l2i, s_i2c, s_lcmp, s_ic, s_lc, s_nul, s_str, s_il, s_ll, s_al, s_dup, s_dup2, s_pop, s_ifne, s_icne, s_ifeq, s_iflt, s_ifge, s_ifgt, s_ifle, s_iceq, s_iclt, s_icge, s_icgt, s_icle, s_ifnull, s_ifnonnull, s_is, s_ls, s_as, s_ii, s_gi, s_gl, s_gr, s_pi, s_pz, s_pl, s_pr, s_iald, s_zald, s_lald, s_aald, s_alen, s_iast, s_zast, s_last, s_iret, s_zret, s_lret, s_aret, s_vret, s_sw, s_aast, mm_sw, mm_ld, mm_s1, mm_s2, mm_kl, Value.category, va_rf, List.nil_append, List.cons_append, Option.toList, true_and, and_true, and_self, true_or, or_true, eq_self, not_true_eq_false, false_implies, true_implies, not_false_eq_true, mm_10, mm_01, false_or, or_false, Nat.left_eq_add, Nat.add_eq_left, Nat.add_left_cancel_iff, Nat.reduceEqDiff, false_and, and_false, reduceIte, mm_kd_pi, mm_ln_pi, mm_gl_pi, mm_gr_pi, mm_sz_pi, mm_gi_pi, mm_kd_pl, mm_ln_pl, mm_gi_pl, mm_gr_pl, mm_sz_pl, mm_gl_pl, mm_kd_pr, mm_ln_pr, mm_gi_pr, mm_gl_pr, mm_sz_pr, mm_gr_pr, mm_kd_pa, mm_ln_pa, mm_gl_pa, mm_gr_pa, mm_sz_pa, mm_gi_pa]
          refine t_X2_weigh_52 _ _ _ ?_
          simp only [s_iadd, s_isub, s_imul, s_iand, s_ior, s_ixor, s_ishl, s_ishr, s_iushr, s_idiv, s_irem, s_ladd, s_lsub, s_lmul, s_ldiv, s_lrem, s_ineg, s_i2l, s_l2i, s_i2c, s_lcmp, s_ic, s_lc, s_nul, s_str, s_il, s_ll, s_al, s_dup, s_dup2, s_pop, s_ifne, s_icne, s_ifeq, s_iflt, s_ifge, s_ifgt, s_ifle, s_iceq, s_iclt, s_icge, s_icgt, s_icle, s_ifnull, s_ifnonnull, s_is, s_ls, s_as, s_ii, s_gi, s_gl, s_gr, s_pi, s_pz, s_pl, s_pr, s_iald, s_zald, s_lald, s_aald, s_alen, s_iast, s_zast, s_last, s_iret, s_zret, s_lret, s_aret, s_vret, s_sw, s_aast, mm_sw, mm_ld, mm_s1, mm_s2, mm_kl, Value.category, va_rf, List.nil_append, List.cons_append, Option.toList, true_and, and_true, and_self, true_or, or_true, eq_self, not_true_eq_false, false_implies, true_implies, not_false_eq_true, mm_10, mm_01, false_or, or_false, Nat.left_eq_add, Nat.add_eq_left, Nat.add_left_cancel_iff, Nat.reduceEqDiff, false_and, and_false, reduceIte, mm_kd_pi, mm_ln_pi, mm_gl_pi, mm_gr_pi, mm_sz_pi, mm_gi_pi, mm_kd_pl, mm_ln_pl, mm_gi_pl, mm_gr_pl, mm_sz_pl, mm_gl_pl, mm_kd_pr, mm_ln_pr, mm_gi_pr, mm_gl_pr, mm_sz_pr, mm_gr_pr, mm_kd_pa, mm_ln_pa, mm_gl_pa, mm_gr_pa, mm_sz_pa, mm_gi_pa, mm_10, W_kd_66 Hg1, W_s_66 Hg1, W_gr_66_0 Hg1, W_gr_66_1 Hg1, W_gr_66_2 Hg1, W_gr_66_3 Hg1, W_gr_66_4 Hg1, W_gr_66_5 Hg1, W_gr_66_6 Hg1, W_gr_66_7 Hg1, W_gr_66_8 Hg1, W_gr_66_9 Hg1, W_gr_66_10 Hg1, W_gr_66_11 Hg1, W_gr_66_12 Hg1, l_8, pk_mul, nI_add]
          exact wt
      · have eg : gI S A c l = -1 := by rw [gI, pif_f z]
        have := fin g1 (some (.int 0)) F1' e1
        rw [eg] at this
        rw [pif_f z]
        rcases xr with rfl | ⟨t, rfl⟩
        · simp only [s_iadd, s_isub, s_imul, s_iand, s_ior, s_ixor, s_ishl, s_ishr, s_iushr, s_idiv, s_irem, s_ladd, s_lsub, s_lmul, s_ldiv, s_lrem, s_ineg, s_i2l, s_l2i, s_i2c, s_lcmp, s_ic, s_lc, s_nul, s_str, s_il, s_ll, s_al, s_dup, s_dup2, s_pop, s_ifne, s_icne, s_ifeq, s_iflt, s_ifge, s_ifgt, s_ifle, s_iceq, s_iclt, s_icge, s_icgt, s_icle, s_ifnull, s_ifnonnull, s_is, s_ls, s_as, s_ii, s_gi, s_gl, s_gr, s_pi, s_pz, s_pl, s_pr, s_iald, s_zald, s_lald, s_aald, s_alen, s_iast, s_zast, s_last, s_iret, s_zret, s_lret, s_aret, s_vret, s_sw, s_aast, mm_sw, mm_ld, mm_s1, mm_s2, mm_kl, Value.category, va_rf, List.nil_append, List.cons_append, Option.toList, true_and, and_true, and_self, true_or, or_true, eq_self, not_true_eq_false, false_implies, true_implies, not_false_eq_true, mm_10, mm_01, false_or, or_false, Nat.left_eq_add, Nat.add_eq_left, Nat.add_left_cancel_iff, Nat.reduceEqDiff, false_and, and_false, reduceIte, mm_kd_pi, mm_ln_pi, mm_gl_pi, mm_gr_pi, mm_sz_pi, mm_gi_pi, mm_kd_pl, mm_ln_pl, mm_gi_pl, mm_gr_pl, mm_sz_pl, mm_gl_pl, mm_kd_pr, mm_ln_pr, mm_gi_pr, mm_gl_pr, mm_sz_pr, mm_gr_pr, mm_kd_pa, mm_ln_pa, mm_gl_pa, mm_gr_pa, mm_sz_pa, mm_gi_pa, show ((-3 : Int32) = 0) = False by decide]
          refine t_X2_weigh_52 _ _ _ ?_
          simp only [s_iadd, s_isub, s_imul, s_iand, s_ior, s_ixor, s_ishl, s_ishr, s_iushr, s_idiv, s_irem, s_ladd, s_lsub, s_lmul, s_ldiv, s_lrem, s_ineg, s_i2l, s_l2i, s_i2c, s_lcmp, s_ic, s_lc, s_nul, s_str, s_il, s_ll, s_al, s_dup, s_dup2, s_pop, s_ifne, s_icne, s_ifeq, s_iflt, s_ifge, s_ifgt, s_ifle, s_iceq, s_iclt, s_icge, s_icgt, s_icle, s_ifnull, s_ifnonnull, s_is, s_ls, s_as, s_ii, s_gi, s_gl, s_gr, s_pi, s_pz, s_pl, s_pr, s_iald, s_zald, s_lald, s_aald, s_alen, s_iast, s_zast, s_last, s_iret, s_zret, s_lret, s_aret, s_vret, s_sw, s_aast, mm_sw, mm_ld, mm_s1, mm_s2, mm_kl, Value.category, va_rf, List.nil_append, List.cons_append, Option.toList, true_and, and_true, and_self, true_or, or_true, eq_self, not_true_eq_false, false_implies, true_implies, not_false_eq_true, mm_10, mm_01, false_or, or_false, Nat.left_eq_add, Nat.add_eq_left, Nat.add_left_cancel_iff, Nat.reduceEqDiff, false_and, and_false, reduceIte, mm_kd_pi, mm_ln_pi, mm_gl_pi, mm_gr_pi, mm_sz_pi, mm_gi_pi, mm_kd_pl, mm_ln_pl, mm_gi_pl, mm_gr_pl, mm_sz_pl, mm_gl_pl, mm_kd_pr, mm_ln_pr, mm_gi_pr, mm_gl_pr, mm_sz_pr, mm_gr_pr, mm_kd_pa, mm_ln_pa, mm_gl_pa, mm_gr_pa, mm_sz_pa, mm_gi_pa, mm_10, W_kd_66 Hg1, W_s_66 Hg1, W_gr_66_0 Hg1, W_gr_66_1 Hg1, W_gr_66_2 Hg1, W_gr_66_3 Hg1, W_gr_66_4 Hg1, W_gr_66_5 Hg1, W_gr_66_6 Hg1, W_gr_66_7 Hg1, W_gr_66_8 Hg1, W_gr_66_9 Hg1, W_gr_66_10 Hg1, W_gr_66_11 Hg1, W_gr_66_12 Hg1, l_8, pk_mul, nI_add]
          exact this
        · simp only [s_iadd, s_isub, s_imul, s_iand, s_ior, s_ixor, s_ishl, s_ishr, s_iushr, s_idiv, s_irem, s_ladd, s_lsub, s_lmul, s_ldiv, s_lrem, s_ineg, s_i2l, s_l2i, s_i2c, s_lcmp, s_ic, s_lc, s_nul, s_str, s_il, s_ll, s_al, s_dup, s_dup2, s_pop, s_ifne, s_icne, s_ifeq, s_iflt, s_ifge, s_ifgt, s_ifle, s_iceq, s_iclt, s_icge, s_icgt, s_icle, s_ifnull, s_ifnonnull, s_is, s_ls, s_as, s_ii, s_gi, s_gl, s_gr, s_pi, s_pz, s_pl, s_pr, s_iald, s_zald, s_lald, s_aald, s_alen, s_iast, s_zast, s_last, s_iret, s_zret, s_lret, s_aret, s_vret, s_sw, s_aast, mm_sw, mm_ld, mm_s1, mm_s2, mm_kl, Value.category, va_rf, List.nil_append, List.cons_append, Option.toList, true_and, and_true, and_self, true_or, or_true, eq_self, not_true_eq_false, false_implies, true_implies, not_false_eq_true, mm_10, mm_01, false_or, or_false, Nat.left_eq_add, Nat.add_eq_left, Nat.add_left_cancel_iff, Nat.reduceEqDiff, false_and, and_false, reduceIte, mm_kd_pi, mm_ln_pi, mm_gl_pi, mm_gr_pi, mm_sz_pi, mm_gi_pi, mm_kd_pl, mm_ln_pl, mm_gi_pl, mm_gr_pl, mm_sz_pl, mm_gl_pl, mm_kd_pr, mm_ln_pr, mm_gi_pr, mm_gl_pr, mm_sz_pr, mm_gr_pr, mm_kd_pa, mm_ln_pa, mm_gl_pa, mm_gr_pa, mm_sz_pa, mm_gi_pa, show ((-3 : Int32) = 0) = False by decide]
          refine t_X2_weigh_52 _ _ _ ?_
          simp only [s_iadd, s_isub, s_imul, s_iand, s_ior, s_ixor, s_ishl, s_ishr, s_iushr, s_idiv, s_irem, s_ladd, s_lsub, s_lmul, s_ldiv, s_lrem, s_ineg, s_i2l, s_l2i, s_i2c, s_lcmp, s_ic, s_lc, s_nul, s_str, s_il, s_ll, s_al, s_dup, s_dup2, s_pop, s_ifne, s_icne, s_ifeq, s_iflt, s_ifge, s_ifgt, s_ifle, s_iceq, s_iclt, s_icge, s_icgt, s_icle, s_ifnull, s_ifnonnull, s_is, s_ls, s_as, s_ii, s_gi, s_gl, s_gr, s_pi, s_pz, s_pl, s_pr, s_iald, s_zald, s_lald, s_aald, s_alen, s_iast, s_zast, s_last, s_iret, s_zret, s_lret, s_aret, s_vret, s_sw, s_aast, mm_sw, mm_ld, mm_s1, mm_s2, mm_kl, Value.category, va_rf, List.nil_append, List.cons_append, Option.toList, true_and, and_true, and_self, true_or, or_true, eq_self, not_true_eq_false, false_implies, true_implies, not_false_eq_true, mm_10, mm_01, false_or, or_false, Nat.left_eq_add, Nat.add_eq_left, Nat.add_left_cancel_iff, Nat.reduceEqDiff, false_and, and_false, reduceIte, mm_kd_pi, mm_ln_pi, mm_gl_pi, mm_gr_pi, mm_sz_pi, mm_gi_pi, mm_kd_pl, mm_ln_pl, mm_gi_pl, mm_gr_pl, mm_sz_pl, mm_gl_pl, mm_kd_pr, mm_ln_pr, mm_gi_pr, mm_gl_pr, mm_sz_pr, mm_gr_pr, mm_kd_pa, mm_ln_pa, mm_gl_pa, mm_gr_pa, mm_sz_pa, mm_gi_pa, mm_10, W_kd_66 Hg1, W_s_66 Hg1, W_gr_66_0 Hg1, W_gr_66_1 Hg1, W_gr_66_2 Hg1, W_gr_66_3 Hg1, W_gr_66_4 Hg1, W_gr_66_5 Hg1, W_gr_66_6 Hg1, W_gr_66_7 Hg1, W_gr_66_8 Hg1, W_gr_66_9 Hg1, W_gr_66_10 Hg1, W_gr_66_11 Hg1, W_gr_66_12 Hg1, l_8, pk_mul, nI_add]
          exact this
    refine t_X2_weigh_23 _ _ _ ?_
    rcases xr with rfl | ⟨t, rfl⟩
    · simp only [s_iadd, s_isub, s_imul, s_iand, s_ior, s_ixor, s_ishl, s_ishr, s_iushr, s_idiv, s_irem, s_ladd, s_lsub, s_lmul, s_ldiv, s_lrem, s_ineg, s_i2l, s_l2i, s_i2c, s_lcmp, s_ic, s_lc, s_nul, s_str, s_il, s_ll, s_al, s_dup, s_dup2, s_pop, s_ifne, s_icne, s_ifeq, s_iflt, s_ifge, s_ifgt, s_ifle, s_iceq, s_iclt, s_icge, s_icgt, s_icle, s_ifnull, s_ifnonnull, s_is, s_ls, s_as, s_ii, s_gi, s_gl, s_gr, s_pi, s_pz, s_pl, s_pr, s_iald, s_zald, s_lald, s_aald, s_alen, s_iast, s_zast, s_last, s_iret, s_zret, s_lret, s_aret, s_vret, s_sw, s_aast, mm_sw, mm_ld, mm_s1, mm_s2, mm_kl, Value.category, va_rf, List.nil_append, List.cons_append, Option.toList, true_and, and_true, and_self, true_or, or_true, eq_self, not_true_eq_false, false_implies, true_implies, not_false_eq_true, mm_10, mm_01, false_or, or_false, Nat.left_eq_add, Nat.add_eq_left, Nat.add_left_cancel_iff, Nat.reduceEqDiff, false_and, and_false, reduceIte, mm_kd_pi, mm_ln_pi, mm_gl_pi, mm_gr_pi, mm_sz_pi, mm_gi_pi, mm_kd_pl, mm_ln_pl, mm_gi_pl, mm_gr_pl, mm_sz_pl, mm_gl_pl, mm_kd_pr, mm_ln_pr, mm_gi_pr, mm_gl_pr, mm_sz_pr, mm_gr_pr, mm_kd_pa, mm_ln_pa, mm_gl_pa, mm_gr_pa, mm_sz_pa, mm_gi_pa, W_kd_66 Hg, W_s_66 Hg, W_gr_66_0 Hg, W_gr_66_1 Hg, W_gr_66_2 Hg, W_gr_66_3 Hg, W_gr_66_4 Hg, W_gr_66_5 Hg, W_gr_66_6 Hg, W_gr_66_7 Hg, W_gr_66_8 Hg, W_gr_66_9 Hg, W_gr_66_10 Hg, W_gr_66_11 Hg, W_gr_66_12 Hg, W_kd_4 Hg, W_s_4 Hg, W_gr_4_0 Hg, W_gr_4_2 Hg, W_gr_4_3 Hg, W_gr_4_4 Hg, W_gr_4_7 Hg, W_gr_4_8 Hg, W_gr_4_9 Hg, W_gr_4_11 Hg, W_gr_4_12 Hg, W_gr_4_13 Hg, W_gr_4_15 Hg, hcg.1.1, eq_false (nI_ge (show l < S 0 0 by omega) (show S 0 0 < 2 ^ 31 by omega))]
      exact ob
    · simp only [s_iadd, s_isub, s_imul, s_iand, s_ior, s_ixor, s_ishl, s_ishr, s_iushr, s_idiv, s_irem, s_ladd, s_lsub, s_lmul, s_ldiv, s_lrem, s_ineg, s_i2l, s_l2i, s_i2c, s_lcmp, s_ic, s_lc, s_nul, s_str, s_il, s_ll, s_al, s_dup, s_dup2, s_pop, s_ifne, s_icne, s_ifeq, s_iflt, s_ifge, s_ifgt, s_ifle, s_iceq, s_iclt, s_icge, s_icgt, s_icle, s_ifnull, s_ifnonnull, s_is, s_ls, s_as, s_ii, s_gi, s_gl, s_gr, s_pi, s_pz, s_pl, s_pr, s_iald, s_zald, s_lald, s_aald, s_alen, s_iast, s_zast, s_last, s_iret, s_zret, s_lret, s_aret, s_vret, s_sw, s_aast, mm_sw, mm_ld, mm_s1, mm_s2, mm_kl, Value.category, va_rf, List.nil_append, List.cons_append, Option.toList, true_and, and_true, and_self, true_or, or_true, eq_self, not_true_eq_false, false_implies, true_implies, not_false_eq_true, mm_10, mm_01, false_or, or_false, Nat.left_eq_add, Nat.add_eq_left, Nat.add_left_cancel_iff, Nat.reduceEqDiff, false_and, and_false, reduceIte, mm_kd_pi, mm_ln_pi, mm_gl_pi, mm_gr_pi, mm_sz_pi, mm_gi_pi, mm_kd_pl, mm_ln_pl, mm_gi_pl, mm_gr_pl, mm_sz_pl, mm_gl_pl, mm_kd_pr, mm_ln_pr, mm_gi_pr, mm_gl_pr, mm_sz_pr, mm_gr_pr, mm_kd_pa, mm_ln_pa, mm_gl_pa, mm_gr_pa, mm_sz_pa, mm_gi_pa, W_kd_66 Hg, W_s_66 Hg, W_gr_66_0 Hg, W_gr_66_1 Hg, W_gr_66_2 Hg, W_gr_66_3 Hg, W_gr_66_4 Hg, W_gr_66_5 Hg, W_gr_66_6 Hg, W_gr_66_7 Hg, W_gr_66_8 Hg, W_gr_66_9 Hg, W_gr_66_10 Hg, W_gr_66_11 Hg, W_gr_66_12 Hg, W_kd_4 Hg, W_s_4 Hg, W_gr_4_0 Hg, W_gr_4_2 Hg, W_gr_4_3 Hg, W_gr_4_4 Hg, W_gr_4_7 Hg, W_gr_4_8 Hg, W_gr_4_9 Hg, W_gr_4_11 Hg, W_gr_4_12 Hg, W_gr_4_13 Hg, W_gr_4_15 Hg, hcg.1.1, eq_false (nI_ge (show l < S 0 0 by omega) (show S 0 0 < 2 ^ 31 by omega))]
      exact ob
theorem lw_out (H : WS h) (v : HV S) (hc : HC h 4 S) (hA : CAL h 4 S A) (hx : LV h A vt) (xr : vt = .null ∨ ∃ t : Nat, vt = .ref t) (k : ∀ g, fx xmt y0 h g → (∀ c' l, c' < S 0 1 → l < S 0 0 → mm_gi g 74 (8 * c' + l) = gI S A c' l) → K none g) : ∀ n c g v3 v4, c + n = S 0 1 → fx xmt y0 h g → (∀ c' l, c' < c → l < S 0 0 → mm_gi g 74 (8 * c' + l) = gI S A c' l) → mm_V q_X2_weigh (d + 5) (0, 0) K 10 [some (.ref 66), some vt, some (.int (nI c)), v3, v4] [] g := by
  have v2 := v.1.2.1
  intro n
  induction n with
  | zero =>
    intro c g v3 v4 hc' F e
    have Hg := fx_WS F H
    have hcg := HC_mt F hc
    refine t_X2_weigh_10 _ _ _ ?_
    simp only [s_iadd, s_isub, s_imul, s_iand, s_ior, s_ixor, s_ishl, s_ishr, s_iushr, s_idiv, s_irem, s_ladd, s_lsub, s_lmul, s_ldiv, s_lrem, s_ineg, s_i2l, s_l2i, s_i2c, s_lcmp, s_ic, s_lc, s_nul, s_str, s_il, s_ll, s_al, s_dup, s_dup2, s_pop, s_ifne, s_icne, s_ifeq, s_iflt, s_ifge, s_ifgt, s_ifle, s_iceq, s_iclt, s_icge, s_icgt, s_icle, s_ifnull, s_ifnonnull, s_is, s_ls, s_as, s_ii, s_gi, s_gl, s_gr, s_pi, s_pz, s_pl, s_pr, s_iald, s_zald, s_lald, s_aald, s_alen, s_iast, s_zast, s_last, s_iret, s_zret, s_lret, s_aret, s_vret, s_sw, s_aast, mm_sw, mm_ld, mm_s1, mm_s2, mm_kl, Value.category, va_rf, List.nil_append, List.cons_append, Option.toList, true_and, and_true, and_self, true_or, or_true, eq_self, not_true_eq_false, false_implies, true_implies, not_false_eq_true, mm_10, mm_01, false_or, or_false, Nat.left_eq_add, Nat.add_eq_left, Nat.add_left_cancel_iff, Nat.reduceEqDiff, false_and, and_false, reduceIte, mm_kd_pi, mm_ln_pi, mm_gl_pi, mm_gr_pi, mm_sz_pi, mm_gi_pi, mm_kd_pl, mm_ln_pl, mm_gi_pl, mm_gr_pl, mm_sz_pl, mm_gl_pl, mm_kd_pr, mm_ln_pr, mm_gi_pr, mm_gl_pr, mm_sz_pr, mm_gr_pr, mm_kd_pa, mm_ln_pa, mm_gl_pa, mm_gr_pa, mm_sz_pa, mm_gi_pa, W_kd_66 Hg, W_s_66 Hg, W_gr_66_0 Hg, W_gr_66_1 Hg, W_gr_66_2 Hg, W_gr_66_3 Hg, W_gr_66_4 Hg, W_gr_66_5 Hg, W_gr_66_6 Hg, W_gr_66_7 Hg, W_gr_66_8 Hg, W_gr_66_9 Hg, W_gr_66_10 Hg, W_gr_66_11 Hg, W_gr_66_12 Hg, W_kd_4 Hg, W_s_4 Hg, W_gr_4_0 Hg, W_gr_4_2 Hg, W_gr_4_3 Hg, W_gr_4_4 Hg, W_gr_4_7 Hg, W_gr_4_8 Hg, W_gr_4_9 Hg, W_gr_4_11 Hg, W_gr_4_12 Hg, W_gr_4_13 Hg, W_gr_4_15 Hg, hcg.1.2.1, eq_true (nI_le (show S 0 1 ≤ c by omega) (show c < 2 ^ 31 by omega))]
    exact k g F (fun c' l q1 q2 => e c' l (by omega) q2)
  | succ n ih =>
    intro c g v3 v4 hc' F e
    have Hg := fx_WS F H
    have hcg := HC_mt F hc
    have nx := lw_in (d := d) (K := K) (c := c) H v hc hA hx xr (by omega) (fun g v3 v4 F e => ih (c + 1) g v3 v4 (by omega) F (fun c' l q1 q2 => e c' l (by omega) q2)) (S 0 0) 0 g v4 (by omega) F (fun c' l' q1 q2 => e c' l' (by omega) q2)
    refine t_X2_weigh_10 _ _ _ ?_
    rcases xr with rfl | ⟨t, rfl⟩
    · simp only [s_iadd, s_isub, s_imul, s_iand, s_ior, s_ixor, s_ishl, s_ishr, s_iushr, s_idiv, s_irem, s_ladd, s_lsub, s_lmul, s_ldiv, s_lrem, s_ineg, s_i2l, s_l2i, s_i2c, s_lcmp, s_ic, s_lc, s_nul, s_str, s_il, s_ll, s_al, s_dup, s_dup2, s_pop, s_ifne, s_icne, s_ifeq, s_iflt, s_ifge, s_ifgt, s_ifle, s_iceq, s_iclt, s_icge, s_icgt, s_icle, s_ifnull, s_ifnonnull, s_is, s_ls, s_as, s_ii, s_gi, s_gl, s_gr, s_pi, s_pz, s_pl, s_pr, s_iald, s_zald, s_lald, s_aald, s_alen, s_iast, s_zast, s_last, s_iret, s_zret, s_lret, s_aret, s_vret, s_sw, s_aast, mm_sw, mm_ld, mm_s1, mm_s2, mm_kl, Value.category, va_rf, List.nil_append, List.cons_append, Option.toList, true_and, and_true, and_self, true_or, or_true, eq_self, not_true_eq_false, false_implies, true_implies, not_false_eq_true, mm_10, mm_01, false_or, or_false, Nat.left_eq_add, Nat.add_eq_left, Nat.add_left_cancel_iff, Nat.reduceEqDiff, false_and, and_false, reduceIte, mm_kd_pi, mm_ln_pi, mm_gl_pi, mm_gr_pi, mm_sz_pi, mm_gi_pi, mm_kd_pl, mm_ln_pl, mm_gi_pl, mm_gr_pl, mm_sz_pl, mm_gl_pl, mm_kd_pr, mm_ln_pr, mm_gi_pr, mm_gl_pr, mm_sz_pr, mm_gr_pr, mm_kd_pa, mm_ln_pa, mm_gl_pa, mm_gr_pa, mm_sz_pa, mm_gi_pa, W_kd_66 Hg, W_s_66 Hg, W_gr_66_0 Hg, W_gr_66_1 Hg, W_gr_66_2 Hg, W_gr_66_3 Hg, W_gr_66_4 Hg, W_gr_66_5 Hg, W_gr_66_6 Hg, W_gr_66_7 Hg, W_gr_66_8 Hg, W_gr_66_9 Hg, W_gr_66_10 Hg, W_gr_66_11 Hg, W_gr_66_12 Hg, W_kd_4 Hg, W_s_4 Hg, W_gr_4_0 Hg, W_gr_4_2 Hg, W_gr_4_3 Hg, W_gr_4_4 Hg, W_gr_4_7 Hg, W_gr_4_8 Hg, W_gr_4_9 Hg, W_gr_4_11 Hg, W_gr_4_12 Hg, W_gr_4_13 Hg, W_gr_4_15 Hg, hcg.1.2.1, eq_false (nI_ge (show c < S 0 1 by omega) (show S 0 1 < 2 ^ 31 by omega))]
      exact nx
    · simp only [s_iadd, s_isub, s_imul, s_iand, s_ior, s_ixor, s_ishl, s_ishr, s_iushr, s_idiv, s_irem, s_ladd, s_lsub, s_lmul, s_ldiv, s_lrem, s_ineg, s_i2l, s_l2i, s_i2c, s_lcmp, s_ic, s_lc, s_nul, s_str, s_il, s_ll, s_al, s_dup, s_dup2, s_pop, s_ifne, s_icne, s_ifeq, s_iflt, s_ifge, s_ifgt, s_ifle, s_iceq, s_iclt, s_icge, s_icgt, s_icle, s_ifnull, s_ifnonnull, s_is, s_ls, s_as, s_ii, s_gi, s_gl, s_gr, s_pi, s_pz, s_pl, s_pr, s_iald, s_zald, s_lald, s_aald, s_alen, s_iast, s_zast, s_last, s_iret, s_zret, s_lret, s_aret, s_vret, s_sw, s_aast, mm_sw, mm_ld, mm_s1, mm_s2, mm_kl, Value.category, va_rf, List.nil_append, List.cons_append, Option.toList, true_and, and_true, and_self, true_or, or_true, eq_self, not_true_eq_false, false_implies, true_implies, not_false_eq_true, mm_10, mm_01, false_or, or_false, Nat.left_eq_add, Nat.add_eq_left, Nat.add_left_cancel_iff, Nat.reduceEqDiff, false_and, and_false, reduceIte, mm_kd_pi, mm_ln_pi, mm_gl_pi, mm_gr_pi, mm_sz_pi, mm_gi_pi, mm_kd_pl, mm_ln_pl, mm_gi_pl, mm_gr_pl, mm_sz_pl, mm_gl_pl, mm_kd_pr, mm_ln_pr, mm_gi_pr, mm_gl_pr, mm_sz_pr, mm_gr_pr, mm_kd_pa, mm_ln_pa, mm_gl_pa, mm_gr_pa, mm_sz_pa, mm_gi_pa, W_kd_66 Hg, W_s_66 Hg, W_gr_66_0 Hg, W_gr_66_1 Hg, W_gr_66_2 Hg, W_gr_66_3 Hg, W_gr_66_4 Hg, W_gr_66_5 Hg, W_gr_66_6 Hg, W_gr_66_7 Hg, W_gr_66_8 Hg, W_gr_66_9 Hg, W_gr_66_10 Hg, W_gr_66_11 Hg, W_gr_66_12 Hg, W_kd_4 Hg, W_s_4 Hg, W_gr_4_0 Hg, W_gr_4_2 Hg, W_gr_4_3 Hg, W_gr_4_4 Hg, W_gr_4_7 Hg, W_gr_4_8 Hg, W_gr_4_9 Hg, W_gr_4_11 Hg, W_gr_4_12 Hg, W_gr_4_13 Hg, W_gr_4_15 Hg, hcg.1.2.1, eq_false (nI_ge (show c < S 0 1 by omega) (show S 0 1 < 2 ^ 31 by omega))]
      exact nx
theorem sp_weigh (H : WS h) (v : HV S) (hc : HC h 4 S) (hA : CAL h 4 S A) (k : ∀ g, fx xmt y0 h g → (∀ c' l, c' < S 0 1 → l < S 0 0 → mm_gi g 74 (8 * c' + l) = gI S A c' l) → K none g) : mm_MV q_X2_weigh (d + 5) (0, 0) [.ref 66] h K := by
  refine e_X2_weigh (t_X2_weigh_0 _ _ _ ?_)
  simp only [s_iadd, s_isub, s_imul, s_iand, s_ior, s_ixor, s_ishl, s_ishr, s_iushr, s_idiv, s_irem, s_ladd, s_lsub, s_lmul, s_ldiv, s_lrem, s_ineg, s_i2l, s_l2i, s_i2c, s_lcmp, s_ic, s_lc, s_nul, s_str, s_il, s_ll, s_al, s_dup, s_dup2, s_pop, s_ifne, s_icne, s_ifeq, s_iflt, s_ifge, s_ifgt, s_ifle, s_iceq, s_iclt, s_icge, s_icgt, s_icle, s_ifnull, s_ifnonnull, s_is, s_ls, s_as, s_ii, s_gi, s_gl, s_gr, s_pi, s_pz, s_pl, s_pr, s_iald, s_zald, s_lald, s_aald, s_alen, s_iast, s_zast, s_last, s_iret, s_zret, s_lret, s_aret, s_vret, s_sw, s_aast, mm_sw, mm_ld, mm_s1, mm_s2, mm_kl, Value.category, va_rf, List.nil_append, List.cons_append, Option.toList, true_and, and_true, and_self, true_or, or_true, eq_self, not_true_eq_false, false_implies, true_implies, not_false_eq_true, mm_10, mm_01, false_or, or_false, Nat.left_eq_add, Nat.add_eq_left, Nat.add_left_cancel_iff, Nat.reduceEqDiff, false_and, and_false, reduceIte, mm_kd_pi, mm_ln_pi, mm_gl_pi, mm_gr_pi, mm_sz_pi, mm_gi_pi, mm_kd_pl, mm_ln_pl, mm_gi_pl, mm_gr_pl, mm_sz_pl, mm_gl_pl, mm_kd_pr, mm_ln_pr, mm_gi_pr, mm_gl_pr, mm_sz_pr, mm_gr_pr, mm_kd_pa, mm_ln_pa, mm_gl_pa, mm_gr_pa, mm_sz_pa, mm_gi_pa, W_kd_66 H, W_s_66 H, W_gr_66_0 H, W_gr_66_1 H, W_gr_66_2 H, W_gr_66_3 H, W_gr_66_4 H, W_gr_66_5 H, W_gr_66_6 H, W_gr_66_7 H, W_gr_66_8 H, W_gr_66_9 H, W_gr_66_10 H, W_gr_66_11 H, W_gr_66_12 H]
  refine c_X2_weigh_4 (bb := (0, 0)) (b := (0, 0)) (Nat.le_of_ble_eq_true rfl) ⟨rfl, rfl⟩ (W_kd_4 H) (W_s_4 H) (LV_of v hc hA H (fun x hx xr => ?_))
  refine t_X2_weigh_7 _ _ _ ?_
  have nx := fun v3 v4 => lw_out (d := d) H v hc hA hx xr k (S 0 1) 0 h v3 v4 (by omega) fx_rf (fun c' l q1 q2 => by omega)
  rcases xr with rfl | ⟨t, rfl⟩
  · simp only [s_iadd, s_isub, s_imul, s_iand, s_ior, s_ixor, s_ishl, s_ishr, s_iushr, s_idiv, s_irem, s_ladd, s_lsub, s_lmul, s_ldiv, s_lrem, s_ineg, s_i2l, s_l2i, s_i2c, s_lcmp, s_ic, s_lc, s_nul, s_str, s_il, s_ll, s_al, s_dup, s_dup2, s_pop, s_ifne, s_icne, s_ifeq, s_iflt, s_ifge, s_ifgt, s_ifle, s_iceq, s_iclt, s_icge, s_icgt, s_icle, s_ifnull, s_ifnonnull, s_is, s_ls, s_as, s_ii, s_gi, s_gl, s_gr, s_pi, s_pz, s_pl, s_pr, s_iald, s_zald, s_lald, s_aald, s_alen, s_iast, s_zast, s_last, s_iret, s_zret, s_lret, s_aret, s_vret, s_sw, s_aast, mm_sw, mm_ld, mm_s1, mm_s2, mm_kl, Value.category, va_rf, List.nil_append, List.cons_append, Option.toList, true_and, and_true, and_self, true_or, or_true, eq_self, not_true_eq_false, false_implies, true_implies, not_false_eq_true, mm_10, mm_01, false_or, or_false, Nat.left_eq_add, Nat.add_eq_left, Nat.add_left_cancel_iff, Nat.reduceEqDiff, false_and, and_false, reduceIte, mm_kd_pi, mm_ln_pi, mm_gl_pi, mm_gr_pi, mm_sz_pi, mm_gi_pi, mm_kd_pl, mm_ln_pl, mm_gi_pl, mm_gr_pl, mm_sz_pl, mm_gl_pl, mm_kd_pr, mm_ln_pr, mm_gi_pr, mm_gl_pr, mm_sz_pr, mm_gr_pr, mm_kd_pa, mm_ln_pa, mm_gl_pa, mm_gr_pa, mm_sz_pa, mm_gi_pa]
    exact nx _ _
  · simp only [s_iadd, s_isub, s_imul, s_iand, s_ior, s_ixor, s_ishl, s_ishr, s_iushr, s_idiv, s_irem, s_ladd, s_lsub, s_lmul, s_ldiv, s_lrem, s_ineg, s_i2l, s_l2i, s_i2c, s_lcmp, s_ic, s_lc, s_nul, s_str, s_il, s_ll, s_al, s_dup, s_dup2, s_pop, s_ifne, s_icne, s_ifeq, s_iflt, s_ifge, s_ifgt, s_ifle, s_iceq, s_iclt, s_icge, s_icgt, s_icle, s_ifnull, s_ifnonnull, s_is, s_ls, s_as, s_ii, s_gi, s_gl, s_gr, s_pi, s_pz, s_pl, s_pr, s_iald, s_zald, s_lald, s_aald, s_alen, s_iast, s_zast, s_last, s_iret, s_zret, s_lret, s_aret, s_vret, s_sw, s_aast, mm_sw, mm_ld, mm_s1, mm_s2, mm_kl, Value.category, va_rf, List.nil_append, List.cons_append, Option.toList, true_and, and_true, and_self, true_or, or_true, eq_self, not_true_eq_false, false_implies, true_implies, not_false_eq_true, mm_10, mm_01, false_or, or_false, Nat.left_eq_add, Nat.add_eq_left, Nat.add_left_cancel_iff, Nat.reduceEqDiff, false_and, and_false, reduceIte, mm_kd_pi, mm_ln_pi, mm_gl_pi, mm_gr_pi, mm_sz_pi, mm_gi_pi, mm_kd_pl, mm_ln_pl, mm_gi_pl, mm_gr_pl, mm_sz_pl, mm_gl_pl, mm_kd_pr, mm_ln_pr, mm_gi_pr, mm_gl_pr, mm_sz_pr, mm_gr_pr, mm_kd_pa, mm_ln_pa, mm_gl_pa, mm_gr_pa, mm_sz_pa, mm_gi_pa]
    exact nx _ _
end
