/-! heard -/
noncomputable def hsL (p : Nat → Prop) : Nat → List Nat
  | 0 => []
  | s + 1 => pif (p s) (hsL p s ++ [s]) (hsL p s)
theorem hsL_len (p : Nat → Prop) : ∀ s, (hsL p s).length ≤ s
  | 0 => Nat.le_refl _
  | s + 1 => by
    have := hsL_len p s
    by_cases z : p s
    · rw [hsL, pif_t z, List.length_append]; simp; exact this
    · rw [hsL, pif_f z]; omega
theorem hsL_lt (p : Nat → Prop) : ∀ s, ∀ x ∈ hsL p s, x < s
  | 0, x, h => by cases h
  | s + 1, x, h => by
    by_cases z : p s
    · rw [hsL, pif_t z] at h
      rcases List.mem_append.mp h with h | h
      · have := hsL_lt p s x h; omega
      · simp at h; omega
    · rw [hsL, pif_f z] at h
      have := hsL_lt p s x h; omega
theorem getD_app {l : List Nat} {s i : Nat} : (l ++ [s]).getD i 0 = if i < l.length then l.getD i 0 else if i = l.length then s else 0 := by
  by_cases z : i < l.length
  · rw [if_pos z]; simp [List.getD, List.getElem?_append_left z]
  · rw [if_neg z]
    by_cases y : i = l.length
    · subst y; rw [if_pos rfl]; simp [List.getD]
    · rw [if_neg y]
      have : (l ++ [s])[i]? = none := by simp; omega
      simp [List.getD, this]
noncomputable def hIts (l : List Nat) (x : Int32) : Int32 := pif (vp_in x l.length) (nI (l.getD x.toNatClampNeg 0)) (-1)
noncomputable def hdR (l : List Nat) (x : Int32) : Int32 := if x = -1 then nI l.length else hIts l x
theorem shr_d : ∀ j, j < 256 → ∀ k, k < 10 → nI j >>> (nI k &&& 31) = nI (j / 2 ^ k) := by decide +kernel
theorem xor_d : ∀ j, j < 256 → ∀ t, t < 8 → j / 2 ^ t % 2 = 1 → j ^^^ 2 ^ t = j - 2 ^ t := by decide +kernel
def xfh (c j : Nat) : Prop := xC c j ∨ c = 72 ∨ c = 73
noncomputable def pH (S : HSt) (A : Option lwD) (c : Nat) (s : Nat) : Prop := tdO S (kbF S A c s (S 0 0))
section
variable {d : Nat} {h : mmH} {S : HSt} {K : Option Value → mmH → Prop} {A : Option lwD} {c : Nat}
theorem tbits_N {a b : Nat} (v : HV S) (hc : HC h a S) (hb : b < 2) : ∀ i, i ≤ S 0 2 → tbits h a (nI b) i = nI (tbN S b i)
  | 0, _ => rfl
  | i + 1, hi => by
    have ih := tbits_N v hc hb i (by omega)
    obtain ⟨e7, e8⟩ := hc.2.2.2.1 i (by omega)
    obtain ⟨w7, w8⟩ := v.2.2.2.1 i (by omega)
    rw [tbits, tbN, ih, e7, e8, shl1 _ (by omega), nI_or]
    by_cases z : S 8 i = b
    · rw [if_pos z, if_pos (by rw [z])]
    · rw [if_neg z, if_neg (fun y => z ((nI_eq (by omega) (by omega)).mp y))]
theorem HC_fh {g : mmH} (F : fx xfh y0 h g) (hc : HC h 4 S) : HC g 4 S := HC_cg (fun c j c1 c2 => F.2.1 c j (by unfold xfh xC; omega)) hc
theorem fh_go (H : WS h) (v : HV S) (hc : HC h 4 S) (hA : CAL h 4 S A) (hcc : c < S 0 1) (k : ∀ g, fx xfh y0 h g → (∀ s, s < 2 ^ S 0 0 → mm_gi g 73 s = nI (kbF S A c s (S 0 0))) → (∀ i, i < (hsL (pH S A c) (2 ^ S 0 0)).length → mm_gi g 72 i = nI ((hsL (pH S A c) (2 ^ S 0 0)).getD i 0)) → K (some (.int (nI (hsL (pH S A c) (2 ^ S 0 0)).length))) g) :
    ∀ n s hb g, s + n = 2 ^ S 0 0 → s ≤ 2 ^ (hb + 1) → (hb = 0 ∨ 2 ^ hb < s) → hb ≤ 8 → fx xfh y0 h g → mm_gi g 73 0 = nI 0 → (∀ u, u < s → mm_gi g 73 u = nI (kbF S A c u (S 0 0))) → (∀ i, i < (hsL (pH S A c) s).length → mm_gi g 72 i = nI ((hsL (pH S A c) s).getD i 0)) → mm_V q_X2_findHeard (d + 4) (0, 0) K 34 [some (.ref 66), some (.int (nI c)), some (.int (nI (tbN S 1 (S 0 2)))), some (.int (nI (tbN S 0 (S 0 2)))), some (.int (nI (hsL (pH S A c) s).length)), some (.int (nI hb)), some (.int (nI s))] [] g := by
  have v1 := v.1.1
  have p256 : 2 ^ S 0 0 ≤ 256 := Nat.pow_le_pow_right (n := 2) (by decide) v1
  have l1 := tbN_lt (b := 1) (fun k hk => (v.2.2.2.1 k hk).1) (S 0 2) (Nat.le_refl _)
  have l0 := tbN_lt (b := 0) (fun k hk => (v.2.2.2.1 k hk).1) (S 0 2) (Nat.le_refl _)
  intro n
  induction n with
  | zero =>
    intro s hb g hs i1 i2 hb8 F k0 kn hd
    obtain rfl : s = 2 ^ S 0 0 := by omega
    have Hg := fx_WS F H
    have hcg := HC_fh F hc
    refine t_X2_findHeard_34 _ _ _ ?_
    simp only [s_iadd, s_isub, s_imul, s_iand, s_ior, s_ixor, s_ishl, s_ishr, s_iushr, s_idiv, s_irem, s_ladd, s_lsub, s_lmul, s_ldiv, s_lrem, s_ineg, s_i2l, s_l2i, s_i2c, s_lcmp, s_ic, s_lc, s_nul, s_str, s_il, s_ll, s_al, s_dup, s_dup2, s_pop, s_ifne, s_icne, s_ifeq, s_iflt, s_ifge, s_ifgt, s_ifle, s_iceq, s_iclt, s_icge, s_icgt, s_icle, s_ifnull, s_ifnonnull, s_is, s_ls, s_as, s_ii, s_gi, s_gl, s_gr, s_pi, s_pz, s_pl, s_pr, s_iald, s_zald, s_lald, s_aald, s_alen, s_iast, s_zast, s_last, s_iret, s_zret, s_lret, s_aret, s_vret, s_sw, s_aast, mm_sw, mm_ld, mm_s1, mm_s2, mm_kl, Value.category, va_rf, List.nil_append, List.cons_append, Option.toList, true_and, and_true, and_self, true_or, or_true, eq_self, not_true_eq_false, false_implies, true_implies, not_false_eq_true, mm_10, mm_01, false_or, or_false, Nat.left_eq_add, Nat.add_eq_left, Nat.add_left_cancel_iff, Nat.reduceEqDiff, false_and, and_false, reduceIte, mm_kd_pi, mm_ln_pi, mm_gl_pi, mm_gr_pi, mm_sz_pi, mm_gi_pi, mm_kd_pl, mm_ln_pl, mm_gi_pl, mm_gr_pl, mm_sz_pl, mm_gl_pl, mm_kd_pr, mm_ln_pr, mm_gi_pr, mm_gl_pr, mm_sz_pr, mm_gr_pr, mm_kd_pa, mm_ln_pa, mm_gl_pa, mm_gr_pa, mm_sz_pa, mm_gi_pa, W_kd_66 Hg, W_s_66 Hg, W_gr_66_0 Hg, W_gr_66_1 Hg, W_gr_66_2 Hg, W_gr_66_3 Hg, W_gr_66_4 Hg, W_gr_66_5 Hg, W_gr_66_6 Hg, W_gr_66_7 Hg, W_gr_66_8 Hg, W_gr_66_9 Hg, W_gr_66_10 Hg, W_gr_66_11 Hg, W_gr_66_12 Hg, W_kd_4 Hg, W_s_4 Hg, W_gr_4_0 Hg, W_gr_4_2 Hg, W_gr_4_3 Hg, W_gr_4_4 Hg, W_gr_4_7 Hg, W_gr_4_8 Hg, W_gr_4_9 Hg, W_gr_4_11 Hg, W_gr_4_12 Hg, W_gr_4_13 Hg, W_gr_4_15 Hg, hcg.1.1, shl1 (S 0 0) (by omega), eq_true (nI_le (Nat.le_refl (2 ^ S 0 0)) (show 2 ^ S 0 0 < 2 ^ 31 by omega))]
    exact k g F kn hd
  | succ n ih =>
    intro s hb g hs i1 i2 hb8 F k0 kn hd
    have Hg := fx_WS F H
    have hcg := HC_fh F hc
    have s256 : s < 256 := by omega
    have len := hsL_len (pH S A c) s
    -- once known[s] stands
    have chk : ∀ g hb, s + 1 ≤ 2 ^ (hb + 1) → (hb = 0 ∨ 2 ^ hb < s + 1) → hb ≤ 8 → fx xfh y0 h g → mm_gi g 73 0 = nI 0 → (∀ u, u < s + 1 → mm_gi g 73 u = nI (kbF S A c u (S 0 0))) → (∀ i, i < (hsL (pH S A c) s).length → mm_gi g 72 i = nI ((hsL (pH S A c) s).getD i 0)) → mm_V q_X2_findHeard (d + 4) (0, 0) K 107 [some (.ref 66), some (.int (nI c)), some (.int (nI (tbN S 1 (S 0 2)))), some (.int (nI (tbN S 0 (S 0 2)))), some (.int (nI (hsL (pH S A c) s).length)), some (.int (nI hb)), some (.int (nI s))] [] g := by
      intro g hb i1 i2 hb8 F k0 kn hd
      have Hg := fx_WS F H
      have ks := kn s (by omega)
      have kl := kbF_lt (S := S) (A := A) (c := c) (s := s) (S 0 0)
      have td := tdO_iff (S := S) (kn := kbF S A c s (S 0 0)) (fun k hk => (v.2.2.2.1 k hk).2) (S 0 2) (Nat.le_refl _)
      have c1 : ((nI (tbN S 1 (S 0 2)) &&& (nI (kbF S A c s (S 0 0)) ^^^ -1)) = 0) = (tbN S 1 (S 0 2) &&& kbF S A c s (S 0 0) = tbN S 1 (S 0 2)) := by
        rw [i32_sub, nI_and]
        exact propext (nI_eq (by have := and_lt (b := kbF S A c s (S 0 0)) l1; omega) (by omega))
      have c0 : ((nI (tbN S 0 (S 0 2)) &&& nI (kbF S A c s (S 0 0))) = 0) = (tbN S 0 (S 0 2) &&& kbF S A c s (S 0 0) = 0) := by
        rw [nI_and]
        exact propext (nI_eq (b := 0) (by have := and_lt (b := kbF S A c s (S 0 0)) l0; omega) (by decide))
      have no : ¬ pH S A c s → mm_V q_X2_findHeard (d + 4) (0, 0) K 145 [some (.ref 66), some (.int (nI c)), some (.int (nI (tbN S 1 (S 0 2)))), some (.int (nI (tbN S 0 (S 0 2)))), some (.int (nI (hsL (pH S A c) s).length)), some (.int (nI hb)), some (.int (nI s))] [] g := by
        intro z
        refine t_X2_findHeard_145 _ _ _ ?_
        simp only [s_iadd, s_isub, s_imul, s_iand, s_ior, s_ixor, s_ishl, s_ishr, s_iushr, s_idiv, s_irem, s_ladd, s_lsub, s_lmul, s_ldiv, s_lrem, s_ineg, s_i2l, s_l2i, s_i2c, s_lcmp, s_ic, s_lc, s_nul, s_str, s_il, s_ll, s_al, s_dup, s_dup2, s_pop, s_ifne, s_icne, s_ifeq, s_iflt, s_ifge, s_ifgt, s_ifle, s_iceq, s_iclt, s_icge, s_icgt, s_icle, s_ifnull, s_ifnonnull, s_is, s_ls, s_as, s_ii, s_gi, s_gl, s_gr, s_pi, s_pz, s_pl, s_pr, s_iald, s_zald, s_lald, s_aald, s_alen, s_iast, s_zast, s_last, s_iret, s_zret, s_lret, s_aret, s_vret, s_sw, s_aast, mm_sw, mm_ld, mm_s1, mm_s2, mm_kl, Value.category, va_rf, List.nil_append, List.cons_append, Option.toList, true_and, and_true, and_self, true_or, or_true, eq_self, not_true_eq_false, false_implies, true_implies, not_false_eq_true, mm_10, mm_01, false_or, or_false, Nat.left_eq_add, Nat.add_eq_left, Nat.add_left_cancel_iff, Nat.reduceEqDiff, false_and, and_false, reduceIte, mm_kd_pi, mm_ln_pi, mm_gl_pi, mm_gr_pi, mm_sz_pi, mm_gi_pi, mm_kd_pl, mm_ln_pl, mm_gi_pl, mm_gr_pl, mm_sz_pl, mm_gl_pl, mm_kd_pr, mm_ln_pr, mm_gi_pr, mm_gl_pr, mm_sz_pr, mm_gr_pr, mm_kd_pa, mm_ln_pa, mm_gl_pa, mm_gr_pa, mm_sz_pa, mm_gi_pa, nI_1]
        have := ih (s + 1) hb g (by omega) i1 i2 hb8 F k0 kn
        rw [hsL, pif_f z] at this
        exact this hd
      refine t_X2_findHeard_107 _ _ _ ?_
      simp only [s_iadd, s_isub, s_imul, s_iand, s_ior, s_ixor, s_ishl, s_ishr, s_iushr, s_idiv, s_irem, s_ladd, s_lsub, s_lmul, s_ldiv, s_lrem, s_ineg, s_i2l, s_l2i, s_i2c, s_lcmp, s_ic, s_lc, s_nul, s_str, s_il, s_ll, s_al, s_dup, s_dup2, s_pop, s_ifne, s_icne, s_ifeq, s_iflt, s_ifge, s_ifgt, s_ifle, s_iceq, s_iclt, s_icge, s_icgt, s_icle, s_ifnull, s_ifnonnull, s_is, s_ls, s_as, s_ii, s_gi, s_gl, s_gr, s_pi, s_pz, s_pl, s_pr, s_iald, s_zald, s_lald, s_aald, s_alen, s_iast, s_zast, s_last, s_iret, s_zret, s_lret, s_aret, s_vret, s_sw, s_aast, mm_sw, mm_ld, mm_s1, mm_s2, mm_kl, Value.category, va_rf, List.nil_append, List.cons_append, Option.toList, true_and, and_true, and_self, true_or, or_true, eq_self, not_true_eq_false, false_implies, true_implies, not_false_eq_true, mm_10, mm_01, false_or, or_false, Nat.left_eq_add, Nat.add_eq_left, Nat.add_left_cancel_iff, Nat.reduceEqDiff, false_and, and_false, reduceIte, mm_kd_pi, mm_ln_pi, mm_gl_pi, mm_gr_pi, mm_sz_pi, mm_gi_pi, mm_kd_pl, mm_ln_pl, mm_gi_pl, mm_gr_pl, mm_sz_pl, mm_gl_pl, mm_kd_pr, mm_ln_pr, mm_gi_pr, mm_gl_pr, mm_sz_pr, mm_gr_pr, mm_kd_pa, mm_ln_pa, mm_gl_pa, mm_gr_pa, mm_sz_pa, mm_gi_pa, W_kd_66 Hg, W_s_66 Hg, W_gr_66_0 Hg, W_gr_66_1 Hg, W_gr_66_2 Hg, W_gr_66_3 Hg, W_gr_66_4 Hg, W_gr_66_5 Hg, W_gr_66_6 Hg, W_gr_66_7 Hg, W_gr_66_8 Hg, W_gr_66_9 Hg, W_gr_66_10 Hg, W_gr_66_11 Hg, W_gr_66_12 Hg, W_kd_73 Hg, W_s_73 Hg, W_ln_73 Hg, W_kd_72 Hg, W_s_72 Hg, W_ln_72 Hg, nI_clamp (show s < 2 ^ 31 by omega), vp_in_nI s256 (show 256 < 2 ^ 31 by decide), ks, c1, c0, nI_clamp (show (hsL (pH S A c) s).length < 2 ^ 31 by omega), vp_in_nI (show (hsL (pH S A c) s).length < 256 by omega) (show 256 < 2 ^ 31 by decide), nI_1]
      refine ⟨fun z => no (fun y => z (td.mp y).1), fun z1 => ⟨fun z => no (fun y => z (td.mp y).2), fun z2 => ?_⟩⟩
      have yes : pH S A c s := td.mpr ⟨z1, z2⟩
      refine t_X2_findHeard_145 _ _ _ ?_
      simp only [s_iadd, s_isub, s_imul, s_iand, s_ior, s_ixor, s_ishl, s_ishr, s_iushr, s_idiv, s_irem, s_ladd, s_lsub, s_lmul, s_ldiv, s_lrem, s_ineg, s_i2l, s_l2i, s_i2c, s_lcmp, s_ic, s_lc, s_nul, s_str, s_il, s_ll, s_al, s_dup, s_dup2, s_pop, s_ifne, s_icne, s_ifeq, s_iflt, s_ifge, s_ifgt, s_ifle, s_iceq, s_iclt, s_icge, s_icgt, s_icle, s_ifnull, s_ifnonnull, s_is, s_ls, s_as, s_ii, s_gi, s_gl, s_gr, s_pi, s_pz, s_pl, s_pr, s_iald, s_zald, s_lald, s_aald, s_alen, s_iast, s_zast, s_last, s_iret, s_zret, s_lret, s_aret, s_vret, s_sw, s_aast, mm_sw, mm_ld, mm_s1, mm_s2, mm_kl, Value.category, va_rf, List.nil_append, List.cons_append, Option.toList, true_and, and_true, and_self, true_or, or_true, eq_self, not_true_eq_false, false_implies, true_implies, not_false_eq_true, mm_10, mm_01, false_or, or_false, Nat.left_eq_add, Nat.add_eq_left, Nat.add_left_cancel_iff, Nat.reduceEqDiff, false_and, and_false, reduceIte, mm_kd_pi, mm_ln_pi, mm_gl_pi, mm_gr_pi, mm_sz_pi, mm_gi_pi, mm_kd_pl, mm_ln_pl, mm_gi_pl, mm_gr_pl, mm_sz_pl, mm_gl_pl, mm_kd_pr, mm_ln_pr, mm_gi_pr, mm_gl_pr, mm_sz_pr, mm_gr_pr, mm_kd_pa, mm_ln_pa, mm_gl_pa, mm_gr_pa, mm_sz_pa, mm_gi_pa, nI_1]
      have := ih (s + 1) hb (mm_pi g 72 (hsL (pH S A c) s).length (nI s)) (by omega) i1 i2 hb8 (fx_pi (Or.inr (Or.inl rfl)) F) (by rw [mm_gi_pi, if_neg (by omega)]; exact k0) (fun u hu => by rw [mm_gi_pi, if_neg (by omega)]; exact kn u hu)
      rw [hsL, pif_t yes, List.length_append] at this
      refine this (fun i hi => ?_)
      have hi : i < (hsL (pH S A c) s).length + 1 := hi
      rw [mm_gi_pi, getD_app]
      by_cases w : i = (hsL (pH S A c) s).length
      · rw [if_pos ⟨rfl, w⟩, if_neg (by omega), if_pos w]
      · rw [if_neg (fun y => w y.2), if_pos (by omega)]; exact hd i (by omega)
    refine t_X2_findHeard_34 _ _ _ ?_
    by_cases z0 : s = 0
    · subst z0
      simp only [s_iadd, s_isub, s_imul, s_iand, s_ior, s_ixor, s_ishl, s_ishr, s_iushr, s_idiv, s_irem, s_ladd, s_lsub, s_lmul, s_ldiv, s_lrem, s_ineg, s_i2l, s_l2i, s_i2c, s_lcmp, s_ic, s_lc, s_nul, s_str, s_il, s_ll, s_al, s_dup, s_dup2, s_pop, s_ifne, s_icne, s_ifeq, s_iflt, s_ifge, s_ifgt, s_ifle, s_iceq, s_iclt, s_icge, s_icgt, s_icle, s_ifnull, s_ifnonnull, s_is, s_ls, s_as, s_ii, s_gi, s_gl, s_gr, s_pi, s_pz, s_pl, s_pr, s_iald, s_zald, s_lald, s_aald, s_alen, s_iast, s_zast, s_last, s_iret, s_zret, s_lret, s_aret, s_vret, s_sw, s_aast, mm_sw, mm_ld, mm_s1, mm_s2, mm_kl, Value.category, va_rf, List.nil_append, List.cons_append, Option.toList, true_and, and_true, and_self, true_or, or_true, eq_self, not_true_eq_false, false_implies, true_implies, not_false_eq_true, mm_10, mm_01, false_or, or_false, Nat.left_eq_add, Nat.add_eq_left, Nat.add_left_cancel_iff, Nat.reduceEqDiff, false_and, and_false, reduceIte, mm_kd_pi, mm_ln_pi, mm_gl_pi, mm_gr_pi, mm_sz_pi, mm_gi_pi, mm_kd_pl, mm_ln_pl, mm_gi_pl, mm_gr_pl, mm_sz_pl, mm_gl_pl, mm_kd_pr, mm_ln_pr, mm_gi_pr, mm_gl_pr, mm_sz_pr, mm_gr_pr, mm_kd_pa, mm_ln_pa, mm_gl_pa, mm_gr_pa, mm_sz_pa, mm_gi_pa, W_kd_66 Hg, W_s_66 Hg, W_gr_66_0 Hg, W_gr_66_1 Hg, W_gr_66_2 Hg, W_gr_66_3 Hg, W_gr_66_4 Hg, W_gr_66_5 Hg, W_gr_66_6 Hg, W_gr_66_7 Hg, W_gr_66_8 Hg, W_gr_66_9 Hg, W_gr_66_10 Hg, W_gr_66_11 Hg, W_gr_66_12 Hg, W_kd_4 Hg, W_s_4 Hg, W_gr_4_0 Hg, W_gr_4_2 Hg, W_gr_4_3 Hg, W_gr_4_4 Hg, W_gr_4_7 Hg, W_gr_4_8 Hg, W_gr_4_9 Hg, W_gr_4_11 Hg, W_gr_4_12 Hg, W_gr_4_13 Hg, W_gr_4_15 Hg, hcg.1.1, shl1 (S 0 0) (by omega), eq_false (nI_ge (show 0 < 2 ^ S 0 0 by omega) (show 2 ^ S 0 0 < 2 ^ 31 by omega)), show (nI 0 ≤ 0) = True by decide]
      refine chk g hb (by have := Nat.two_pow_pos (hb + 1); omega) ?_ hb8 F k0 (fun u hu => ?_) hd
      · rcases i2 with q | q
        · exact Or.inl q
        · omega
      · obtain rfl : u = 0 := by omega
        rw [k0]
        have : kbF S A c 0 (S 0 0) = 0 := by
          have := kbF_up (S := S) (A := A) (c := c) (s := 0) (m := 0) (by decide) (S 0 0)
          rwa [Nat.zero_add] at this
        rw [this]
    · simp only [s_iadd, s_isub, s_imul, s_iand, s_ior, s_ixor, s_ishl, s_ishr, s_iushr, s_idiv, s_irem, s_ladd, s_lsub, s_lmul, s_ldiv, s_lrem, s_ineg, s_i2l, s_l2i, s_i2c, s_lcmp, s_ic, s_lc, s_nul, s_str, s_il, s_ll, s_al, s_dup, s_dup2, s_pop, s_ifne, s_icne, s_ifeq, s_iflt, s_ifge, s_ifgt, s_ifle, s_iceq, s_iclt, s_icge, s_icgt, s_icle, s_ifnull, s_ifnonnull, s_is, s_ls, s_as, s_ii, s_gi, s_gl, s_gr, s_pi, s_pz, s_pl, s_pr, s_iald, s_zald, s_lald, s_aald, s_alen, s_iast, s_zast, s_last, s_iret, s_zret, s_lret, s_aret, s_vret, s_sw, s_aast, mm_sw, mm_ld, mm_s1, mm_s2, mm_kl, Value.category, va_rf, List.nil_append, List.cons_append, Option.toList, true_and, and_true, and_self, true_or, or_true, eq_self, not_true_eq_false, false_implies, true_implies, not_false_eq_true, mm_10, mm_01, false_or, or_false, Nat.left_eq_add, Nat.add_eq_left, Nat.add_left_cancel_iff, Nat.reduceEqDiff, false_and, and_false, reduceIte, mm_kd_pi, mm_ln_pi, mm_gl_pi, mm_gr_pi, mm_sz_pi, mm_gi_pi, mm_kd_pl, mm_ln_pl, mm_gi_pl, mm_gr_pl, mm_sz_pl, mm_gl_pl, mm_kd_pr, mm_ln_pr, mm_gi_pr, mm_gl_pr, mm_sz_pr, mm_gr_pr, mm_kd_pa, mm_ln_pa, mm_gl_pa, mm_gr_pa, mm_sz_pa, mm_gi_pa, W_kd_66 Hg, W_s_66 Hg, W_gr_66_0 Hg, W_gr_66_1 Hg, W_gr_66_2 Hg, W_gr_66_3 Hg, W_gr_66_4 Hg, W_gr_66_5 Hg, W_gr_66_6 Hg, W_gr_66_7 Hg, W_gr_66_8 Hg, W_gr_66_9 Hg, W_gr_66_10 Hg, W_gr_66_11 Hg, W_gr_66_12 Hg, W_kd_4 Hg, W_s_4 Hg, W_gr_4_0 Hg, W_gr_4_2 Hg, W_gr_4_3 Hg, W_gr_4_4 Hg, W_gr_4_7 Hg, W_gr_4_8 Hg, W_gr_4_9 Hg, W_gr_4_11 Hg, W_gr_4_12 Hg, W_gr_4_13 Hg, W_gr_4_15 Hg, hcg.1.1, shl1 (S 0 0) (by omega), eq_false (nI_ge (show s < 2 ^ S 0 0 by omega) (show 2 ^ S 0 0 < 2 ^ 31 by omega)), eq_false (nI_nle (show 0 < s by omega) (show s < 2 ^ 31 by omega)), nI_1, shr_d s s256 (hb + 1) (by omega), show (nI (s / 2 ^ (hb + 1)) = 0) = (s / 2 ^ (hb + 1) = 0) from propext (nI_eq (b := 0) (by have := Nat.div_le_self s (2 ^ (hb + 1)); omega) (by decide))]
      -- with the highest letter
      have go : ∀ hi, 2 ^ hi ≤ s → s < 2 ^ (hi + 1) → mm_V q_X2_findHeard (d + 4) (0, 0) K 72 [some (.ref 66), some (.int (nI c)), some (.int (nI (tbN S 1 (S 0 2)))), some (.int (nI (tbN S 0 (S 0 2)))), some (.int (nI (hsL (pH S A c) s).length)), some (.int (nI hb)), some (.int (nI s))] [.int (nI hi)] g := by
        intro hi q1 q2
        have hiL : hi < S 0 0 := by
          refine Nat.lt_of_not_le (fun y => ?_)
          have := Nat.pow_le_pow_right (n := 2) (by decide) y
          omega
        have bit : s / 2 ^ hi % 2 = 1 := by
          have : s / 2 ^ hi = 1 := Nat.div_eq_of_lt_le (by omega) (by rw [Nat.pow_succ] at q2; omega)
          rw [this]
        have kp := kn (s - 2 ^ hi) (by have := Nat.two_pow_pos hi; omega)
        refine t_X2_findHeard_72 _ _ _ ?_
        simp only [s_iadd, s_isub, s_imul, s_iand, s_ior, s_ixor, s_ishl, s_ishr, s_iushr, s_idiv, s_irem, s_ladd, s_lsub, s_lmul, s_ldiv, s_lrem, s_ineg, s_i2l, s_l2i, s_i2c, s_lcmp, s_ic, s_lc, s_nul, s_str, s_il, s_ll, s_al, s_dup, s_dup2, s_pop, s_ifne, s_icne, s_ifeq, s_iflt, s_ifge, s_ifgt, s_ifle, s_iceq, s_iclt, s_icge, s_icgt, s_icle, s_ifnull, s_ifnonnull, s_is, s_ls, s_as, s_ii, s_gi, s_gl, s_gr, s_pi, s_pz, s_pl, s_pr, s_iald, s_zald, s_lald, s_aald, s_alen, s_iast, s_zast, s_last, s_iret, s_zret, s_lret, s_aret, s_vret, s_sw, s_aast, mm_sw, mm_ld, mm_s1, mm_s2, mm_kl, Value.category, va_rf, List.nil_append, List.cons_append, Option.toList, true_and, and_true, and_self, true_or, or_true, eq_self, not_true_eq_false, false_implies, true_implies, not_false_eq_true, mm_10, mm_01, false_or, or_false, Nat.left_eq_add, Nat.add_eq_left, Nat.add_left_cancel_iff, Nat.reduceEqDiff, false_and, and_false, reduceIte, mm_kd_pi, mm_ln_pi, mm_gl_pi, mm_gr_pi, mm_sz_pi, mm_gi_pi, mm_kd_pl, mm_ln_pl, mm_gi_pl, mm_gr_pl, mm_sz_pl, mm_gl_pl, mm_kd_pr, mm_ln_pr, mm_gi_pr, mm_gl_pr, mm_sz_pr, mm_gr_pr, mm_kd_pa, mm_ln_pa, mm_gl_pa, mm_gr_pa, mm_sz_pa, mm_gi_pa, W_kd_66 Hg, W_s_66 Hg, W_gr_66_0 Hg, W_gr_66_1 Hg, W_gr_66_2 Hg, W_gr_66_3 Hg, W_gr_66_4 Hg, W_gr_66_5 Hg, W_gr_66_6 Hg, W_gr_66_7 Hg, W_gr_66_8 Hg, W_gr_66_9 Hg, W_gr_66_10 Hg, W_gr_66_11 Hg, W_gr_66_12 Hg, W_kd_73 Hg, W_s_73 Hg, W_ln_73 Hg, shl1 hi (by omega), nI_xor, xor_d s s256 hi (by omega) bit, nI_clamp (show s - 2 ^ hi < 2 ^ 31 by omega), vp_in_nI (show s - 2 ^ hi < 256 by omega) (show 256 < 2 ^ 31 by decide), kp]
        refine c_X2_findHeard_103 (bb := (0, 0)) (b := (0, 0)) (Nat.le_of_ble_eq_true rfl) ⟨rfl, rfl⟩ (W_kd_1 Hg) (W_s_1 Hg) (sp_takeUp Hg (W_h4 Hg) (by decide) v hcg (CAL_x F (fun c j hc => by unfold xfh xC; omega) rfl rfl hA) hcc hiL (kbF_lt (S 0 0)) (fun g' F' => ?_))
        have Hg' := fx_WS F' Hg
        refine t_X2_findHeard_106 _ _ _ ?_
        simp only [s_iadd, s_isub, s_imul, s_iand, s_ior, s_ixor, s_ishl, s_ishr, s_iushr, s_idiv, s_irem, s_ladd, s_lsub, s_lmul, s_ldiv, s_lrem, s_ineg, s_i2l, s_l2i, s_i2c, s_lcmp, s_ic, s_lc, s_nul, s_str, s_il, s_ll, s_al, s_dup, s_dup2, s_pop, s_ifne, s_icne, s_ifeq, s_iflt, s_ifge, s_ifgt, s_ifle, s_iceq, s_iclt, s_icge, s_icgt, s_icle, s_ifnull, s_ifnonnull, s_is, s_ls, s_as, s_ii, s_gi, s_gl, s_gr, s_pi, s_pz, s_pl, s_pr, s_iald, s_zald, s_lald, s_aald, s_alen, s_iast, s_zast, s_last, s_iret, s_zret, s_lret, s_aret, s_vret, s_sw, s_aast, mm_sw, mm_ld, mm_s1, mm_s2, mm_kl, Value.category, va_rf, List.nil_append, List.cons_append, Option.toList, true_and, and_true, and_self, true_or, or_true, eq_self, not_true_eq_false, false_implies, true_implies, not_false_eq_true, mm_10, mm_01, false_or, or_false, Nat.left_eq_add, Nat.add_eq_left, Nat.add_left_cancel_iff, Nat.reduceEqDiff, false_and, and_false, reduceIte, mm_kd_pi, mm_ln_pi, mm_gl_pi, mm_gr_pi, mm_sz_pi, mm_gi_pi, mm_kd_pl, mm_ln_pl, mm_gi_pl, mm_gr_pl, mm_sz_pl, mm_gl_pl, mm_kd_pr, mm_ln_pr, mm_gi_pr, mm_gl_pr, mm_sz_pr, mm_gr_pr, mm_kd_pa, mm_ln_pa, mm_gl_pa, mm_gr_pa, mm_sz_pa, mm_gi_pa, W_kd_73 Hg', W_s_73 Hg', W_ln_73 Hg', nI_clamp (show s < 2 ^ 31 by omega), vp_in_nI s256 (show 256 < 2 ^ 31 by decide)]
        have e73 : ∀ u, mm_gi g' 73 u = mm_gi g 73 u := fun u => F'.2.1 73 u (by unfold xC; omega)
        refine chk _ hi (by omega) ?_ (by omega) (fx_pi (Or.inr (Or.inr rfl)) (fx_tr F (fx_mo (fun c j z => Or.inl z) (fun c z => z) F'))) (by rw [mm_gi_pi, if_neg (by omega), e73]; exact k0) (fun u hu => ?_) (fun i hi => by rw [mm_gi_pi, if_neg (by omega), F'.2.1 72 i (by unfold xC; omega)]; exact hd i hi)
        · by_cases w : hi = 0
          · exact Or.inl w
          · exact Or.inr (by omega)
        · by_cases w : u = s
          · subst w
            rw [mm_gi_pi, if_pos ⟨rfl, rfl⟩, kbF_hi q1 q2 hiL]
          · rw [mm_gi_pi, if_neg (by omega), e73]; exact kn u (by omega)
      refine ⟨fun w => ?_, fun w => ?_⟩
      · have ge : 2 ^ (hb + 1) ≤ s := Nat.le_of_not_lt (fun y => w (Nat.div_eq_of_lt y))
        exact go (hb + 1) ge (by rw [Nat.pow_succ 2 (hb + 1)]; have := Nat.two_pow_pos (hb + 1); omega)
      · have lt : s < 2 ^ (hb + 1) := by
          refine Nat.lt_of_not_le (fun y => ?_)
          have := Nat.div_pos y (Nat.two_pow_pos (hb + 1))
          omega
        refine go hb ?_ lt
        rcases i2 with q | q
        · rw [q]; show 1 ≤ s; omega
        · omega
theorem sp_findHeard (H : WS h) (v : HV S) (hc : HC h 4 S) (hA : CAL h 4 S A) (hcc : c < S 0 1) (k : ∀ g, fx xfh y0 h g → (∀ s, s < 2 ^ S 0 0 → mm_gi g 73 s = nI (kbF S A c s (S 0 0))) → (∀ i, i < (hsL (pH S A c) (2 ^ S 0 0)).length → mm_gi g 72 i = nI ((hsL (pH S A c) (2 ^ S 0 0)).getD i 0)) → K (some (.int (nI (hsL (pH S A c) (2 ^ S 0 0)).length))) g) : mm_MV q_X2_findHeard (d + 4) (0, 0) [.ref 66, .int (nI c)] h K := by
  have v3 := v.1.2.2.1
  refine e_X2_findHeard (t_X2_findHeard_0 _ _ _ ?_)
  simp only [s_iadd, s_isub, s_imul, s_iand, s_ior, s_ixor, s_ishl, s_ishr, s_iushr, s_idiv, s_irem, s_ladd, s_lsub, s_lmul, s_ldiv, s_lrem, s_ineg, s_i2l, s_l2i, s_i2c, s_lcmp, s_ic, s_lc, s_nul, s_str, s_il, s_ll, s_al, s_dup, s_dup2, s_pop, s_ifne, s_icne, s_ifeq, s_iflt, s_ifge, s_ifgt, s_ifle, s_iceq, s_iclt, s_icge, s_icgt, s_icle, s_ifnull, s_ifnonnull, s_is, s_ls, s_as, s_ii, s_gi, s_gl, s_gr, s_pi, s_pz, s_pl, s_pr, s_iald, s_zald, s_lald, s_aald, s_alen, s_iast, s_zast, s_last, s_iret, s_zret, s_lret, s_aret, s_vret, s_sw, s_aast, mm_sw, mm_ld, mm_s1, mm_s2, mm_kl, Value.category, va_rf, List.nil_append, List.cons_append, Option.toList, true_and, and_true, and_self, true_or, or_true, eq_self, not_true_eq_false, false_implies, true_implies, not_false_eq_true, mm_10, mm_01, false_or, or_false, Nat.left_eq_add, Nat.add_eq_left, Nat.add_left_cancel_iff, Nat.reduceEqDiff, false_and, and_false, reduceIte, mm_kd_pi, mm_ln_pi, mm_gl_pi, mm_gr_pi, mm_sz_pi, mm_gi_pi, mm_kd_pl, mm_ln_pl, mm_gi_pl, mm_gr_pl, mm_sz_pl, mm_gl_pl, mm_kd_pr, mm_ln_pr, mm_gi_pr, mm_gl_pr, mm_sz_pr, mm_gr_pr, mm_kd_pa, mm_ln_pa, mm_gl_pa, mm_gr_pa, mm_sz_pa, mm_gi_pa, W_kd_66 H, W_s_66 H, W_gr_66_0 H, W_gr_66_1 H, W_gr_66_2 H, W_gr_66_3 H, W_gr_66_4 H, W_gr_66_5 H, W_gr_66_6 H, W_gr_66_7 H, W_gr_66_8 H, W_gr_66_9 H, W_gr_66_10 H, W_gr_66_11 H, W_gr_66_12 H]
  refine c_X2_findHeard_5 (bb := (0, 0)) (b := (0, 0)) (Nat.le_of_ble_eq_true rfl) ⟨rfl, rfl⟩ (W_kd_4 H) (W_s_4 H) (sp_toldBits (W_h4 H) hc.1.2.2.1 v3 ?_)
  rw [show tbits h 4 1 (S 0 2) = nI (tbN S 1 (S 0 2)) from tbits_N v hc (b := 1) (by decide) _ (Nat.le_refl _)]
  refine t_X2_findHeard_8 _ _ _ ?_
  simp only [s_iadd, s_isub, s_imul, s_iand, s_ior, s_ixor, s_ishl, s_ishr, s_iushr, s_idiv, s_irem, s_ladd, s_lsub, s_lmul, s_ldiv, s_lrem, s_ineg, s_i2l, s_l2i, s_i2c, s_lcmp, s_ic, s_lc, s_nul, s_str, s_il, s_ll, s_al, s_dup, s_dup2, s_pop, s_ifne, s_icne, s_ifeq, s_iflt, s_ifge, s_ifgt, s_ifle, s_iceq, s_iclt, s_icge, s_icgt, s_icle, s_ifnull, s_ifnonnull, s_is, s_ls, s_as, s_ii, s_gi, s_gl, s_gr, s_pi, s_pz, s_pl, s_pr, s_iald, s_zald, s_lald, s_aald, s_alen, s_iast, s_zast, s_last, s_iret, s_zret, s_lret, s_aret, s_vret, s_sw, s_aast, mm_sw, mm_ld, mm_s1, mm_s2, mm_kl, Value.category, va_rf, List.nil_append, List.cons_append, Option.toList, true_and, and_true, and_self, true_or, or_true, eq_self, not_true_eq_false, false_implies, true_implies, not_false_eq_true, mm_10, mm_01, false_or, or_false, Nat.left_eq_add, Nat.add_eq_left, Nat.add_left_cancel_iff, Nat.reduceEqDiff, false_and, and_false, reduceIte, mm_kd_pi, mm_ln_pi, mm_gl_pi, mm_gr_pi, mm_sz_pi, mm_gi_pi, mm_kd_pl, mm_ln_pl, mm_gi_pl, mm_gr_pl, mm_sz_pl, mm_gl_pl, mm_kd_pr, mm_ln_pr, mm_gi_pr, mm_gl_pr, mm_sz_pr, mm_gr_pr, mm_kd_pa, mm_ln_pa, mm_gl_pa, mm_gr_pa, mm_sz_pa, mm_gi_pa, W_kd_66 H, W_s_66 H, W_gr_66_0 H, W_gr_66_1 H, W_gr_66_2 H, W_gr_66_3 H, W_gr_66_4 H, W_gr_66_5 H, W_gr_66_6 H, W_gr_66_7 H, W_gr_66_8 H, W_gr_66_9 H, W_gr_66_10 H, W_gr_66_11 H, W_gr_66_12 H]
  refine c_X2_findHeard_14 (bb := (0, 0)) (b := (0, 0)) (Nat.le_of_ble_eq_true rfl) ⟨rfl, rfl⟩ (W_kd_4 H) (W_s_4 H) (sp_toldBits (W_h4 H) hc.1.2.2.1 v3 ?_)
  rw [show tbits h 4 0 (S 0 2) = nI (tbN S 0 (S 0 2)) from tbits_N v hc (b := 0) (by decide) _ (Nat.le_refl _)]
  refine t_X2_findHeard_17 _ _ _ ?_
  simp only [s_iadd, s_isub, s_imul, s_iand, s_ior, s_ixor, s_ishl, s_ishr, s_iushr, s_idiv, s_irem, s_ladd, s_lsub, s_lmul, s_ldiv, s_lrem, s_ineg, s_i2l, s_l2i, s_i2c, s_lcmp, s_ic, s_lc, s_nul, s_str, s_il, s_ll, s_al, s_dup, s_dup2, s_pop, s_ifne, s_icne, s_ifeq, s_iflt, s_ifge, s_ifgt, s_ifle, s_iceq, s_iclt, s_icge, s_icgt, s_icle, s_ifnull, s_ifnonnull, s_is, s_ls, s_as, s_ii, s_gi, s_gl, s_gr, s_pi, s_pz, s_pl, s_pr, s_iald, s_zald, s_lald, s_aald, s_alen, s_iast, s_zast, s_last, s_iret, s_zret, s_lret, s_aret, s_vret, s_sw, s_aast, mm_sw, mm_ld, mm_s1, mm_s2, mm_kl, Value.category, va_rf, List.nil_append, List.cons_append, Option.toList, true_and, and_true, and_self, true_or, or_true, eq_self, not_true_eq_false, false_implies, true_implies, not_false_eq_true, mm_10, mm_01, false_or, or_false, Nat.left_eq_add, Nat.add_eq_left, Nat.add_left_cancel_iff, Nat.reduceEqDiff, false_and, and_false, reduceIte, mm_kd_pi, mm_ln_pi, mm_gl_pi, mm_gr_pi, mm_sz_pi, mm_gi_pi, mm_kd_pl, mm_ln_pl, mm_gi_pl, mm_gr_pl, mm_sz_pl, mm_gl_pl, mm_kd_pr, mm_ln_pr, mm_gi_pr, mm_gl_pr, mm_sz_pr, mm_gr_pr, mm_kd_pa, mm_ln_pa, mm_gl_pa, mm_gr_pa, mm_sz_pa, mm_gi_pa, W_kd_66 H, W_s_66 H, W_gr_66_0 H, W_gr_66_1 H, W_gr_66_2 H, W_gr_66_3 H, W_gr_66_4 H, W_gr_66_5 H, W_gr_66_6 H, W_gr_66_7 H, W_gr_66_8 H, W_gr_66_9 H, W_gr_66_10 H, W_gr_66_11 H, W_gr_66_12 H, W_kd_73 H, W_s_73 H, W_ln_73 H, show (0 : Int32).toNatClampNeg = 0 from rfl, show vp_in (0 : Int32) 256 from vp_in_nI (n := 0) (by decide) (by decide)]
  exact fh_go H v hc hA hcc k (2 ^ S 0 0) 0 0 (mm_pi h 73 0 0) (by omega) (by decide) (Or.inl rfl) (by decide) (fx_pi (Or.inr (Or.inr rfl)) fx_rf) (by rw [mm_gi_pi, if_pos ⟨rfl, rfl⟩]; rfl) (fun u hu => by omega) (fun i hi => by cases hi)
end
