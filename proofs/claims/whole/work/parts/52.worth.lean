/-! the class: what an answer is worth -/
theorem e_X0_worthOf_n {d : Nat} {b : Nat × Nat} {Q : Option Value → mmH → Prop} {h : mmH} {a0 x1 : Nat} {x3 x4 : Int32} (k : mm_V q_X0_worthOf d b Q 0 [some (.ref a0), some (.ref x1), some .null, some (.int x3), some (.int x4), none, none] [] h) : mm_MV q_X0_worthOf d b [.ref a0, .ref x1, .null, .int x3, .int x4] h Q := mm_of mf_X0_worthOf.2.2.2.2.2 (Nat.le_of_ble_eq_true rfl) k
theorem ti_99 : (99 : Int32).toInt = 99 := by decide
theorem clp_32 {x : Int} (hx : xB x) : (if (0 : Int32) < (if i32 x < 99 then i32 x else 99) then (if i32 x < 99 then i32 x else 99) else 0) = nI (clp x) := by
  have e := i32_toInt hx
  have f1 : (i32 x < 99) ↔ x < 99 := by rw [Int32.lt_iff_toInt_lt, e, ti_99]
  have f2 : ((0 : Int32) < i32 x) ↔ 0 < x := by rw [Int32.lt_iff_toInt_lt, e, ti_0]
  unfold clp
  by_cases z : x < 99
  · rw [if_pos (f1.mpr z)]
    by_cases y : 0 < x
    · rw [if_pos (f2.mpr y), if_neg (by omega), if_neg (by omega), ← i32_nat]
      congr 1
      omega
    · rw [if_neg (fun q => y (f2.mp q))]
      by_cases w : x < 0
      · rw [if_pos w]; rfl
      · rw [if_neg w, if_neg (by omega), show x.toNat = 0 by omega]; rfl
  · rw [if_neg (fun q => z (f1.mp q)), if_pos (by decide), if_neg (by omega)]
    by_cases w : 99 < x
    · rw [if_pos w]; rfl
    · rw [if_neg w, show x.toNat = 99 by omega]; rfl
theorem clp_le (x : Int) : clp x ≤ 99 := by
  unfold clp
  split
  · omega
  · split <;> omega
section
variable {d : Nat} {h : mmH} {a : Nat} {S : HSt} {K : Option Value → mmH → Prop} {c l : Nat} {A : Option lwD}
/-- served -/
theorem wo_114 {v2 : Option Value} {v5 v6 : Option Value} (Ha : hsh h a) (v : HV S) (hc : HC h a S) (hcc : c < S 0 1) (hl : l < S 0 0) (k : K (some (.int (nI (pop (S 5 l &&& S 1 c))))) h) : mm_V q_X0_worthOf (d + 1) (0, 0) K 114 [some (.ref 1), some (.ref a), v2, some (.int (nI c)), some (.int (nI l)), v5, v6] [] h := by
  obtain ⟨h1, h2, h3, h4⟩ := id Ha
  have c6 : c < 6 := by have := v.1.2.1; omega
  have l8 : l < 8 := by have := v.1.1; omega
  refine t_X0_worthOf_114 _ _ _ ?_
  simp only [s_iadd, s_isub, s_imul, s_iand, s_ior, s_ixor, s_ishl, s_ishr, s_iushr, s_idiv, s_irem, s_ladd, s_lsub, s_lmul, s_ldiv, s_lrem, s_ineg, s_i2l, s_l2i, s_i2c, s_lcmp, s_ic, s_lc, s_nul, s_str, s_il, s_ll, s_al, s_dup, s_dup2, s_pop, s_ifne, s_icne, s_ifeq, s_iflt, s_ifge, s_ifgt, s_ifle, s_iceq, s_iclt, s_icge, s_icgt, s_icle, s_ifnull, s_ifnonnull, s_is, s_ls, s_as, s_ii, s_gi, s_gl, s_gr, s_pi, s_pz, s_pl, s_pr, s_iald, s_zald, s_lald, s_aald, s_alen, s_iast, s_zast, s_last, s_iret, s_zret, s_lret, s_aret, s_vret, s_sw, s_aast, mm_sw, mm_ld, mm_s1, mm_s2, mm_kl, Value.category, va_rf, List.nil_append, List.cons_append, Option.toList, true_and, and_true, and_self, true_or, or_true, eq_self, not_true_eq_false, false_implies, true_implies, not_false_eq_true, mm_10, mm_01, false_or, or_false, Nat.left_eq_add, Nat.add_eq_left, Nat.add_left_cancel_iff, Nat.reduceEqDiff, false_and, and_false, reduceIte, mm_kd_pi, mm_ln_pi, mm_gl_pi, mm_gr_pi, mm_sz_pi, mm_gi_pi, mm_kd_pl, mm_ln_pl, mm_gi_pl, mm_gr_pl, mm_sz_pl, mm_gl_pl, mm_kd_pr, mm_ln_pr, mm_gi_pr, mm_gl_pr, mm_sz_pr, mm_gr_pr, mm_kd_pa, mm_ln_pa, mm_gl_pa, mm_gr_pa, mm_sz_pa, mm_gi_pa, h1, h2, h3, h4, hsz0 Ha, hsz Ha (show 2 ≤ 10 by decide), hsz Ha (show 4 ≤ 10 by decide), vp_in_nI c6 (show 6 < 2 ^ 31 by decide), nI_clamp (show c < 2 ^ 31 by omega), vp_in_nI l8 (show 8 < 2 ^ 31 by decide), nI_clamp (show l < 2 ^ 31 by omega), (hc.2.1 c hcc).1, (hc.2.2.1 l hl).2.1, nI_and]
  refine c_X0_worthOf_128 (bb := (0, 0)) (b := (0, 0)) (Nat.le_of_ble_eq_true rfl) ⟨rfl, rfl⟩ (sp_bitCount (and_lt (v.2.2.1 l hl).2.1) ?_)
  refine t_X0_worthOf_131 _ _ _ ?_
  simp only [s_iadd, s_isub, s_imul, s_iand, s_ior, s_ixor, s_ishl, s_ishr, s_iushr, s_idiv, s_irem, s_ladd, s_lsub, s_lmul, s_ldiv, s_lrem, s_ineg, s_i2l, s_l2i, s_i2c, s_lcmp, s_ic, s_lc, s_nul, s_str, s_il, s_ll, s_al, s_dup, s_dup2, s_pop, s_ifne, s_icne, s_ifeq, s_iflt, s_ifge, s_ifgt, s_ifle, s_iceq, s_iclt, s_icge, s_icgt, s_icle, s_ifnull, s_ifnonnull, s_is, s_ls, s_as, s_ii, s_gi, s_gl, s_gr, s_pi, s_pz, s_pl, s_pr, s_iald, s_zald, s_lald, s_aald, s_alen, s_iast, s_zast, s_last, s_iret, s_zret, s_lret, s_aret, s_vret, s_sw, s_aast, mm_sw, mm_ld, mm_s1, mm_s2, mm_kl, Value.category, va_rf, List.nil_append, List.cons_append, Option.toList, true_and, and_true, and_self, true_or, or_true, eq_self, not_true_eq_false, false_implies, true_implies, not_false_eq_true, mm_10, mm_01, false_or, or_false, Nat.left_eq_add, Nat.add_eq_left, Nat.add_left_cancel_iff, Nat.reduceEqDiff, false_and, and_false, reduceIte, mm_kd_pi, mm_ln_pi, mm_gl_pi, mm_gr_pi, mm_sz_pi, mm_gi_pi, mm_kd_pl, mm_ln_pl, mm_gi_pl, mm_gr_pl, mm_sz_pl, mm_gl_pl, mm_kd_pr, mm_ln_pr, mm_gi_pr, mm_gl_pr, mm_sz_pr, mm_gr_pr, mm_kd_pa, mm_ln_pa, mm_gl_pa, mm_gr_pa, mm_sz_pa, mm_gi_pa]
  exact k
theorem lp_worth {L : lwD} {t : Nat} {E : xE} (H : WS h) (Ha : hsh h a) (ha : 4 ≤ a) (v : HV S) (hc : HC h a S) (hcc : c < S 0 1) (hl : l < S 0 0) (ht : 122 ≤ t) (C : CLW h t L) (hE : xOk 10 E) (hW : ∀ j, j < 10 → mm_gi h 2 j = i32 (E j))
    (k : ∀ g, fx xC y0 h g → K (some (.int (nI (aW (some L) E (pop (S 5 l &&& S 1 c)))))) g) :
    ∀ n g v6, n ≤ L.1 → lwW L E L.1 = lwW L E n → fx xC y0 h g → (∀ j, j < 10 → mm_gi g 2 j = i32 (E j)) → mm_V q_X0_worthOf (d + 2) (0, 0) K 33 [some (.ref 1), some (.ref a), some (.ref t), some (.int (nI c)), some (.int (nI l)), some (.int (nI n - 1)), v6] [] g := by
  obtain ⟨n', m, sz, I, TP, l1, l2, l3, l4⟩ := id C
  have a2 := TP.2.2.2.1
  have a3 := TP.2.2.2.2.1
  have txs : ∀ g, fx xC y0 h g → TXP g t n' m sz I := fun g F => TXP_fx F (fun c j c1 c2 => by unfold xC; omega) TP
  have rd : ∀ g, fx xC y0 h g → ∀ i j, i ≤ 7 → mm_gi g (t + i) j = mm_gi h (t + i) j := fun g F i j hi => F.2.1 _ j (by unfold xC; omega)
  have hw2 : ∀ g g', fx xS y0 g g' → (∀ j, j < 10 → mm_gi g 2 j = i32 (E j)) → ∀ j, j < 10 → mm_gi g' 2 j = i32 (E j) := fun g g' F' hw j hj => by rw [F'.2.1 2 j (by unfold xS; decide)]; exact hw j hj
  intro n
  induction n with
  | zero =>
    intro g v6 hn hL F hw
    refine t_X0_worthOf_33 _ _ _ ?_
    simp only [s_iadd, s_isub, s_imul, s_iand, s_ior, s_ixor, s_ishl, s_ishr, s_iushr, s_idiv, s_irem, s_ladd, s_lsub, s_lmul, s_ldiv, s_lrem, s_ineg, s_i2l, s_l2i, s_i2c, s_lcmp, s_ic, s_lc, s_nul, s_str, s_il, s_ll, s_al, s_dup, s_dup2, s_pop, s_ifne, s_icne, s_ifeq, s_iflt, s_ifge, s_ifgt, s_ifle, s_iceq, s_iclt, s_icge, s_icgt, s_icle, s_ifnull, s_ifnonnull, s_is, s_ls, s_as, s_ii, s_gi, s_gl, s_gr, s_pi, s_pz, s_pl, s_pr, s_iald, s_zald, s_lald, s_aald, s_alen, s_iast, s_zast, s_last, s_iret, s_zret, s_lret, s_aret, s_vret, s_sw, s_aast, mm_sw, mm_ld, mm_s1, mm_s2, mm_kl, Value.category, va_rf, List.nil_append, List.cons_append, Option.toList, true_and, and_true, and_self, true_or, or_true, eq_self, not_true_eq_false, false_implies, true_implies, not_false_eq_true, mm_10, mm_01, false_or, or_false, Nat.left_eq_add, Nat.add_eq_left, Nat.add_left_cancel_iff, Nat.reduceEqDiff, false_and, and_false, reduceIte, mm_kd_pi, mm_ln_pi, mm_gl_pi, mm_gr_pi, mm_sz_pi, mm_gi_pi, mm_kd_pl, mm_ln_pl, mm_gi_pl, mm_gr_pl, mm_sz_pl, mm_gl_pl, mm_kd_pr, mm_ln_pr, mm_gi_pr, mm_gl_pr, mm_sz_pr, mm_gr_pr, mm_kd_pa, mm_ln_pa, mm_gl_pa, mm_gr_pa, mm_sz_pa, mm_gi_pa, show (nI 0 - 1 : Int32) = -1 from rfl, show ((-1 : Int32) < 0) = True by decide]
    refine wo_114 (fx_hsh F Ha) v (HC_fx ha F hc) hcc hl ?_
    have := k g F
    rw [aW, hL, lwW] at this
    exact this
  | succ n ih =>
    intro g v6 hn hL F hw
    have TT := (txs g F).1
    obtain ⟨T1, T2, T3, T4⟩ := id TT
    obtain ⟨⟨q1, q2⟩, q3, q4⟩ := l4 n (by omega)
    have z1 : mm_gi g (t + 1) n = nI (L.2.1 n) := (rd g F 1 n (by decide)).trans q1
    have z5 : mm_gi g (t + 5) n = mm_gi h (t + 5) n := rd g F 5 n (by decide)
    have next : ∀ g v6, fx xC y0 h g → (∀ j, j < 10 → mm_gi g 2 j = i32 (E j)) → ¬ (L.2.1 n = 0 ∧ L.2.2.1 n E = some 1 ∧ L.2.2.2 n E ≠ none) → mm_V q_X0_worthOf (d + 2) (0, 0) K 108 [some (.ref 1), some (.ref a), some (.ref t), some (.int (nI c)), some (.int (nI l)), some (.int (nI n)), v6] [] g := by
      intro g v6 F hw z
      refine t_X0_worthOf_108 _ _ _ ?_
      simp only [s_iadd, s_isub, s_imul, s_iand, s_ior, s_ixor, s_ishl, s_ishr, s_iushr, s_idiv, s_irem, s_ladd, s_lsub, s_lmul, s_ldiv, s_lrem, s_ineg, s_i2l, s_l2i, s_i2c, s_lcmp, s_ic, s_lc, s_nul, s_str, s_il, s_ll, s_al, s_dup, s_dup2, s_pop, s_ifne, s_icne, s_ifeq, s_iflt, s_ifge, s_ifgt, s_ifle, s_iceq, s_iclt, s_icge, s_icgt, s_icle, s_ifnull, s_ifnonnull, s_is, s_ls, s_as, s_ii, s_gi, s_gl, s_gr, s_pi, s_pz, s_pl, s_pr, s_iald, s_zald, s_lald, s_aald, s_alen, s_iast, s_zast, s_last, s_iret, s_zret, s_lret, s_aret, s_vret, s_sw, s_aast, mm_sw, mm_ld, mm_s1, mm_s2, mm_kl, Value.category, va_rf, List.nil_append, List.cons_append, Option.toList, true_and, and_true, and_self, true_or, or_true, eq_self, not_true_eq_false, false_implies, true_implies, not_false_eq_true, mm_10, mm_01, false_or, or_false, Nat.left_eq_add, Nat.add_eq_left, Nat.add_left_cancel_iff, Nat.reduceEqDiff, false_and, and_false, reduceIte, mm_kd_pi, mm_ln_pi, mm_gl_pi, mm_gr_pi, mm_sz_pi, mm_gi_pi, mm_kd_pl, mm_ln_pl, mm_gi_pl, mm_gr_pl, mm_sz_pl, mm_gl_pl, mm_kd_pr, mm_ln_pr, mm_gi_pr, mm_gl_pr, mm_sz_pr, mm_gr_pr, mm_kd_pa, mm_ln_pa, mm_gl_pa, mm_gr_pa, mm_sz_pa, mm_gi_pa, show nI n + -1 = nI n - 1 by rw [Int32.sub_eq_add_neg]]
      refine ih g v6 (by omega) ?_ F hw
      rw [hL, lwW, if_neg z]
    have yes : ∀ g v6, fx xC y0 h g → (∀ j, j < 10 → mm_gi g 2 j = i32 (E j)) → L.2.1 n = 0 → L.2.2.1 n E = some 1 → mm_V q_X0_worthOf (d + 2) (0, 0) K 75 [some (.ref 1), some (.ref a), some (.ref t), some (.int (nI c)), some (.int (nI l)), some (.int (nI n)), v6] [] g := by
      intro g v6 F hw y1 y2
      have TT := (txs g F).1
      obtain ⟨T1, T2, T3, T4⟩ := id TT
      obtain ⟨p, q, w, r1, r2, r3, r4, r5⟩ := q4 y1
      have z2 : mm_gi g (t + 2) n = nI p := (rd g F 2 n (by decide)).trans r1
      refine t_X0_worthOf_75 _ _ _ ?_
      simp only [s_iadd, s_isub, s_imul, s_iand, s_ior, s_ixor, s_ishl, s_ishr, s_iushr, s_idiv, s_irem, s_ladd, s_lsub, s_lmul, s_ldiv, s_lrem, s_ineg, s_i2l, s_l2i, s_i2c, s_lcmp, s_ic, s_lc, s_nul, s_str, s_il, s_ll, s_al, s_dup, s_dup2, s_pop, s_ifne, s_icne, s_ifeq, s_iflt, s_ifge, s_ifgt, s_ifle, s_iceq, s_iclt, s_icge, s_icgt, s_icle, s_ifnull, s_ifnonnull, s_is, s_ls, s_as, s_ii, s_gi, s_gl, s_gr, s_pi, s_pz, s_pl, s_pr, s_iald, s_zald, s_lald, s_aald, s_alen, s_iast, s_zast, s_last, s_iret, s_zret, s_lret, s_aret, s_vret, s_sw, s_aast, mm_sw, mm_ld, mm_s1, mm_s2, mm_kl, Value.category, va_rf, List.nil_append, List.cons_append, Option.toList, true_and, and_true, and_self, true_or, or_true, eq_self, not_true_eq_false, false_implies, true_implies, not_false_eq_true, mm_10, mm_01, false_or, or_false, Nat.left_eq_add, Nat.add_eq_left, Nat.add_left_cancel_iff, Nat.reduceEqDiff, false_and, and_false, reduceIte, mm_kd_pi, mm_ln_pi, mm_gl_pi, mm_gr_pi, mm_sz_pi, mm_gi_pi, mm_kd_pl, mm_ln_pl, mm_gi_pl, mm_gr_pl, mm_sz_pl, mm_gl_pl, mm_kd_pr, mm_ln_pr, mm_gi_pr, mm_gl_pr, mm_sz_pr, mm_gr_pr, mm_kd_pa, mm_ln_pa, mm_gl_pa, mm_gr_pa, mm_sz_pa, mm_gi_pa, T1, T2, T3, T4, W_kd_1 (fx_WS F H), W_s_1 (fx_WS F H), W_gr_1_0 (fx_WS F H), W_gr_1_1 (fx_WS F H), txz0 TT, txz TT (show 2 ≤ 7 by decide), nI_clamp (show n < 2 ^ 31 by omega), vp_in_nI (show n < n' by omega) (show n' < 2 ^ 31 by omega), z2]
      refine c_X0_worthOf_84 (bb := (0, 0)) (b := (0, 0)) (Nat.le_of_ble_eq_true rfl) ⟨rfl, rfl⟩ (W_kd_1 (fx_WS F H)) (W_s_1 (fx_WS F H)) (sp_reckon (fx_WS F H) (txs g F) hE hw (by decide) r5 r4 r2 r3 (fun g' x F' e b => ?_) (fun g' F' e => ?_)) <;> refine t_X0_worthOf_87 _ _ _ ?_
      · have F2 := fx_tr F (xC_S F')
        have ne : ¬ i32 x = 1000000001 := fun z => by
          have := congrArg Int32.toInt z
          rw [i32_toInt b, show (1000000001 : Int32).toInt = 1000000001 by decide] at this
          unfold xB at b
          omega
        simp only [s_iadd, s_isub, s_imul, s_iand, s_ior, s_ixor, s_ishl, s_ishr, s_iushr, s_idiv, s_irem, s_ladd, s_lsub, s_lmul, s_ldiv, s_lrem, s_ineg, s_i2l, s_l2i, s_i2c, s_lcmp, s_ic, s_lc, s_nul, s_str, s_il, s_ll, s_al, s_dup, s_dup2, s_pop, s_ifne, s_icne, s_ifeq, s_iflt, s_ifge, s_ifgt, s_ifle, s_iceq, s_iclt, s_icge, s_icgt, s_icle, s_ifnull, s_ifnonnull, s_is, s_ls, s_as, s_ii, s_gi, s_gl, s_gr, s_pi, s_pz, s_pl, s_pr, s_iald, s_zald, s_lald, s_aald, s_alen, s_iast, s_zast, s_last, s_iret, s_zret, s_lret, s_aret, s_vret, s_sw, s_aast, mm_sw, mm_ld, mm_s1, mm_s2, mm_kl, Value.category, va_rf, List.nil_append, List.cons_append, Option.toList, true_and, and_true, and_self, true_or, or_true, eq_self, not_true_eq_false, false_implies, true_implies, not_false_eq_true, mm_10, mm_01, false_or, or_false, Nat.left_eq_add, Nat.add_eq_left, Nat.add_left_cancel_iff, Nat.reduceEqDiff, false_and, and_false, reduceIte, mm_kd_pi, mm_ln_pi, mm_gl_pi, mm_gr_pi, mm_sz_pi, mm_gi_pi, mm_kd_pl, mm_ln_pl, mm_gi_pl, mm_gr_pl, mm_sz_pl, mm_gl_pl, mm_kd_pr, mm_ln_pr, mm_gi_pr, mm_gl_pr, mm_sz_pr, mm_gr_pr, mm_kd_pa, mm_ln_pa, mm_gl_pa, mm_gr_pa, mm_sz_pa, mm_gi_pa, eq_false ne]
        refine c_X0_worthOf_101 (by decide) (c_X0_worthOf_104 (by decide) ?_)
        rw [clp_32 b]
        refine t_X0_worthOf_107 _ _ _ ?_
        simp only [s_iadd, s_isub, s_imul, s_iand, s_ior, s_ixor, s_ishl, s_ishr, s_iushr, s_idiv, s_irem, s_ladd, s_lsub, s_lmul, s_ldiv, s_lrem, s_ineg, s_i2l, s_l2i, s_i2c, s_lcmp, s_ic, s_lc, s_nul, s_str, s_il, s_ll, s_al, s_dup, s_dup2, s_pop, s_ifne, s_icne, s_ifeq, s_iflt, s_ifge, s_ifgt, s_ifle, s_iceq, s_iclt, s_icge, s_icgt, s_icle, s_ifnull, s_ifnonnull, s_is, s_ls, s_as, s_ii, s_gi, s_gl, s_gr, s_pi, s_pz, s_pl, s_pr, s_iald, s_zald, s_lald, s_aald, s_alen, s_iast, s_zast, s_last, s_iret, s_zret, s_lret, s_aret, s_vret, s_sw, s_aast, mm_sw, mm_ld, mm_s1, mm_s2, mm_kl, Value.category, va_rf, List.nil_append, List.cons_append, Option.toList, true_and, and_true, and_self, true_or, or_true, eq_self, not_true_eq_false, false_implies, true_implies, not_false_eq_true, mm_10, mm_01, false_or, or_false, Nat.left_eq_add, Nat.add_eq_left, Nat.add_left_cancel_iff, Nat.reduceEqDiff, false_and, and_false, reduceIte, mm_kd_pi, mm_ln_pi, mm_gl_pi, mm_gr_pi, mm_sz_pi, mm_gi_pi, mm_kd_pl, mm_ln_pl, mm_gi_pl, mm_gr_pl, mm_sz_pl, mm_gl_pl, mm_kd_pr, mm_ln_pr, mm_gi_pr, mm_gl_pr, mm_sz_pr, mm_gr_pr, mm_kd_pa, mm_ln_pa, mm_gl_pa, mm_gr_pa, mm_sz_pa, mm_gi_pa]
        have := k g' F2
        rw [aW, hL, lwW, if_pos ⟨y1, y2, by rw [e]; simp⟩, e] at this
        exact this
      · have F2 := fx_tr F (xC_S F')
        simp only [s_iadd, s_isub, s_imul, s_iand, s_ior, s_ixor, s_ishl, s_ishr, s_iushr, s_idiv, s_irem, s_ladd, s_lsub, s_lmul, s_ldiv, s_lrem, s_ineg, s_i2l, s_l2i, s_i2c, s_lcmp, s_ic, s_lc, s_nul, s_str, s_il, s_ll, s_al, s_dup, s_dup2, s_pop, s_ifne, s_icne, s_ifeq, s_iflt, s_ifge, s_ifgt, s_ifle, s_iceq, s_iclt, s_icge, s_icgt, s_icle, s_ifnull, s_ifnonnull, s_is, s_ls, s_as, s_ii, s_gi, s_gl, s_gr, s_pi, s_pz, s_pl, s_pr, s_iald, s_zald, s_lald, s_aald, s_alen, s_iast, s_zast, s_last, s_iret, s_zret, s_lret, s_aret, s_vret, s_sw, s_aast, mm_sw, mm_ld, mm_s1, mm_s2, mm_kl, Value.category, va_rf, List.nil_append, List.cons_append, Option.toList, true_and, and_true, and_self, true_or, or_true, eq_self, not_true_eq_false, false_implies, true_implies, not_false_eq_true, mm_10, mm_01, false_or, or_false, Nat.left_eq_add, Nat.add_eq_left, Nat.add_left_cancel_iff, Nat.reduceEqDiff, false_and, and_false, reduceIte, mm_kd_pi, mm_ln_pi, mm_gl_pi, mm_gr_pi, mm_sz_pi, mm_gi_pi, mm_kd_pl, mm_ln_pl, mm_gi_pl, mm_gr_pl, mm_sz_pl, mm_gl_pl, mm_kd_pr, mm_ln_pr, mm_gi_pr, mm_gl_pr, mm_sz_pr, mm_gr_pr, mm_kd_pa, mm_ln_pa, mm_gl_pa, mm_gr_pa, mm_sz_pa, mm_gi_pa]
        exact next g' _ F2 (hw2 g g' F' hw) (fun y => y.2.2 e)
    refine t_X0_worthOf_33 _ _ _ ?_
    simp only [s_iadd, s_isub, s_imul, s_iand, s_ior, s_ixor, s_ishl, s_ishr, s_iushr, s_idiv, s_irem, s_ladd, s_lsub, s_lmul, s_ldiv, s_lrem, s_ineg, s_i2l, s_l2i, s_i2c, s_lcmp, s_ic, s_lc, s_nul, s_str, s_il, s_ll, s_al, s_dup, s_dup2, s_pop, s_ifne, s_icne, s_ifeq, s_iflt, s_ifge, s_ifgt, s_ifle, s_iceq, s_iclt, s_icge, s_icgt, s_icle, s_ifnull, s_ifnonnull, s_is, s_ls, s_as, s_ii, s_gi, s_gl, s_gr, s_pi, s_pz, s_pl, s_pr, s_iald, s_zald, s_lald, s_aald, s_alen, s_iast, s_zast, s_last, s_iret, s_zret, s_lret, s_aret, s_vret, s_sw, s_aast, mm_sw, mm_ld, mm_s1, mm_s2, mm_kl, Value.category, va_rf, List.nil_append, List.cons_append, Option.toList, true_and, and_true, and_self, true_or, or_true, eq_self, not_true_eq_false, false_implies, true_implies, not_false_eq_true, mm_10, mm_01, false_or, or_false, Nat.left_eq_add, Nat.add_eq_left, Nat.add_left_cancel_iff, Nat.reduceEqDiff, false_and, and_false, reduceIte, mm_kd_pi, mm_ln_pi, mm_gl_pi, mm_gr_pi, mm_sz_pi, mm_gi_pi, mm_kd_pl, mm_ln_pl, mm_gi_pl, mm_gr_pl, mm_sz_pl, mm_gl_pl, mm_kd_pr, mm_ln_pr, mm_gi_pr, mm_gl_pr, mm_sz_pr, mm_gr_pr, mm_kd_pa, mm_ln_pa, mm_gl_pa, mm_gr_pa, mm_sz_pa, mm_gi_pa, T1, T2, T3, T4, W_kd_1 (fx_WS F H), W_s_1 (fx_WS F H), W_gr_1_0 (fx_WS F H), W_gr_1_1 (fx_WS F H), nI_pred, eq_false (nI_pos (show n < 2 ^ 31 by omega)), txz0 TT, txz TT (show 1 ≤ 7 by decide), txz TT (show 5 ≤ 7 by decide), nI_clamp (show n < 2 ^ 31 by omega), vp_in_nI (show n < n' by omega) (show n' < 2 ^ 31 by omega), z1, z5, show (nI (L.2.1 n) = 0) = (L.2.1 n = 0) from propext (nI_eq (b := 0) (by omega) (by decide))]
    refine ⟨fun c1 => next g v6 F hw (fun y => c1 y.1), fun c1 => ⟨fun c2 => ?_, fun c2 => ?_⟩⟩
    · rcases q3 with ⟨_, q3⟩ | ⟨p, q, w, q3, q5, q6, q7, q8⟩
      · exact yes g v6 F hw c1 (by rw [q3])
      · have a1 := q8.1.1
        exact absurd (q3.symm.trans c2) (nI_m1 (by omega))
    · rcases q3 with ⟨q3, _⟩ | ⟨p, q, w, q3, q5, q6, q7, q8⟩
      · exact absurd q3 c2
      · rw [q3]
        refine c_X0_worthOf_68 (bb := (0, 0)) (b := (0, 0)) (Nat.le_of_ble_eq_true rfl) ⟨rfl, rfl⟩ (W_kd_1 (fx_WS F H)) (W_s_1 (fx_WS F H)) (sp_reckon (fx_WS F H) (txs g F) hE hw (by decide) q8 q7 q5 q6 (fun g' x F' e b => ?_) (fun g' F' e => ?_)) <;> refine t_X0_worthOf_71 _ _ _ ?_
        · have F2 := fx_tr F (xC_S F')
          simp only [s_iadd, s_isub, s_imul, s_iand, s_ior, s_ixor, s_ishl, s_ishr, s_iushr, s_idiv, s_irem, s_ladd, s_lsub, s_lmul, s_ldiv, s_lrem, s_ineg, s_i2l, s_l2i, s_i2c, s_lcmp, s_ic, s_lc, s_nul, s_str, s_il, s_ll, s_al, s_dup, s_dup2, s_pop, s_ifne, s_icne, s_ifeq, s_iflt, s_ifge, s_ifgt, s_ifle, s_iceq, s_iclt, s_icge, s_icgt, s_icle, s_ifnull, s_ifnonnull, s_is, s_ls, s_as, s_ii, s_gi, s_gl, s_gr, s_pi, s_pz, s_pl, s_pr, s_iald, s_zald, s_lald, s_aald, s_alen, s_iast, s_zast, s_last, s_iret, s_zret, s_lret, s_aret, s_vret, s_sw, s_aast, mm_sw, mm_ld, mm_s1, mm_s2, mm_kl, Value.category, va_rf, List.nil_append, List.cons_append, Option.toList, true_and, and_true, and_self, true_or, or_true, eq_self, not_true_eq_false, false_implies, true_implies, not_false_eq_true, mm_10, mm_01, false_or, or_false, Nat.left_eq_add, Nat.add_eq_left, Nat.add_left_cancel_iff, Nat.reduceEqDiff, false_and, and_false, reduceIte, mm_kd_pi, mm_ln_pi, mm_gl_pi, mm_gr_pi, mm_sz_pi, mm_gi_pi, mm_kd_pl, mm_ln_pl, mm_gi_pl, mm_gr_pl, mm_sz_pl, mm_gl_pl, mm_kd_pr, mm_ln_pr, mm_gi_pr, mm_gl_pr, mm_sz_pr, mm_gr_pr, mm_kd_pa, mm_ln_pa, mm_gl_pa, mm_gr_pa, mm_sz_pa, mm_gi_pa]
          refine ⟨fun c3 => next g' v6 F2 (hw2 g g' F' hw) (fun y => c3 ?_), fun c3 => yes g' v6 F2 (hw2 g g' F' hw) c1 ?_⟩
          · have := y.2.1
            rw [e] at this
            cases this
            rfl
          · rw [e, (i32_inj b xB_1).mp c3]
        · have F2 := fx_tr F (xC_S F')
          simp only [s_iadd, s_isub, s_imul, s_iand, s_ior, s_ixor, s_ishl, s_ishr, s_iushr, s_idiv, s_irem, s_ladd, s_lsub, s_lmul, s_ldiv, s_lrem, s_ineg, s_i2l, s_l2i, s_i2c, s_lcmp, s_ic, s_lc, s_nul, s_str, s_il, s_ll, s_al, s_dup, s_dup2, s_pop, s_ifne, s_icne, s_ifeq, s_iflt, s_ifge, s_ifgt, s_ifle, s_iceq, s_iclt, s_icge, s_icgt, s_icle, s_ifnull, s_ifnonnull, s_is, s_ls, s_as, s_ii, s_gi, s_gl, s_gr, s_pi, s_pz, s_pl, s_pr, s_iald, s_zald, s_lald, s_aald, s_alen, s_iast, s_zast, s_last, s_iret, s_zret, s_lret, s_aret, s_vret, s_sw, s_aast, mm_sw, mm_ld, mm_s1, mm_s2, mm_kl, Value.category, va_rf, List.nil_append, List.cons_append, Option.toList, true_and, and_true, and_self, true_or, or_true, eq_self, not_true_eq_false, false_implies, true_implies, not_false_eq_true, mm_10, mm_01, false_or, or_false, Nat.left_eq_add, Nat.add_eq_left, Nat.add_left_cancel_iff, Nat.reduceEqDiff, false_and, and_false, reduceIte, mm_kd_pi, mm_ln_pi, mm_gl_pi, mm_gr_pi, mm_sz_pi, mm_gi_pi, mm_kd_pl, mm_ln_pl, mm_gi_pl, mm_gr_pl, mm_sz_pl, mm_gl_pl, mm_kd_pr, mm_ln_pr, mm_gi_pr, mm_gl_pr, mm_sz_pr, mm_gr_pr, mm_kd_pa, mm_ln_pa, mm_gl_pa, mm_gr_pa, mm_sz_pa, mm_gi_pa, show ((1000000001 : Int32) = 1) = False by decide]
          exact next g' v6 F2 (hw2 g g' F' hw) (fun y => by have := y.2.1; rw [e] at this; cases this)
/-- a law given as a value -/
def LV (h : mmH) (A : Option lwD) (x : Value) : Prop := (A = none ∧ x = .null) ∨ ∃ (t : Nat) (L : lwD), A = some L ∧ x = .ref t ∧ 122 ≤ t ∧ CLW h t L
theorem LV_fx {g : mmH} {x : Value} (F : fx xC y0 h g) (H : LV h A x) : LV g A x := by
  rcases H with z | ⟨t, L, z1, z2, z3, z4⟩
  · exact Or.inl z
  · exact Or.inr ⟨t, L, z1, z2, z3, CLW_fx (by omega) F z4⟩
theorem sp_worthOf {x : Value} (H : WS h) (Ha : hsh h a) (ha : 4 ≤ a) (v : HV S) (hc : HC h a S) (hx : LV h A x) (hcc : c < S 0 1) (hl : l < S 0 0)
    (k : ∀ g, fx xC y0 h g → K (some (.int (nI (aW A (lE S c (some l) (-1) (S 1 c) (S 9 0)) (pop (S 5 l &&& S 1 c)))))) g) : mm_MV q_X0_worthOf (d + 2) (0, 0) [.ref 1, .ref a, x, .int (nI c), .int (nI l)] h K := by
  obtain ⟨h1, h2, h3, h4⟩ := id Ha
  have c6 : c < 6 := by have := v.1.2.1; omega
  have t9 : S 9 0 ≤ 999 := v.2.2.2.2 0 (by decide)
  have pose : ∀ (vx : Value), (∀ g, fx xW y0 h g → (∀ j, j < 10 → mm_gi g 2 j = i32 (lE S c (some l) (-1) (S 1 c) (S 9 0) j)) → mm_V q_X0_worthOf (d + 2) (0, 0) K 21 [some (.ref 1), some (.ref a), some vx, some (.int (nI c)), some (.int (nI l)), none, none] [] g) → mm_V q_X0_worthOf (d + 2) (0, 0) K 0 [some (.ref 1), some (.ref a), some vx, some (.int (nI c)), some (.int (nI l)), none, none] [] h := by
    intro vx k
    refine t_X0_worthOf_0 _ _ _ ?_
    simp only [s_iadd, s_isub, s_imul, s_iand, s_ior, s_ixor, s_ishl, s_ishr, s_iushr, s_idiv, s_irem, s_ladd, s_lsub, s_lmul, s_ldiv, s_lrem, s_ineg, s_i2l, s_l2i, s_i2c, s_lcmp, s_ic, s_lc, s_nul, s_str, s_il, s_ll, s_al, s_dup, s_dup2, s_pop, s_ifne, s_icne, s_ifeq, s_iflt, s_ifge, s_ifgt, s_ifle, s_iceq, s_iclt, s_icge, s_icgt, s_icle, s_ifnull, s_ifnonnull, s_is, s_ls, s_as, s_ii, s_gi, s_gl, s_gr, s_pi, s_pz, s_pl, s_pr, s_iald, s_zald, s_lald, s_aald, s_alen, s_iast, s_zast, s_last, s_iret, s_zret, s_lret, s_aret, s_vret, s_sw, s_aast, mm_sw, mm_ld, mm_s1, mm_s2, mm_kl, Value.category, va_rf, List.nil_append, List.cons_append, Option.toList, true_and, and_true, and_self, true_or, or_true, eq_self, not_true_eq_false, false_implies, true_implies, not_false_eq_true, mm_10, mm_01, false_or, or_false, Nat.left_eq_add, Nat.add_eq_left, Nat.add_left_cancel_iff, Nat.reduceEqDiff, false_and, and_false, reduceIte, mm_kd_pi, mm_ln_pi, mm_gl_pi, mm_gr_pi, mm_sz_pi, mm_gi_pi, mm_kd_pl, mm_ln_pl, mm_gi_pl, mm_gr_pl, mm_sz_pl, mm_gl_pl, mm_kd_pr, mm_ln_pr, mm_gi_pr, mm_gl_pr, mm_sz_pr, mm_gr_pr, mm_kd_pa, mm_ln_pa, mm_gl_pa, mm_gr_pa, mm_sz_pa, mm_gi_pa, h1, h2, h3, h4, hsz0 Ha, hsz Ha (show 4 ≤ 10 by decide), hsz Ha (show 9 ≤ 10 by decide), vp_in_nI c6 (show 6 < 2 ^ 31 by decide), nI_clamp (show c < 2 ^ 31 by omega), (hc.2.1 c hcc).1, show (0 : Int32).toNatClampNeg = 0 from rfl, show vp_in (0 : Int32) 3 from vp_in_nI (n := 0) (by decide) (by decide), hc.2.2.2.2 0 (by decide)]
    refine c_X0_worthOf_18 (bb := (0, 0)) (b := (0, 0)) (Nat.le_of_ble_eq_true rfl) ⟨rfl, rfl⟩ (W_kd_1 H) (W_s_1 H) (sp_poseLaw (l := some l) (tr := -1) H Ha ha v hc hcc (fun i e => by cases e; exact hl) (v.2.1 c hcc).1 (fun g F hw => ?_))
    exact k g F hw
  rcases hx with ⟨rfl, rfl⟩ | ⟨t, L, rfl, rfl, ht, C⟩
  · refine e_X0_worthOf_n (pose _ (fun g F hw => ?_))
    refine t_X0_worthOf_21 _ _ _ ?_
    simp only [s_iadd, s_isub, s_imul, s_iand, s_ior, s_ixor, s_ishl, s_ishr, s_iushr, s_idiv, s_irem, s_ladd, s_lsub, s_lmul, s_ldiv, s_lrem, s_ineg, s_i2l, s_l2i, s_i2c, s_lcmp, s_ic, s_lc, s_nul, s_str, s_il, s_ll, s_al, s_dup, s_dup2, s_pop, s_ifne, s_icne, s_ifeq, s_iflt, s_ifge, s_ifgt, s_ifle, s_iceq, s_iclt, s_icge, s_icgt, s_icle, s_ifnull, s_ifnonnull, s_is, s_ls, s_as, s_ii, s_gi, s_gl, s_gr, s_pi, s_pz, s_pl, s_pr, s_iald, s_zald, s_lald, s_aald, s_alen, s_iast, s_zast, s_last, s_iret, s_zret, s_lret, s_aret, s_vret, s_sw, s_aast, mm_sw, mm_ld, mm_s1, mm_s2, mm_kl, Value.category, va_rf, List.nil_append, List.cons_append, Option.toList, true_and, and_true, and_self, true_or, or_true, eq_self, not_true_eq_false, false_implies, true_implies, not_false_eq_true, mm_10, mm_01, false_or, or_false, Nat.left_eq_add, Nat.add_eq_left, Nat.add_left_cancel_iff, Nat.reduceEqDiff, false_and, and_false, reduceIte, mm_kd_pi, mm_ln_pi, mm_gl_pi, mm_gr_pi, mm_sz_pi, mm_gi_pi, mm_kd_pl, mm_ln_pl, mm_gi_pl, mm_gr_pl, mm_sz_pl, mm_gl_pl, mm_kd_pr, mm_ln_pr, mm_gi_pr, mm_gl_pr, mm_sz_pr, mm_gr_pr, mm_kd_pa, mm_ln_pa, mm_gl_pa, mm_gr_pa, mm_sz_pa, mm_gi_pa]
    exact wo_114 (fx_hsh F Ha) v (HC_fx ha (xC_W F) hc) hcc hl (k g (xC_W F))
  · refine e_X0_worthOf (pose _ (fun g F hw => ?_))
    have F' := xC_W F
    obtain ⟨n', m, sz, I, TP, l1, l2, l3, l4⟩ := id (CLW_fx (by omega) F' C)
    refine t_X0_worthOf_21 _ _ _ ?_
    simp only [s_iadd, s_isub, s_imul, s_iand, s_ior, s_ixor, s_ishl, s_ishr, s_iushr, s_idiv, s_irem, s_ladd, s_lsub, s_lmul, s_ldiv, s_lrem, s_ineg, s_i2l, s_l2i, s_i2c, s_lcmp, s_ic, s_lc, s_nul, s_str, s_il, s_ll, s_al, s_dup, s_dup2, s_pop, s_ifne, s_icne, s_ifeq, s_iflt, s_ifge, s_ifgt, s_ifle, s_iceq, s_iclt, s_icge, s_icgt, s_icle, s_ifnull, s_ifnonnull, s_is, s_ls, s_as, s_ii, s_gi, s_gl, s_gr, s_pi, s_pz, s_pl, s_pr, s_iald, s_zald, s_lald, s_aald, s_alen, s_iast, s_zast, s_last, s_iret, s_zret, s_lret, s_aret, s_vret, s_sw, s_aast, mm_sw, mm_ld, mm_s1, mm_s2, mm_kl, Value.category, va_rf, List.nil_append, List.cons_append, Option.toList, true_and, and_true, and_self, true_or, or_true, eq_self, not_true_eq_false, false_implies, true_implies, not_false_eq_true, mm_10, mm_01, false_or, or_false, Nat.left_eq_add, Nat.add_eq_left, Nat.add_left_cancel_iff, Nat.reduceEqDiff, false_and, and_false, reduceIte, mm_kd_pi, mm_ln_pi, mm_gl_pi, mm_gr_pi, mm_sz_pi, mm_gi_pi, mm_kd_pl, mm_ln_pl, mm_gi_pl, mm_gr_pl, mm_sz_pl, mm_gl_pl, mm_kd_pr, mm_ln_pr, mm_gi_pr, mm_gl_pr, mm_sz_pr, mm_gr_pr, mm_kd_pa, mm_ln_pa, mm_gl_pa, mm_gr_pa, mm_sz_pa, mm_gi_pa, TP.1.1, txz0 TP.1, l1]
    exact lp_worth (h := g) (fx_WS F H) (fx_hsh F Ha) ha v (HC_fx ha F' hc) hcc hl ht (CLW_fx (by omega) F' C) (lE_ok (HV_x v) hcc (fun i e => by cases e; exact hl) ⟨by decide, by decide⟩ (by omega)) hw (fun g' F2 => k g' (fx_tr F' F2)) L.1 g none (Nat.le_refl _) rfl fx_rf hw
end
