/-! bits of small numbers; lost, likest -/
theorem nI_and (a b : Nat) : nI a &&& nI b = nI (a &&& b) := Int32.toBitVec_inj.mp (by
  show BitVec.ofNat 32 a &&& BitVec.ofNat 32 b = BitVec.ofNat 32 (a &&& b)
  rw [BitVec.ofNat_and])
theorem nI_xor (a b : Nat) : nI a ^^^ nI b = nI (a ^^^ b) := Int32.toBitVec_inj.mp (by
  show BitVec.ofNat 32 a ^^^ BitVec.ofNat 32 b = BitVec.ofNat 32 (a ^^^ b)
  rw [BitVec.ofNat_xor])
theorem nI_or (a b : Nat) : nI a ||| nI b = nI (a ||| b) := Int32.toBitVec_inj.mp (by
  show BitVec.ofNat 32 a ||| BitVec.ofNat 32 b = BitVec.ofNat 32 (a ||| b)
  rw [BitVec.ofNat_or])
theorem xor_lt {a b : Nat} (ha : a < 256) (hb : b < 256) : a ^^^ b < 256 := Nat.xor_lt_two_pow (n := 8) ha hb
theorem and_lt {a b : Nat} (ha : a < 256) : a &&& b < 256 := Nat.lt_of_le_of_lt Nat.and_le_left ha
theorem or_lt {a b : Nat} (ha : a < 256) (hb : b < 256) : a ||| b < 256 := Nat.or_lt_two_pow (n := 8) ha hb
def orF (f : Nat → Int32) : Nat → Int32
  | 0 => 0
  | n + 1 => orF f n ||| f n
theorem orF_cg {f g : Nat → Int32} : ∀ {n : Nat}, (∀ i, i < n → f i = g i) → orF f n = orF g n
  | 0, _ => rfl
  | n + 1, e => by simp only [orF]; rw [orF_cg (fun i hi => e i (by omega)), e n (by omega)]
theorem kamong_255 (h : mmH) (a : Nat) : ∀ n, n ≤ 8 → kamong h a 255 n = orF (mm_gi h (a + 4)) n
  | 0, _ => rfl
  | n + 1, hn => by
    simp only [kamong, orF]
    rw [kamong_255 h a n (by omega), if_pos]
    have := bit_at 255 (by decide) n (by omega)
    rw [show (255 : Int32) = nI 255 from rfl, this]
    rcases (show n = 0 ∨ n = 1 ∨ n = 2 ∨ n = 3 ∨ n = 4 ∨ n = 5 ∨ n = 6 ∨ n = 7 by omega) with rfl | rfl | rfl | rfl | rfl | rfl | rfl | rfl <;> rfl
def lsF (op : Nat → Bool) (nd : Nat → Int32) (kn : Int32) : Nat → Int32
  | 0 => 0
  | n + 1 => if op n = true ∧ ¬ nd n &&& (kn ^^^ -1) = 0 then lsF op nd kn n ||| (1 <<< (nI n &&& 31)) else lsF op nd kn n
theorem lsF_cg {op op' : Nat → Bool} {nd nd' : Nat → Int32} {kn : Int32} : ∀ {n : Nat}, (∀ i, i < n → op i = op' i) → (∀ i, i < n → nd i = nd' i) → lsF op nd kn n = lsF op' nd' kn n
  | 0, _, _ => rfl
  | n + 1, e1, e2 => by simp only [lsF]; rw [lsF_cg (fun i hi => e1 i (by omega)) (fun i hi => e2 i (by omega)), e1 n (by omega), e2 n (by omega)]
theorem i32_or0 (x : Int32) : x ||| 0 = x := Int32.or_zero
section
variable {d : Nat} {h : mmH} {x : Int32} {K : Option Value → mmH → Prop}
def opC (A : Int32) (l : Nat) : Bool := !((A >>> (nI l &&& 31)) &&& 1 == 1)
theorem lp_lost {L : Nat} {kn : Int32} (H : WS h) (hL : mm_gi h 4 1 = nI L) (hL8 : L ≤ 8) (k : K (some (.int (lsF (opC (mm_gi h 4 5)) (mm_gi h 6) kn L))) h) : ∀ n l, l + n = L → mm_V q_X9_lost (d + 1) (0, 0) K 15 [some (.ref 0), some (.int kn), some (.int (lsF (opC (mm_gi h 4 5)) (mm_gi h 6) kn l)), some (.int (nI l))] [] h := by
  intro n
  induction n with
  | zero =>
    intro l hl
    obtain rfl : l = L := by omega
    refine t_X9_lost_15 _ _ _ ?_
    simp only [s_iadd, s_isub, s_imul, s_iand, s_ior, s_ixor, s_ishl, s_ishr, s_iushr, s_idiv, s_irem, s_ladd, s_lsub, s_lmul, s_ldiv, s_lrem, s_ineg, s_i2l, s_l2i, s_i2c, s_lcmp, s_ic, s_lc, s_nul, s_str, s_il, s_ll, s_al, s_dup, s_dup2, s_pop, s_ifne, s_icne, s_ifeq, s_iflt, s_ifge, s_ifgt, s_ifle, s_iceq, s_iclt, s_icge, s_icgt, s_icle, s_ifnull, s_ifnonnull, s_is, s_ls, s_as, s_ii, s_gi, s_gl, s_gr, s_pi, s_pz, s_pl, s_pr, s_iald, s_zald, s_lald, s_aald, s_alen, s_iast, s_zast, s_last, s_iret, s_zret, s_lret, s_aret, s_vret, s_sw, s_aast, mm_sw, mm_ld, mm_s1, mm_s2, mm_kl, Value.category, va_rf, List.nil_append, List.cons_append, Option.toList, true_and, and_true, and_self, true_or, or_true, eq_self, not_true_eq_false, false_implies, true_implies, not_false_eq_true, mm_10, mm_01, false_or, or_false, Nat.left_eq_add, Nat.add_eq_left, Nat.add_left_cancel_iff, Nat.reduceEqDiff, false_and, and_false, reduceIte, mm_kd_pi, mm_ln_pi, mm_gl_pi, mm_gr_pi, mm_sz_pi, mm_gi_pi, mm_kd_pl, mm_ln_pl, mm_gi_pl, mm_gr_pl, mm_sz_pl, mm_gl_pl, mm_kd_pr, mm_ln_pr, mm_gi_pr, mm_gl_pr, mm_sz_pr, mm_gr_pr, mm_kd_pa, mm_ln_pa, mm_gl_pa, mm_gr_pa, mm_sz_pa, mm_gi_pa, W_kd_0 H, W_s_0 H, W_gr_0_0 H, W_gr_0_1 H, W_gr_0_2 H, W_gr_0_3 H, W_gr_0_4 H, W_gr_0_5 H, W_gr_0_6 H, W_gr_0_7 H, W_gr_0_8 H, W_gr_0_9 H, W_gr_0_10 H, W_gr_0_11 H, W_kd_4 H, W_s_4 H, W_gr_4_0 H, W_gr_4_2 H, W_gr_4_3 H, W_gr_4_4 H, W_gr_4_7 H, W_gr_4_8 H, W_gr_4_9 H, W_gr_4_11 H, W_gr_4_12 H, W_gr_4_13 H, W_gr_4_15 H, hL, nI_leI (show l < 2 ^ 31 by omega) (show l < 2 ^ 31 by omega), Nat.le_refl]
    exact k
  | succ n ih =>
    intro l hl
    refine t_X9_lost_15 _ _ _ ?_
    simp only [s_iadd, s_isub, s_imul, s_iand, s_ior, s_ixor, s_ishl, s_ishr, s_iushr, s_idiv, s_irem, s_ladd, s_lsub, s_lmul, s_ldiv, s_lrem, s_ineg, s_i2l, s_l2i, s_i2c, s_lcmp, s_ic, s_lc, s_nul, s_str, s_il, s_ll, s_al, s_dup, s_dup2, s_pop, s_ifne, s_icne, s_ifeq, s_iflt, s_ifge, s_ifgt, s_ifle, s_iceq, s_iclt, s_icge, s_icgt, s_icle, s_ifnull, s_ifnonnull, s_is, s_ls, s_as, s_ii, s_gi, s_gl, s_gr, s_pi, s_pz, s_pl, s_pr, s_iald, s_zald, s_lald, s_aald, s_alen, s_iast, s_zast, s_last, s_iret, s_zret, s_lret, s_aret, s_vret, s_sw, s_aast, mm_sw, mm_ld, mm_s1, mm_s2, mm_kl, Value.category, va_rf, List.nil_append, List.cons_append, Option.toList, true_and, and_true, and_self, true_or, or_true, eq_self, not_true_eq_false, false_implies, true_implies, not_false_eq_true, mm_10, mm_01, false_or, or_false, Nat.left_eq_add, Nat.add_eq_left, Nat.add_left_cancel_iff, Nat.reduceEqDiff, false_and, and_false, reduceIte, mm_kd_pi, mm_ln_pi, mm_gl_pi, mm_gr_pi, mm_sz_pi, mm_gi_pi, mm_kd_pl, mm_ln_pl, mm_gi_pl, mm_gr_pl, mm_sz_pl, mm_gl_pl, mm_kd_pr, mm_ln_pr, mm_gi_pr, mm_gl_pr, mm_sz_pr, mm_gr_pr, mm_kd_pa, mm_ln_pa, mm_gl_pa, mm_gr_pa, mm_sz_pa, mm_gi_pa, W_kd_0 H, W_s_0 H, W_gr_0_0 H, W_gr_0_1 H, W_gr_0_2 H, W_gr_0_3 H, W_gr_0_4 H, W_gr_0_5 H, W_gr_0_6 H, W_gr_0_7 H, W_gr_0_8 H, W_gr_0_9 H, W_gr_0_10 H, W_gr_0_11 H, W_kd_4 H, W_s_4 H, W_gr_4_0 H, W_gr_4_2 H, W_gr_4_3 H, W_gr_4_4 H, W_gr_4_7 H, W_gr_4_8 H, W_gr_4_9 H, W_gr_4_11 H, W_gr_4_12 H, W_gr_4_13 H, W_gr_4_15 H, hL, nI_leI (show L < 2 ^ 31 by omega) (show l < 2 ^ 31 by omega), show (L ≤ l) = False by simp; omega]
    have next : ∀ y, lsF (opC (mm_gi h 4 5)) (mm_gi h 6) kn (l + 1) = y → mm_V q_X9_lost (d + 1) (0, 0) K 59 [some (.ref 0), some (.int kn), some (.int y), some (.int (nI l))] [] h := by
      intro y e
      refine t_X9_lost_59 _ _ _ ?_
      simp only [s_iadd, s_isub, s_imul, s_iand, s_ior, s_ixor, s_ishl, s_ishr, s_iushr, s_idiv, s_irem, s_ladd, s_lsub, s_lmul, s_ldiv, s_lrem, s_ineg, s_i2l, s_l2i, s_i2c, s_lcmp, s_ic, s_lc, s_nul, s_str, s_il, s_ll, s_al, s_dup, s_dup2, s_pop, s_ifne, s_icne, s_ifeq, s_iflt, s_ifge, s_ifgt, s_ifle, s_iceq, s_iclt, s_icge, s_icgt, s_icle, s_ifnull, s_ifnonnull, s_is, s_ls, s_as, s_ii, s_gi, s_gl, s_gr, s_pi, s_pz, s_pl, s_pr, s_iald, s_zald, s_lald, s_aald, s_alen, s_iast, s_zast, s_last, s_iret, s_zret, s_lret, s_aret, s_vret, s_sw, s_aast, mm_sw, mm_ld, mm_s1, mm_s2, mm_kl, Value.category, va_rf, List.nil_append, List.cons_append, Option.toList, true_and, and_true, and_self, true_or, or_true, eq_self, not_true_eq_false, false_implies, true_implies, not_false_eq_true, mm_10, mm_01, false_or, or_false, Nat.left_eq_add, Nat.add_eq_left, Nat.add_left_cancel_iff, Nat.reduceEqDiff, false_and, and_false, reduceIte, mm_kd_pi, mm_ln_pi, mm_gl_pi, mm_gr_pi, mm_sz_pi, mm_gi_pi, mm_kd_pl, mm_ln_pl, mm_gi_pl, mm_gr_pl, mm_sz_pl, mm_gl_pl, mm_kd_pr, mm_ln_pr, mm_gi_pr, mm_gl_pr, mm_sz_pr, mm_gr_pr, mm_kd_pa, mm_ln_pa, mm_gl_pa, mm_gr_pa, mm_sz_pa, mm_gi_pa, nI_1]
      rw [← e]
      exact ih (l + 1) (by omega)
    refine c_X9_lost_31 (bb := (0, 0)) (b := (0, 0)) (Nat.le_of_ble_eq_true rfl) ⟨rfl, rfl⟩ (W_kd_4 H) (W_s_4 H) (sp_isAnswered (W_h4 H) (fun c => ?_) (fun c => ?_)) <;> refine t_X9_lost_34 _ _ _ ?_
    · simp only [s_iadd, s_isub, s_imul, s_iand, s_ior, s_ixor, s_ishl, s_ishr, s_iushr, s_idiv, s_irem, s_ladd, s_lsub, s_lmul, s_ldiv, s_lrem, s_ineg, s_i2l, s_l2i, s_i2c, s_lcmp, s_ic, s_lc, s_nul, s_str, s_il, s_ll, s_al, s_dup, s_dup2, s_pop, s_ifne, s_icne, s_ifeq, s_iflt, s_ifge, s_ifgt, s_ifle, s_iceq, s_iclt, s_icge, s_icgt, s_icle, s_ifnull, s_ifnonnull, s_is, s_ls, s_as, s_ii, s_gi, s_gl, s_gr, s_pi, s_pz, s_pl, s_pr, s_iald, s_zald, s_lald, s_aald, s_alen, s_iast, s_zast, s_last, s_iret, s_zret, s_lret, s_aret, s_vret, s_sw, s_aast, mm_sw, mm_ld, mm_s1, mm_s2, mm_kl, Value.category, va_rf, List.nil_append, List.cons_append, Option.toList, true_and, and_true, and_self, true_or, or_true, eq_self, not_true_eq_false, false_implies, true_implies, not_false_eq_true, mm_10, mm_01, false_or, or_false, Nat.left_eq_add, Nat.add_eq_left, Nat.add_left_cancel_iff, Nat.reduceEqDiff, false_and, and_false, reduceIte, mm_kd_pi, mm_ln_pi, mm_gl_pi, mm_gr_pi, mm_sz_pi, mm_gi_pi, mm_kd_pl, mm_ln_pl, mm_gi_pl, mm_gr_pl, mm_sz_pl, mm_gl_pl, mm_kd_pr, mm_ln_pr, mm_gi_pr, mm_gl_pr, mm_sz_pr, mm_gr_pr, mm_kd_pa, mm_ln_pa, mm_gl_pa, mm_gr_pa, mm_sz_pa, mm_gi_pa]
      refine next _ ?_
      simp [lsF, opC, c]
    · simp only [s_iadd, s_isub, s_imul, s_iand, s_ior, s_ixor, s_ishl, s_ishr, s_iushr, s_idiv, s_irem, s_ladd, s_lsub, s_lmul, s_ldiv, s_lrem, s_ineg, s_i2l, s_l2i, s_i2c, s_lcmp, s_ic, s_lc, s_nul, s_str, s_il, s_ll, s_al, s_dup, s_dup2, s_pop, s_ifne, s_icne, s_ifeq, s_iflt, s_ifge, s_ifgt, s_ifle, s_iceq, s_iclt, s_icge, s_icgt, s_icle, s_ifnull, s_ifnonnull, s_is, s_ls, s_as, s_ii, s_gi, s_gl, s_gr, s_pi, s_pz, s_pl, s_pr, s_iald, s_zald, s_lald, s_aald, s_alen, s_iast, s_zast, s_last, s_iret, s_zret, s_lret, s_aret, s_vret, s_sw, s_aast, mm_sw, mm_ld, mm_s1, mm_s2, mm_kl, Value.category, va_rf, List.nil_append, List.cons_append, Option.toList, true_and, and_true, and_self, true_or, or_true, eq_self, not_true_eq_false, false_implies, true_implies, not_false_eq_true, mm_10, mm_01, false_or, or_false, Nat.left_eq_add, Nat.add_eq_left, Nat.add_left_cancel_iff, Nat.reduceEqDiff, false_and, and_false, reduceIte, mm_kd_pi, mm_ln_pi, mm_gl_pi, mm_gr_pi, mm_sz_pi, mm_gi_pi, mm_kd_pl, mm_ln_pl, mm_gi_pl, mm_gr_pl, mm_sz_pl, mm_gl_pl, mm_kd_pr, mm_ln_pr, mm_gi_pr, mm_gl_pr, mm_sz_pr, mm_gr_pr, mm_kd_pa, mm_ln_pa, mm_gl_pa, mm_gr_pa, mm_sz_pa, mm_gi_pa, W_kd_0 H, W_s_0 H, W_gr_0_0 H, W_gr_0_1 H, W_gr_0_2 H, W_gr_0_3 H, W_gr_0_4 H, W_gr_0_5 H, W_gr_0_6 H, W_gr_0_7 H, W_gr_0_8 H, W_gr_0_9 H, W_gr_0_10 H, W_gr_0_11 H, W_kd_4 H, W_s_4 H, W_gr_4_0 H, W_gr_4_2 H, W_gr_4_3 H, W_gr_4_4 H, W_gr_4_7 H, W_gr_4_8 H, W_gr_4_9 H, W_gr_4_11 H, W_gr_4_12 H, W_gr_4_13 H, W_gr_4_15 H, W_kd_6 H, W_s_6 H, W_ln_6 H, vp_in_nI (show l < 8 by omega) (show 8 < 2 ^ 31 by decide), nI_clamp (show l < 2 ^ 31 by omega)]
      refine ⟨fun c2 => next _ (by rw [lsF, if_neg (fun z => z.2 c2)]), fun c2 => next _ (by rw [lsF, if_pos ⟨by simp [opC, c], c2⟩])⟩
theorem sp_lost {L C : Nat} (H : WS h) (hL : mm_gi h 4 1 = nI L) (hL8 : L ≤ 8) (hC : mm_gi h 4 6 = nI C) (hC6 : C ≤ 6) (k : K (some (.int (lsF (opC (mm_gi h 4 5)) (mm_gi h 6) (orF (mm_gi h 8) C) L))) h) : mm_MV q_X9_lost (d + 1) (0, 0) [.ref 0] h K := by
  refine e_X9_lost (t_X9_lost_0 _ _ _ ?_)
  simp only [s_iadd, s_isub, s_imul, s_iand, s_ior, s_ixor, s_ishl, s_ishr, s_iushr, s_idiv, s_irem, s_ladd, s_lsub, s_lmul, s_ldiv, s_lrem, s_ineg, s_i2l, s_l2i, s_i2c, s_lcmp, s_ic, s_lc, s_nul, s_str, s_il, s_ll, s_al, s_dup, s_dup2, s_pop, s_ifne, s_icne, s_ifeq, s_iflt, s_ifge, s_ifgt, s_ifle, s_iceq, s_iclt, s_icge, s_icgt, s_icle, s_ifnull, s_ifnonnull, s_is, s_ls, s_as, s_ii, s_gi, s_gl, s_gr, s_pi, s_pz, s_pl, s_pr, s_iald, s_zald, s_lald, s_aald, s_alen, s_iast, s_zast, s_last, s_iret, s_zret, s_lret, s_aret, s_vret, s_sw, s_aast, mm_sw, mm_ld, mm_s1, mm_s2, mm_kl, Value.category, va_rf, List.nil_append, List.cons_append, Option.toList, true_and, and_true, and_self, true_or, or_true, eq_self, not_true_eq_false, false_implies, true_implies, not_false_eq_true, mm_10, mm_01, false_or, or_false, Nat.left_eq_add, Nat.add_eq_left, Nat.add_left_cancel_iff, Nat.reduceEqDiff, false_and, and_false, reduceIte, mm_kd_pi, mm_ln_pi, mm_gl_pi, mm_gr_pi, mm_sz_pi, mm_gi_pi, mm_kd_pl, mm_ln_pl, mm_gi_pl, mm_gr_pl, mm_sz_pl, mm_gl_pl, mm_kd_pr, mm_ln_pr, mm_gi_pr, mm_gl_pr, mm_sz_pr, mm_gr_pr, mm_kd_pa, mm_ln_pa, mm_gl_pa, mm_gr_pa, mm_sz_pa, mm_gi_pa, W_kd_0 H, W_s_0 H, W_gr_0_0 H, W_gr_0_1 H, W_gr_0_2 H, W_gr_0_3 H, W_gr_0_4 H, W_gr_0_5 H, W_gr_0_6 H, W_gr_0_7 H, W_gr_0_8 H, W_gr_0_9 H, W_gr_0_10 H, W_gr_0_11 H]
  refine c_X9_lost_7 (bb := (0, 0)) (b := (0, 0)) (Nat.le_of_ble_eq_true rfl) ⟨rfl, rfl⟩ (W_kd_4 H) (W_s_4 H) (sp_knownAmong (W_h4 H) hC hC6 ?_)
  rw [kamong_255 h 4 C (by omega)]
  refine t_X9_lost_10 _ _ _ ?_
  simp only [s_iadd, s_isub, s_imul, s_iand, s_ior, s_ixor, s_ishl, s_ishr, s_iushr, s_idiv, s_irem, s_ladd, s_lsub, s_lmul, s_ldiv, s_lrem, s_ineg, s_i2l, s_l2i, s_i2c, s_lcmp, s_ic, s_lc, s_nul, s_str, s_il, s_ll, s_al, s_dup, s_dup2, s_pop, s_ifne, s_icne, s_ifeq, s_iflt, s_ifge, s_ifgt, s_ifle, s_iceq, s_iclt, s_icge, s_icgt, s_icle, s_ifnull, s_ifnonnull, s_is, s_ls, s_as, s_ii, s_gi, s_gl, s_gr, s_pi, s_pz, s_pl, s_pr, s_iald, s_zald, s_lald, s_aald, s_alen, s_iast, s_zast, s_last, s_iret, s_zret, s_lret, s_aret, s_vret, s_sw, s_aast, mm_sw, mm_ld, mm_s1, mm_s2, mm_kl, Value.category, va_rf, List.nil_append, List.cons_append, Option.toList, true_and, and_true, and_self, true_or, or_true, eq_self, not_true_eq_false, false_implies, true_implies, not_false_eq_true, mm_10, mm_01, false_or, or_false, Nat.left_eq_add, Nat.add_eq_left, Nat.add_left_cancel_iff, Nat.reduceEqDiff, false_and, and_false, reduceIte, mm_kd_pi, mm_ln_pi, mm_gl_pi, mm_gr_pi, mm_sz_pi, mm_gi_pi, mm_kd_pl, mm_ln_pl, mm_gi_pl, mm_gr_pl, mm_sz_pl, mm_gl_pl, mm_kd_pr, mm_ln_pr, mm_gi_pr, mm_gl_pr, mm_sz_pr, mm_gr_pr, mm_kd_pa, mm_ln_pa, mm_gl_pa, mm_gr_pa, mm_sz_pa, mm_gi_pa]
  exact lp_lost H hL hL8 k L 0 (by omega)
def opM (f : Nat → Int32) (l : Nat) : Bool := f (20 + l) == 0
theorem lm_lost {L : Nat} {kn : Int32} {v2 : Option Value} (H : WS h) (hL : mm_gi h 93 0 = nI L) (hL8 : L ≤ 8) (k : K (some (.int (lsF (opM (mm_gi h 93)) (fun i => mm_gi h 93 (36 + i)) kn L))) h) : ∀ n l, l + n = L → mm_V q_X10_lost d (0, 0) K 41 [some (.ref 91), some (.int kn), some (.int (lsF (opM (mm_gi h 93)) (fun i => mm_gi h 93 (36 + i)) kn l)), some (.int (nI l))] [] h := by
  intro n
  induction n with
  | zero =>
    intro l hl
    obtain rfl : l = L := by omega
    refine t_X10_lost_41 _ _ _ ?_
    simp only [s_iadd, s_isub, s_imul, s_iand, s_ior, s_ixor, s_ishl, s_ishr, s_iushr, s_idiv, s_irem, s_ladd, s_lsub, s_lmul, s_ldiv, s_lrem, s_ineg, s_i2l, s_l2i, s_i2c, s_lcmp, s_ic, s_lc, s_nul, s_str, s_il, s_ll, s_al, s_dup, s_dup2, s_pop, s_ifne, s_icne, s_ifeq, s_iflt, s_ifge, s_ifgt, s_ifle, s_iceq, s_iclt, s_icge, s_icgt, s_icle, s_ifnull, s_ifnonnull, s_is, s_ls, s_as, s_ii, s_gi, s_gl, s_gr, s_pi, s_pz, s_pl, s_pr, s_iald, s_zald, s_lald, s_aald, s_alen, s_iast, s_zast, s_last, s_iret, s_zret, s_lret, s_aret, s_vret, s_sw, s_aast, mm_sw, mm_ld, mm_s1, mm_s2, mm_kl, Value.category, va_rf, List.nil_append, List.cons_append, Option.toList, true_and, and_true, and_self, true_or, or_true, eq_self, not_true_eq_false, false_implies, true_implies, not_false_eq_true, mm_10, mm_01, false_or, or_false, Nat.left_eq_add, Nat.add_eq_left, Nat.add_left_cancel_iff, Nat.reduceEqDiff, false_and, and_false, reduceIte, mm_kd_pi, mm_ln_pi, mm_gl_pi, mm_gr_pi, mm_sz_pi, mm_gi_pi, mm_kd_pl, mm_ln_pl, mm_gi_pl, mm_gr_pl, mm_sz_pl, mm_gl_pl, mm_kd_pr, mm_ln_pr, mm_gi_pr, mm_gl_pr, mm_sz_pr, mm_gr_pr, mm_kd_pa, mm_ln_pa, mm_gl_pa, mm_gr_pa, mm_sz_pa, mm_gi_pa, W_kd_91 H, W_s_91 H, W_gr_91_2 H, W_gr_91_3 H, W_gr_91_4 H, W_gr_91_5 H, W_gr_91_6 H, W_gr_91_7 H, W_gr_91_9 H, W_gr_91_10 H, W_gr_91_12 H, W_gr_91_22 H, W_gr_91_24 H, W_gr_91_25 H, W_gr_91_27 H, W_gr_91_28 H, W_gr_91_31 H, W_gr_91_32 H, W_gr_91_33 H, W_gr_91_35 H, W_gr_91_36 H, W_gr_91_37 H, W_gr_91_41 H, W_gr_91_42 H, W_gr_91_43 H, W_gr_91_44 H, W_gr_91_45 H, W_gr_91_46 H, W_gr_91_47 H, W_gr_91_48 H, W_gr_91_49 H, W_gr_91_55 H, W_kd_93 H, W_s_93 H, W_ln_93 H, v0_5475, show (0 : Int32).toNatClampNeg = 0 from rfl, hL, nI_leI (show l < 2 ^ 31 by omega) (show l < 2 ^ 31 by omega), Nat.le_refl]
    exact k
  | succ n ih =>
    intro l hl
    have next : ∀ y z, lsF (opM (mm_gi h 93)) (fun i => mm_gi h 93 (36 + i)) kn (l + 1) = (y ||| z) → mm_V q_X10_lost d (0, 0) K 87 [some (.ref 91), some (.int kn), some (.int (lsF (opM (mm_gi h 93)) (fun i => mm_gi h 93 (36 + i)) kn l)), some (.int (nI l))] [.int z, .int y] h := by
      intro y z e
      refine t_X10_lost_87 _ _ _ ?_
      simp only [s_iadd, s_isub, s_imul, s_iand, s_ior, s_ixor, s_ishl, s_ishr, s_iushr, s_idiv, s_irem, s_ladd, s_lsub, s_lmul, s_ldiv, s_lrem, s_ineg, s_i2l, s_l2i, s_i2c, s_lcmp, s_ic, s_lc, s_nul, s_str, s_il, s_ll, s_al, s_dup, s_dup2, s_pop, s_ifne, s_icne, s_ifeq, s_iflt, s_ifge, s_ifgt, s_ifle, s_iceq, s_iclt, s_icge, s_icgt, s_icle, s_ifnull, s_ifnonnull, s_is, s_ls, s_as, s_ii, s_gi, s_gl, s_gr, s_pi, s_pz, s_pl, s_pr, s_iald, s_zald, s_lald, s_aald, s_alen, s_iast, s_zast, s_last, s_iret, s_zret, s_lret, s_aret, s_vret, s_sw, s_aast, mm_sw, mm_ld, mm_s1, mm_s2, mm_kl, Value.category, va_rf, List.nil_append, List.cons_append, Option.toList, true_and, and_true, and_self, true_or, or_true, eq_self, not_true_eq_false, false_implies, true_implies, not_false_eq_true, mm_10, mm_01, false_or, or_false, Nat.left_eq_add, Nat.add_eq_left, Nat.add_left_cancel_iff, Nat.reduceEqDiff, false_and, and_false, reduceIte, mm_kd_pi, mm_ln_pi, mm_gl_pi, mm_gr_pi, mm_sz_pi, mm_gi_pi, mm_kd_pl, mm_ln_pl, mm_gi_pl, mm_gr_pl, mm_sz_pl, mm_gl_pl, mm_kd_pr, mm_ln_pr, mm_gi_pr, mm_gl_pr, mm_sz_pr, mm_gr_pr, mm_kd_pa, mm_ln_pa, mm_gl_pa, mm_gr_pa, mm_sz_pa, mm_gi_pa, nI_1]
      rw [← e]
      exact ih (l + 1) (by omega)
    have no : lsF (opM (mm_gi h 93)) (fun i => mm_gi h 93 (36 + i)) kn (l + 1) = lsF (opM (mm_gi h 93)) (fun i => mm_gi h 93 (36 + i)) kn l → mm_V q_X10_lost d (0, 0) K 86 [some (.ref 91), some (.int kn), some (.int (lsF (opM (mm_gi h 93)) (fun i => mm_gi h 93 (36 + i)) kn l)), some (.int (nI l))] [.int (lsF (opM (mm_gi h 93)) (fun i => mm_gi h 93 (36 + i)) kn l)] h := by
      intro e
      refine t_X10_lost_86 _ _ _ ?_
      simp only [s_iadd, s_isub, s_imul, s_iand, s_ior, s_ixor, s_ishl, s_ishr, s_iushr, s_idiv, s_irem, s_ladd, s_lsub, s_lmul, s_ldiv, s_lrem, s_ineg, s_i2l, s_l2i, s_i2c, s_lcmp, s_ic, s_lc, s_nul, s_str, s_il, s_ll, s_al, s_dup, s_dup2, s_pop, s_ifne, s_icne, s_ifeq, s_iflt, s_ifge, s_ifgt, s_ifle, s_iceq, s_iclt, s_icge, s_icgt, s_icle, s_ifnull, s_ifnonnull, s_is, s_ls, s_as, s_ii, s_gi, s_gl, s_gr, s_pi, s_pz, s_pl, s_pr, s_iald, s_zald, s_lald, s_aald, s_alen, s_iast, s_zast, s_last, s_iret, s_zret, s_lret, s_aret, s_vret, s_sw, s_aast, mm_sw, mm_ld, mm_s1, mm_s2, mm_kl, Value.category, va_rf, List.nil_append, List.cons_append, Option.toList, true_and, and_true, and_self, true_or, or_true, eq_self, not_true_eq_false, false_implies, true_implies, not_false_eq_true, mm_10, mm_01, false_or, or_false, Nat.left_eq_add, Nat.add_eq_left, Nat.add_left_cancel_iff, Nat.reduceEqDiff, false_and, and_false, reduceIte, mm_kd_pi, mm_ln_pi, mm_gl_pi, mm_gr_pi, mm_sz_pi, mm_gi_pi, mm_kd_pl, mm_ln_pl, mm_gi_pl, mm_gr_pl, mm_sz_pl, mm_gl_pl, mm_kd_pr, mm_ln_pr, mm_gi_pr, mm_gl_pr, mm_sz_pr, mm_gr_pr, mm_kd_pa, mm_ln_pa, mm_gl_pa, mm_gr_pa, mm_sz_pa, mm_gi_pa]
      exact next _ _ (by rw [i32_or0]; exact e)
    refine t_X10_lost_41 _ _ _ ?_
    simp only [s_iadd, s_isub, s_imul, s_iand, s_ior, s_ixor, s_ishl, s_ishr, s_iushr, s_idiv, s_irem, s_ladd, s_lsub, s_lmul, s_ldiv, s_lrem, s_ineg, s_i2l, s_l2i, s_i2c, s_lcmp, s_ic, s_lc, s_nul, s_str, s_il, s_ll, s_al, s_dup, s_dup2, s_pop, s_ifne, s_icne, s_ifeq, s_iflt, s_ifge, s_ifgt, s_ifle, s_iceq, s_iclt, s_icge, s_icgt, s_icle, s_ifnull, s_ifnonnull, s_is, s_ls, s_as, s_ii, s_gi, s_gl, s_gr, s_pi, s_pz, s_pl, s_pr, s_iald, s_zald, s_lald, s_aald, s_alen, s_iast, s_zast, s_last, s_iret, s_zret, s_lret, s_aret, s_vret, s_sw, s_aast, mm_sw, mm_ld, mm_s1, mm_s2, mm_kl, Value.category, va_rf, List.nil_append, List.cons_append, Option.toList, true_and, and_true, and_self, true_or, or_true, eq_self, not_true_eq_false, false_implies, true_implies, not_false_eq_true, mm_10, mm_01, false_or, or_false, Nat.left_eq_add, Nat.add_eq_left, Nat.add_left_cancel_iff, Nat.reduceEqDiff, false_and, and_false, reduceIte, mm_kd_pi, mm_ln_pi, mm_gl_pi, mm_gr_pi, mm_sz_pi, mm_gi_pi, mm_kd_pl, mm_ln_pl, mm_gi_pl, mm_gr_pl, mm_sz_pl, mm_gl_pl, mm_kd_pr, mm_ln_pr, mm_gi_pr, mm_gl_pr, mm_sz_pr, mm_gr_pr, mm_kd_pa, mm_ln_pa, mm_gl_pa, mm_gr_pa, mm_sz_pa, mm_gi_pa, W_kd_91 H, W_s_91 H, W_gr_91_2 H, W_gr_91_3 H, W_gr_91_4 H, W_gr_91_5 H, W_gr_91_6 H, W_gr_91_7 H, W_gr_91_9 H, W_gr_91_10 H, W_gr_91_12 H, W_gr_91_22 H, W_gr_91_24 H, W_gr_91_25 H, W_gr_91_27 H, W_gr_91_28 H, W_gr_91_31 H, W_gr_91_32 H, W_gr_91_33 H, W_gr_91_35 H, W_gr_91_36 H, W_gr_91_37 H, W_gr_91_41 H, W_gr_91_42 H, W_gr_91_43 H, W_gr_91_44 H, W_gr_91_45 H, W_gr_91_46 H, W_gr_91_47 H, W_gr_91_48 H, W_gr_91_49 H, W_gr_91_55 H, W_kd_93 H, W_s_93 H, W_ln_93 H, v0_5475, show (0 : Int32).toNatClampNeg = 0 from rfl, hL, nI_leI (show L < 2 ^ 31 by omega) (show l < 2 ^ 31 by omega), show (L ≤ l) = False by simp; omega, show (20 : Int32) = nI 20 from rfl, l_36, nI_add, vp_in_nI (show 20 + l < 5475 by omega) (show 5475 < 2 ^ 31 by decide), vp_in_nI (show 36 + l < 5475 by omega) (show 5475 < 2 ^ 31 by decide), nI_clamp (show 20 + l < 2 ^ 31 by omega), nI_clamp (show 36 + l < 2 ^ 31 by omega)]
    refine ⟨fun c => no (by simp [lsF, opM, c]), fun c => ⟨fun c2 => no (by rw [lsF, if_neg (fun z => z.2 c2)]), fun c2 => next _ _ (by rw [lsF, if_pos ⟨by simp [opM, c], c2⟩])⟩⟩
theorem lm_lostA {g : mmH} {L C : Nat} (H : WS g) (hL : mm_gi g 93 0 = nI L) (hL8 : L ≤ 8) (hC : mm_gi g 93 1 = nI C) (hC6 : C ≤ 6) (k : K (some (.int (lsF (opM (mm_gi g 93)) (fun i => mm_gi g 93 (36 + i)) (orF (fun i => mm_gi g 93 (8 + i)) C) L))) g) : ∀ n c, c + n = C → mm_V q_X10_lost d (0, 0) K 9 [some (.ref 91), some (.int (orF (fun i => mm_gi g 93 (8 + i)) c)), some (.int (nI c)), none] [] g := by
  have v1 : vp_in 1 5475 := vp_in_nI (n := 1) (by decide) (by decide)
  intro n
  induction n with
  | zero =>
    intro c hc
    obtain rfl : c = C := by omega
    refine t_X10_lost_9 _ _ _ ?_
    simp only [s_iadd, s_isub, s_imul, s_iand, s_ior, s_ixor, s_ishl, s_ishr, s_iushr, s_idiv, s_irem, s_ladd, s_lsub, s_lmul, s_ldiv, s_lrem, s_ineg, s_i2l, s_l2i, s_i2c, s_lcmp, s_ic, s_lc, s_nul, s_str, s_il, s_ll, s_al, s_dup, s_dup2, s_pop, s_ifne, s_icne, s_ifeq, s_iflt, s_ifge, s_ifgt, s_ifle, s_iceq, s_iclt, s_icge, s_icgt, s_icle, s_ifnull, s_ifnonnull, s_is, s_ls, s_as, s_ii, s_gi, s_gl, s_gr, s_pi, s_pz, s_pl, s_pr, s_iald, s_zald, s_lald, s_aald, s_alen, s_iast, s_zast, s_last, s_iret, s_zret, s_lret, s_aret, s_vret, s_sw, s_aast, mm_sw, mm_ld, mm_s1, mm_s2, mm_kl, Value.category, va_rf, List.nil_append, List.cons_append, Option.toList, true_and, and_true, and_self, true_or, or_true, eq_self, not_true_eq_false, false_implies, true_implies, not_false_eq_true, mm_10, mm_01, false_or, or_false, Nat.left_eq_add, Nat.add_eq_left, Nat.add_left_cancel_iff, Nat.reduceEqDiff, false_and, and_false, reduceIte, mm_kd_pi, mm_ln_pi, mm_gl_pi, mm_gr_pi, mm_sz_pi, mm_gi_pi, mm_kd_pl, mm_ln_pl, mm_gi_pl, mm_gr_pl, mm_sz_pl, mm_gl_pl, mm_kd_pr, mm_ln_pr, mm_gi_pr, mm_gl_pr, mm_sz_pr, mm_gr_pr, mm_kd_pa, mm_ln_pa, mm_gl_pa, mm_gr_pa, mm_sz_pa, mm_gi_pa, W_kd_91 H, W_s_91 H, W_gr_91_2 H, W_gr_91_3 H, W_gr_91_4 H, W_gr_91_5 H, W_gr_91_6 H, W_gr_91_7 H, W_gr_91_9 H, W_gr_91_10 H, W_gr_91_12 H, W_gr_91_22 H, W_gr_91_24 H, W_gr_91_25 H, W_gr_91_27 H, W_gr_91_28 H, W_gr_91_31 H, W_gr_91_32 H, W_gr_91_33 H, W_gr_91_35 H, W_gr_91_36 H, W_gr_91_37 H, W_gr_91_41 H, W_gr_91_42 H, W_gr_91_43 H, W_gr_91_44 H, W_gr_91_45 H, W_gr_91_46 H, W_gr_91_47 H, W_gr_91_48 H, W_gr_91_49 H, W_gr_91_55 H, W_kd_93 H, W_s_93 H, W_ln_93 H, v1, show (1 : Int32).toNatClampNeg = 1 from rfl, hC, nI_leI (show c < 2 ^ 31 by omega) (show c < 2 ^ 31 by omega), Nat.le_refl]
    exact lm_lost (v2 := none) H hL hL8 k L 0 (by omega)
  | succ n ih =>
    intro c hc
    refine t_X10_lost_9 _ _ _ ?_
    simp only [s_iadd, s_isub, s_imul, s_iand, s_ior, s_ixor, s_ishl, s_ishr, s_iushr, s_idiv, s_irem, s_ladd, s_lsub, s_lmul, s_ldiv, s_lrem, s_ineg, s_i2l, s_l2i, s_i2c, s_lcmp, s_ic, s_lc, s_nul, s_str, s_il, s_ll, s_al, s_dup, s_dup2, s_pop, s_ifne, s_icne, s_ifeq, s_iflt, s_ifge, s_ifgt, s_ifle, s_iceq, s_iclt, s_icge, s_icgt, s_icle, s_ifnull, s_ifnonnull, s_is, s_ls, s_as, s_ii, s_gi, s_gl, s_gr, s_pi, s_pz, s_pl, s_pr, s_iald, s_zald, s_lald, s_aald, s_alen, s_iast, s_zast, s_last, s_iret, s_zret, s_lret, s_aret, s_vret, s_sw, s_aast, mm_sw, mm_ld, mm_s1, mm_s2, mm_kl, Value.category, va_rf, List.nil_append, List.cons_append, Option.toList, true_and, and_true, and_self, true_or, or_true, eq_self, not_true_eq_false, false_implies, true_implies, not_false_eq_true, mm_10, mm_01, false_or, or_false, Nat.left_eq_add, Nat.add_eq_left, Nat.add_left_cancel_iff, Nat.reduceEqDiff, false_and, and_false, reduceIte, mm_kd_pi, mm_ln_pi, mm_gl_pi, mm_gr_pi, mm_sz_pi, mm_gi_pi, mm_kd_pl, mm_ln_pl, mm_gi_pl, mm_gr_pl, mm_sz_pl, mm_gl_pl, mm_kd_pr, mm_ln_pr, mm_gi_pr, mm_gl_pr, mm_sz_pr, mm_gr_pr, mm_kd_pa, mm_ln_pa, mm_gl_pa, mm_gr_pa, mm_sz_pa, mm_gi_pa, W_kd_91 H, W_s_91 H, W_gr_91_2 H, W_gr_91_3 H, W_gr_91_4 H, W_gr_91_5 H, W_gr_91_6 H, W_gr_91_7 H, W_gr_91_9 H, W_gr_91_10 H, W_gr_91_12 H, W_gr_91_22 H, W_gr_91_24 H, W_gr_91_25 H, W_gr_91_27 H, W_gr_91_28 H, W_gr_91_31 H, W_gr_91_32 H, W_gr_91_33 H, W_gr_91_35 H, W_gr_91_36 H, W_gr_91_37 H, W_gr_91_41 H, W_gr_91_42 H, W_gr_91_43 H, W_gr_91_44 H, W_gr_91_45 H, W_gr_91_46 H, W_gr_91_47 H, W_gr_91_48 H, W_gr_91_49 H, W_gr_91_55 H, W_kd_93 H, W_s_93 H, W_ln_93 H, v1, show (1 : Int32).toNatClampNeg = 1 from rfl, hC, nI_leI (show C < 2 ^ 31 by omega) (show c < 2 ^ 31 by omega), show (C ≤ c) = False by simp; omega, l_8, nI_add, vp_in_nI (show 8 + c < 5475 by omega) (show 5475 < 2 ^ 31 by decide), nI_clamp (show 8 + c < 2 ^ 31 by omega), nI_1]
    exact ih (c + 1) (by omega)
theorem ms_lost {L C : Nat} (H : WS h) (hL : mm_gi h 93 0 = nI L) (hL8 : L ≤ 8) (hC : mm_gi h 93 1 = nI C) (hC6 : C ≤ 6) (k : K (some (.int (lsF (opM (mm_gi h 93)) (fun i => mm_gi h 93 (36 + i)) (orF (fun i => mm_gi h 93 (8 + i)) C) L))) (mm_pi h 91 0 0)) : mm_MV q_X10_lost d (0, 0) [.ref 91] h K := by
  refine e_X10_lost (t_X10_lost_0 _ _ _ ?_)
  simp only [s_iadd, s_isub, s_imul, s_iand, s_ior, s_ixor, s_ishl, s_ishr, s_iushr, s_idiv, s_irem, s_ladd, s_lsub, s_lmul, s_ldiv, s_lrem, s_ineg, s_i2l, s_l2i, s_i2c, s_lcmp, s_ic, s_lc, s_nul, s_str, s_il, s_ll, s_al, s_dup, s_dup2, s_pop, s_ifne, s_icne, s_ifeq, s_iflt, s_ifge, s_ifgt, s_ifle, s_iceq, s_iclt, s_icge, s_icgt, s_icle, s_ifnull, s_ifnonnull, s_is, s_ls, s_as, s_ii, s_gi, s_gl, s_gr, s_pi, s_pz, s_pl, s_pr, s_iald, s_zald, s_lald, s_aald, s_alen, s_iast, s_zast, s_last, s_iret, s_zret, s_lret, s_aret, s_vret, s_sw, s_aast, mm_sw, mm_ld, mm_s1, mm_s2, mm_kl, Value.category, va_rf, List.nil_append, List.cons_append, Option.toList, true_and, and_true, and_self, true_or, or_true, eq_self, not_true_eq_false, false_implies, true_implies, not_false_eq_true, mm_10, mm_01, false_or, or_false, Nat.left_eq_add, Nat.add_eq_left, Nat.add_left_cancel_iff, Nat.reduceEqDiff, false_and, and_false, reduceIte, mm_kd_pi, mm_ln_pi, mm_gl_pi, mm_gr_pi, mm_sz_pi, mm_gi_pi, mm_kd_pl, mm_ln_pl, mm_gi_pl, mm_gr_pl, mm_sz_pl, mm_gl_pl, mm_kd_pr, mm_ln_pr, mm_gi_pr, mm_gl_pr, mm_sz_pr, mm_gr_pr, mm_kd_pa, mm_ln_pa, mm_gl_pa, mm_gr_pa, mm_sz_pa, mm_gi_pa, W_kd_91 H, W_s_91 H, W_gr_91_2 H, W_gr_91_3 H, W_gr_91_4 H, W_gr_91_5 H, W_gr_91_6 H, W_gr_91_7 H, W_gr_91_9 H, W_gr_91_10 H, W_gr_91_12 H, W_gr_91_22 H, W_gr_91_24 H, W_gr_91_25 H, W_gr_91_27 H, W_gr_91_28 H, W_gr_91_31 H, W_gr_91_32 H, W_gr_91_33 H, W_gr_91_35 H, W_gr_91_36 H, W_gr_91_37 H, W_gr_91_41 H, W_gr_91_42 H, W_gr_91_43 H, W_gr_91_44 H, W_gr_91_45 H, W_gr_91_46 H, W_gr_91_47 H, W_gr_91_48 H, W_gr_91_49 H, W_gr_91_55 H]
  have e93 : mm_gi (mm_pi h 91 0 0) 93 = mm_gi h 93 := by funext j; rw [mm_gi_pi, if_neg (by omega)]
  exact lm_lostA (g := mm_pi h 91 0 0) H (by rw [e93]; exact hL) hL8 (by rw [e93]; exact hC) hC6 (by rw [e93]; exact k) C 0 (by omega)
/-- likest: the first of the least -/
def lkS (f : Nat → Nat) (s : Int32 × Nat) : Nat → Int32 × Nat
  | 0 => s
  | n + 1 => if f n < (lkS f s n).2 then (nI n, f n) else lkS f s n
theorem lkS_cg {f g : Nat → Nat} {s : Int32 × Nat} : ∀ {n : Nat}, (∀ i, i < n → f i = g i) → lkS f s n = lkS g s n
  | 0, _ => rfl
  | n + 1, e => by simp only [lkS]; rw [lkS_cg (fun i hi => e i (by omega)), e n (by omega)]
theorem lkS_le {f : Nat → Nat} {s : Int32 × Nat} : ∀ n, (lkS f s n).2 ≤ s.2
  | 0 => Nat.le_refl _
  | n + 1 => by
    simp only [lkS]
    have := lkS_le (f := f) (s := s) n
    split
    · show f n ≤ _; omega
    · exact this
theorem lkS_start {f : Nat → Nat} {s t : Int32 × Nat} (hs : f 0 < s.2) (ht : f 0 < t.2) : ∀ n, lkS f s (n + 1) = lkS f t (n + 1)
  | 0 => by simp [lkS, hs, ht]
  | n + 1 => by rw [lkS, lkS_start hs ht n]; rfl
theorem lkS_ne {f : Nat → Nat} {s : Int32 × Nat} (hs : f 0 < s.2) : ∀ n, n < 100 → ∃ j, j ≤ n ∧ (lkS f s (n + 1)).1 = nI j
  | 0, _ => by simp [lkS, hs]
  | n + 1, hn => by
    obtain ⟨j, hj, e⟩ := lkS_ne hs n (by omega)
    rw [lkS]
    split
    · exact ⟨n + 1, Nat.le_refl _, rfl⟩
    · exact ⟨j, by omega, e⟩
end
section
variable {LR : mmH → Nat → (Nat → Int32) → Nat → Prop}
theorem op_30 (FR : LRf LR) : OP_30 (Inv LR) := by
  intro h hI
  obtain ⟨hw, _, _, ⟨S, v, hc, hm, hl, htr⟩, _⟩ := id hI
  have m1 : mm_gi h 93 0 = nI (S 0 0) := hm.1.1
  have m2 : mm_gi h 93 1 = nI (S 0 1) := hm.1.2.1
  have n1 := hm.2.1
  have n2 := hm.2.2.1
  simp only [Nat.zero_add] at n2 n1
  have A8 : S 0 4 < 256 := Nat.lt_of_lt_of_le v.1.2.2.2.2.1 (Nat.pow_le_pow_right (by decide) v.1.1)
  refine sp_lost (d := 999) hw hc.1.1 v.1.1 hc.1.2.1 v.1.2.1 ?_
  refine no_pr (h := h) hw (ms_lost (d := 1000) hw m1 v.1.1 m2 v.1.2.1 ⟨?_, Inv_th FR hI⟩)
  rw [orF_cg (f := fun i => mm_gi h 93 (8 + i)) (g := mm_gi h 8) (fun i hi => (n1 i hi).1.trans (hc.2.1 i hi).1.symm), lsF_cg (op' := opC (mm_gi h 4 5)) (nd' := mm_gi h 6) (fun i hi => ?_) (fun i hi => (n2 i hi).2.1.trans (hc.2.2.1 i hi).2.1.symm)]
  have e1 := bit_at (S 0 4) A8 i (by have := v.1.1; omega)
  unfold opM opC
  rw [(n2 i hi).2.2.2, hc.1.2.2.2.2.1, e1]
  rcases Nat.mod_two_eq_zero_or_one (S 0 4 / 2 ^ i) with z | z <;> rw [z] <;> decide
end
