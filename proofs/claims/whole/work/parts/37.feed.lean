/-! feed -/
def shn : Nat → Int32
  | 0 => 24
  | 1 => 16
  | 2 => 8
  | _ => 0
def bt (x : Int32) (i : Nat) : Int32 := (x >>> (shn i &&& 31)) &&& 255
theorem and255 (y : Int32) : ∃ v, v < 256 ∧ y &&& 255 = nI v := by
  have e : (y &&& 255).toUInt32.toNat = y.toUInt32.toNat % 256 := by
    have : (y &&& 255).toUInt32 = y.toUInt32 &&& 255 := rfl
    rw [this, UInt32.toNat_and]
    exact Nat.and_two_pow_sub_one_eq_mod _ 8
  refine ⟨y.toUInt32.toNat % 256, Nat.mod_lt _ (by decide), ?_⟩
  rw [← e]
  show _ = Int32.ofNat _
  rw [Int32.ofNat]
  simp
  rfl
theorem bt_v (x : Int32) (i : Nat) : ∃ v, v < 256 ∧ bt x i = nI v := and255 _
/-- four bytes put behind: the owner's slot s counts them -/
def AP (h : mmH) (a s b n : Nat) (l : List Int32) (g : mmH) : Prop := same5 h g ∧ (∀ c j, c ≠ a → c ≠ b → mm_gi g c j = mm_gi h c j) ∧ (∀ j, j ≠ s → mm_gi g a j = mm_gi h a j) ∧ mm_gi g a s = nI (n + 4 * l.length) ∧ (∀ j, j < n → mm_gi g b j = mm_gi h b j) ∧ ∀ i, i < 4 * l.length → mm_gi g b (n + i) = bt (l.getD (i / 4) 0) (i % 4)
theorem AP_nil {h : mmH} {a s b n : Nat} (hn : mm_gi h a s = nI n) : AP h a s b n [] h := ⟨⟨rfl, rfl, rfl, rfl, rfl⟩, fun _ _ _ _ => rfl, fun _ _ => rfl, hn, fun _ _ => rfl, fun i hi => by simp at hi⟩
theorem AP_app {h g k : mmH} {a s b n : Nat} {l : List Int32} {x : Int32} (J : AP h a s b n l g) (M : AP g a s b (n + 4 * l.length) [x] k) : AP h a s b n (l ++ [x]) k := by
  obtain ⟨⟨s1, s2, s3, s4, s5⟩, a1, a2, a3, a4, a5⟩ := J
  obtain ⟨⟨t1, t2, t3, t4, t5⟩, b1, b2, b3, b4, b5⟩ := M
  refine ⟨⟨t1.trans s1, t2.trans s2, t3.trans s3, t4.trans s4, t5.trans s5⟩, fun c j h1 h2 => (b1 c j h1 h2).trans (a1 c j h1 h2), fun j hj => (b2 j hj).trans (a2 j hj), ?_, fun j hj => (b4 j (by omega)).trans (a4 j hj), fun i hi => ?_⟩
  · rw [b3]; congr 1; simp; omega
  · simp at hi
    by_cases c : i < 4 * l.length
    · rw [b4 _ (by omega), a5 i c]
      congr 1
      simp only [List.getD_eq_getElem?_getD]
      rw [List.getElem?_append_left (by omega)]
    · have := b5 (i - 4 * l.length) (by simp; omega)
      rw [show n + 4 * l.length + (i - 4 * l.length) = n + i by omega] at this
      rw [this]
      have q0 : (i - 4 * l.length) / 4 = 0 := by omega
      have q1 : i / 4 = l.length := by omega
      rw [q0, q1, show (i - 4 * l.length) % 4 = i % 4 by omega]
      simp
theorem ap4_AP {h : mmH} {a s b n : Nat} {x : Int32} (hab : a ≠ b) : AP h a s b n [x] (mm_pi (mm_pa h b (ap4 (mm_gi h b) n x)) a s (nI (n + 4))) := by
  refine ⟨⟨rfl, rfl, rfl, rfl, rfl⟩, fun c j h1 h2 => ?_, fun j hj => ?_, ?_, fun j hj => ?_, fun i hi => ?_⟩
  · rw [mm_gi_pi, if_neg (fun z => h1 z.1), mm_gi_pa, if_neg h2]
  · rw [mm_gi_pi, if_neg (fun z => hj z.2), mm_gi_pa, if_neg hab]
  · rw [mm_gi_pi, if_pos ⟨rfl, rfl⟩]; rfl
  · rw [mm_gi_pi, if_neg (fun z => hab z.1.symm), mm_gi_pa, if_pos rfl]
    unfold ap4 upd
    rw [if_neg (by omega), if_neg (by omega), if_neg (by omega), if_neg (by omega)]
  · rw [mm_gi_pi, if_neg (fun z => hab z.1.symm), mm_gi_pa, if_pos rfl]
    simp at hi
    unfold ap4 upd bt shn
    rcases (show i = 0 ∨ i = 1 ∨ i = 2 ∨ i = 3 by omega) with rfl | rfl | rfl | rfl <;> simp
theorem tpS_same {h g : mmH} {a : Nat} (e : same5 h g) (H : tpS h a) : tpS g a := by
  obtain ⟨⟨h1, h2, h3⟩, h4, h5, h6⟩ := H
  exact ⟨⟨by rw [e.1]; exact h1, by rw [e.2.2.2.2]; exact h2, by rw [e.2.2.2.2]; exact h3⟩, by rw [e.2.2.2.1]; exact h4, by rw [e.1]; exact h5, by rw [e.2.1]; exact h6⟩
section
variable {d : Nat} {h : mmH} {x : Int32} {K : Option Value → mmH → Prop}
theorem sp_app {n : Nat} (H : WS h) (hn : mm_gi h 54 1 = nI n) (hn4 : n + 4 ≤ 400) (k : ∀ g, AP h 54 1 55 n [x] g → K none g) : mm_MV q_X5_append d (0, 0) [.ref 54, .int x] h K :=
  sp_append (W_tp H) hn hn4 (fun h' e => k h' (by rw [e]; exact ap4_AP (by decide)))
theorem sp_feed {n : Nat} {x1 x2 x3 x4 x5 : Int32} (H : WS h) (hn : mm_gi h 54 1 = nI n) (hn4 : n ≤ 400) (k0 : ¬ n + 20 ≤ 400 → K (some (.int (-1))) h) (k1 : n + 20 ≤ 400 → ∀ g, AP h 54 1 55 n [x1, x2, x3, x4, x5] g → K (some (.int (nI (n + 20)))) g) : mm_MV q_X9_feed (d + 1) (0, 0) [.ref 0, .int x1, .int x2, .int x3, .int x4, .int x5] h K := by
  refine e_X9_feed (t_X9_feed_0 _ _ _ ?_)
  simp only [s_iadd, s_isub, s_imul, s_iand, s_ior, s_ixor, s_ishl, s_ishr, s_iushr, s_idiv, s_irem, s_ladd, s_lsub, s_lmul, s_ldiv, s_lrem, s_ineg, s_i2l, s_l2i, s_i2c, s_lcmp, s_ic, s_lc, s_nul, s_str, s_il, s_ll, s_al, s_dup, s_dup2, s_pop, s_ifne, s_icne, s_ifeq, s_iflt, s_ifge, s_ifgt, s_ifle, s_iceq, s_iclt, s_icge, s_icgt, s_icle, s_ifnull, s_ifnonnull, s_is, s_ls, s_as, s_ii, s_gi, s_gl, s_gr, s_pi, s_pz, s_pl, s_pr, s_iald, s_zald, s_lald, s_aald, s_alen, s_iast, s_zast, s_last, s_iret, s_zret, s_lret, s_aret, s_vret, s_sw, s_aast, mm_sw, mm_ld, mm_s1, mm_s2, mm_kl, Value.category, va_rf, List.nil_append, List.cons_append, Option.toList, true_and, and_true, and_self, true_or, or_true, eq_self, not_true_eq_false, false_implies, true_implies, not_false_eq_true, mm_10, mm_01, false_or, or_false, Nat.left_eq_add, Nat.add_eq_left, Nat.add_left_cancel_iff, Nat.reduceEqDiff, false_and, and_false, reduceIte, mm_kd_pi, mm_ln_pi, mm_gl_pi, mm_gr_pi, mm_sz_pi, mm_gi_pi, mm_kd_pl, mm_ln_pl, mm_gi_pl, mm_gr_pl, mm_sz_pl, mm_gl_pl, mm_kd_pr, mm_ln_pr, mm_gi_pr, mm_gl_pr, mm_sz_pr, mm_gr_pr, mm_kd_pa, mm_ln_pa, mm_gl_pa, mm_gr_pa, mm_sz_pa, mm_gi_pa, W_kd_0 H, W_s_0 H, W_gr_0_0 H, W_gr_0_1 H, W_gr_0_2 H, W_gr_0_3 H, W_gr_0_4 H, W_gr_0_5 H, W_gr_0_6 H, W_gr_0_7 H, W_gr_0_8 H, W_gr_0_9 H, W_gr_0_10 H, W_gr_0_11 H]
  refine c_X9_feed_6 (bb := (0, 0)) (b := (0, 0)) (Nat.le_of_ble_eq_true rfl) ⟨rfl, rfl⟩ (W_kd_54 H) (W_s_54 H) (sp_hasRoom (W_tp H) hn hn4 (fun c => ?_) (fun c => ?_)) <;> refine t_X9_feed_9 _ _ _ ?_
  · simp only [s_iadd, s_isub, s_imul, s_iand, s_ior, s_ixor, s_ishl, s_ishr, s_iushr, s_idiv, s_irem, s_ladd, s_lsub, s_lmul, s_ldiv, s_lrem, s_ineg, s_i2l, s_l2i, s_i2c, s_lcmp, s_ic, s_lc, s_nul, s_str, s_il, s_ll, s_al, s_dup, s_dup2, s_pop, s_ifne, s_icne, s_ifeq, s_iflt, s_ifge, s_ifgt, s_ifle, s_iceq, s_iclt, s_icge, s_icgt, s_icle, s_ifnull, s_ifnonnull, s_is, s_ls, s_as, s_ii, s_gi, s_gl, s_gr, s_pi, s_pz, s_pl, s_pr, s_iald, s_zald, s_lald, s_aald, s_alen, s_iast, s_zast, s_last, s_iret, s_zret, s_lret, s_aret, s_vret, s_sw, s_aast, mm_sw, mm_ld, mm_s1, mm_s2, mm_kl, Value.category, va_rf, List.nil_append, List.cons_append, Option.toList, true_and, and_true, and_self, true_or, or_true, eq_self, not_true_eq_false, false_implies, true_implies, not_false_eq_true, mm_10, mm_01, false_or, or_false, Nat.left_eq_add, Nat.add_eq_left, Nat.add_left_cancel_iff, Nat.reduceEqDiff, false_and, and_false, reduceIte, mm_kd_pi, mm_ln_pi, mm_gl_pi, mm_gr_pi, mm_sz_pi, mm_gi_pi, mm_kd_pl, mm_ln_pl, mm_gi_pl, mm_gr_pl, mm_sz_pl, mm_gl_pl, mm_kd_pr, mm_ln_pr, mm_gi_pr, mm_gl_pr, mm_sz_pr, mm_gr_pr, mm_kd_pa, mm_ln_pa, mm_gl_pa, mm_gr_pa, mm_sz_pa, mm_gi_pa, W_kd_0 H, W_s_0 H, W_gr_0_0 H, W_gr_0_1 H, W_gr_0_2 H, W_gr_0_3 H, W_gr_0_4 H, W_gr_0_5 H, W_gr_0_6 H, W_gr_0_7 H, W_gr_0_8 H, W_gr_0_9 H, W_gr_0_10 H, W_gr_0_11 H]
    refine c_X9_feed_19 (bb := (0, 0)) (b := (0, 0)) (Nat.le_of_ble_eq_true rfl) ⟨rfl, rfl⟩ (W_kd_54 H) (W_s_54 H) (sp_app H hn (by omega) (fun g1 J1 => ?_))
    have H1 := WS_same J1.1 H
    refine t_X9_feed_22 _ _ _ ?_
    simp only [s_iadd, s_isub, s_imul, s_iand, s_ior, s_ixor, s_ishl, s_ishr, s_iushr, s_idiv, s_irem, s_ladd, s_lsub, s_lmul, s_ldiv, s_lrem, s_ineg, s_i2l, s_l2i, s_i2c, s_lcmp, s_ic, s_lc, s_nul, s_str, s_il, s_ll, s_al, s_dup, s_dup2, s_pop, s_ifne, s_icne, s_ifeq, s_iflt, s_ifge, s_ifgt, s_ifle, s_iceq, s_iclt, s_icge, s_icgt, s_icle, s_ifnull, s_ifnonnull, s_is, s_ls, s_as, s_ii, s_gi, s_gl, s_gr, s_pi, s_pz, s_pl, s_pr, s_iald, s_zald, s_lald, s_aald, s_alen, s_iast, s_zast, s_last, s_iret, s_zret, s_lret, s_aret, s_vret, s_sw, s_aast, mm_sw, mm_ld, mm_s1, mm_s2, mm_kl, Value.category, va_rf, List.nil_append, List.cons_append, Option.toList, true_and, and_true, and_self, true_or, or_true, eq_self, not_true_eq_false, false_implies, true_implies, not_false_eq_true, mm_10, mm_01, false_or, or_false, Nat.left_eq_add, Nat.add_eq_left, Nat.add_left_cancel_iff, Nat.reduceEqDiff, false_and, and_false, reduceIte, mm_kd_pi, mm_ln_pi, mm_gl_pi, mm_gr_pi, mm_sz_pi, mm_gi_pi, mm_kd_pl, mm_ln_pl, mm_gi_pl, mm_gr_pl, mm_sz_pl, mm_gl_pl, mm_kd_pr, mm_ln_pr, mm_gi_pr, mm_gl_pr, mm_sz_pr, mm_gr_pr, mm_kd_pa, mm_ln_pa, mm_gl_pa, mm_gr_pa, mm_sz_pa, mm_gi_pa, W_kd_0 H1, W_s_0 H1, W_gr_0_0 H1, W_gr_0_1 H1, W_gr_0_2 H1, W_gr_0_3 H1, W_gr_0_4 H1, W_gr_0_5 H1, W_gr_0_6 H1, W_gr_0_7 H1, W_gr_0_8 H1, W_gr_0_9 H1, W_gr_0_10 H1, W_gr_0_11 H1]
    refine c_X9_feed_27 (bb := (0, 0)) (b := (0, 0)) (Nat.le_of_ble_eq_true rfl) ⟨rfl, rfl⟩ (W_kd_54 H1) (W_s_54 H1) (sp_app H1 J1.2.2.2.1 (by simp; omega) (fun g2 J => ?_))
    have J2 := AP_app J1 J
    have H2 := WS_same J2.1 H
    refine t_X9_feed_30 _ _ _ ?_
    simp only [s_iadd, s_isub, s_imul, s_iand, s_ior, s_ixor, s_ishl, s_ishr, s_iushr, s_idiv, s_irem, s_ladd, s_lsub, s_lmul, s_ldiv, s_lrem, s_ineg, s_i2l, s_l2i, s_i2c, s_lcmp, s_ic, s_lc, s_nul, s_str, s_il, s_ll, s_al, s_dup, s_dup2, s_pop, s_ifne, s_icne, s_ifeq, s_iflt, s_ifge, s_ifgt, s_ifle, s_iceq, s_iclt, s_icge, s_icgt, s_icle, s_ifnull, s_ifnonnull, s_is, s_ls, s_as, s_ii, s_gi, s_gl, s_gr, s_pi, s_pz, s_pl, s_pr, s_iald, s_zald, s_lald, s_aald, s_alen, s_iast, s_zast, s_last, s_iret, s_zret, s_lret, s_aret, s_vret, s_sw, s_aast, mm_sw, mm_ld, mm_s1, mm_s2, mm_kl, Value.category, va_rf, List.nil_append, List.cons_append, Option.toList, true_and, and_true, and_self, true_or, or_true, eq_self, not_true_eq_false, false_implies, true_implies, not_false_eq_true, mm_10, mm_01, false_or, or_false, Nat.left_eq_add, Nat.add_eq_left, Nat.add_left_cancel_iff, Nat.reduceEqDiff, false_and, and_false, reduceIte, mm_kd_pi, mm_ln_pi, mm_gl_pi, mm_gr_pi, mm_sz_pi, mm_gi_pi, mm_kd_pl, mm_ln_pl, mm_gi_pl, mm_gr_pl, mm_sz_pl, mm_gl_pl, mm_kd_pr, mm_ln_pr, mm_gi_pr, mm_gl_pr, mm_sz_pr, mm_gr_pr, mm_kd_pa, mm_ln_pa, mm_gl_pa, mm_gr_pa, mm_sz_pa, mm_gi_pa, W_kd_0 H2, W_s_0 H2, W_gr_0_0 H2, W_gr_0_1 H2, W_gr_0_2 H2, W_gr_0_3 H2, W_gr_0_4 H2, W_gr_0_5 H2, W_gr_0_6 H2, W_gr_0_7 H2, W_gr_0_8 H2, W_gr_0_9 H2, W_gr_0_10 H2, W_gr_0_11 H2]
    refine c_X9_feed_35 (bb := (0, 0)) (b := (0, 0)) (Nat.le_of_ble_eq_true rfl) ⟨rfl, rfl⟩ (W_kd_54 H2) (W_s_54 H2) (sp_app H2 J2.2.2.2.1 (by simp; omega) (fun g3 J => ?_))
    have J3 := AP_app J2 J
    have H3 := WS_same J3.1 H
    refine t_X9_feed_38 _ _ _ ?_
    simp only [s_iadd, s_isub, s_imul, s_iand, s_ior, s_ixor, s_ishl, s_ishr, s_iushr, s_idiv, s_irem, s_ladd, s_lsub, s_lmul, s_ldiv, s_lrem, s_ineg, s_i2l, s_l2i, s_i2c, s_lcmp, s_ic, s_lc, s_nul, s_str, s_il, s_ll, s_al, s_dup, s_dup2, s_pop, s_ifne, s_icne, s_ifeq, s_iflt, s_ifge, s_ifgt, s_ifle, s_iceq, s_iclt, s_icge, s_icgt, s_icle, s_ifnull, s_ifnonnull, s_is, s_ls, s_as, s_ii, s_gi, s_gl, s_gr, s_pi, s_pz, s_pl, s_pr, s_iald, s_zald, s_lald, s_aald, s_alen, s_iast, s_zast, s_last, s_iret, s_zret, s_lret, s_aret, s_vret, s_sw, s_aast, mm_sw, mm_ld, mm_s1, mm_s2, mm_kl, Value.category, va_rf, List.nil_append, List.cons_append, Option.toList, true_and, and_true, and_self, true_or, or_true, eq_self, not_true_eq_false, false_implies, true_implies, not_false_eq_true, mm_10, mm_01, false_or, or_false, Nat.left_eq_add, Nat.add_eq_left, Nat.add_left_cancel_iff, Nat.reduceEqDiff, false_and, and_false, reduceIte, mm_kd_pi, mm_ln_pi, mm_gl_pi, mm_gr_pi, mm_sz_pi, mm_gi_pi, mm_kd_pl, mm_ln_pl, mm_gi_pl, mm_gr_pl, mm_sz_pl, mm_gl_pl, mm_kd_pr, mm_ln_pr, mm_gi_pr, mm_gl_pr, mm_sz_pr, mm_gr_pr, mm_kd_pa, mm_ln_pa, mm_gl_pa, mm_gr_pa, mm_sz_pa, mm_gi_pa, W_kd_0 H3, W_s_0 H3, W_gr_0_0 H3, W_gr_0_1 H3, W_gr_0_2 H3, W_gr_0_3 H3, W_gr_0_4 H3, W_gr_0_5 H3, W_gr_0_6 H3, W_gr_0_7 H3, W_gr_0_8 H3, W_gr_0_9 H3, W_gr_0_10 H3, W_gr_0_11 H3]
    refine c_X9_feed_44 (bb := (0, 0)) (b := (0, 0)) (Nat.le_of_ble_eq_true rfl) ⟨rfl, rfl⟩ (W_kd_54 H3) (W_s_54 H3) (sp_app H3 J3.2.2.2.1 (by simp; omega) (fun g4 J => ?_))
    have J4 := AP_app J3 J
    have H4 := WS_same J4.1 H
    refine t_X9_feed_47 _ _ _ ?_
    simp only [s_iadd, s_isub, s_imul, s_iand, s_ior, s_ixor, s_ishl, s_ishr, s_iushr, s_idiv, s_irem, s_ladd, s_lsub, s_lmul, s_ldiv, s_lrem, s_ineg, s_i2l, s_l2i, s_i2c, s_lcmp, s_ic, s_lc, s_nul, s_str, s_il, s_ll, s_al, s_dup, s_dup2, s_pop, s_ifne, s_icne, s_ifeq, s_iflt, s_ifge, s_ifgt, s_ifle, s_iceq, s_iclt, s_icge, s_icgt, s_icle, s_ifnull, s_ifnonnull, s_is, s_ls, s_as, s_ii, s_gi, s_gl, s_gr, s_pi, s_pz, s_pl, s_pr, s_iald, s_zald, s_lald, s_aald, s_alen, s_iast, s_zast, s_last, s_iret, s_zret, s_lret, s_aret, s_vret, s_sw, s_aast, mm_sw, mm_ld, mm_s1, mm_s2, mm_kl, Value.category, va_rf, List.nil_append, List.cons_append, Option.toList, true_and, and_true, and_self, true_or, or_true, eq_self, not_true_eq_false, false_implies, true_implies, not_false_eq_true, mm_10, mm_01, false_or, or_false, Nat.left_eq_add, Nat.add_eq_left, Nat.add_left_cancel_iff, Nat.reduceEqDiff, false_and, and_false, reduceIte, mm_kd_pi, mm_ln_pi, mm_gl_pi, mm_gr_pi, mm_sz_pi, mm_gi_pi, mm_kd_pl, mm_ln_pl, mm_gi_pl, mm_gr_pl, mm_sz_pl, mm_gl_pl, mm_kd_pr, mm_ln_pr, mm_gi_pr, mm_gl_pr, mm_sz_pr, mm_gr_pr, mm_kd_pa, mm_ln_pa, mm_gl_pa, mm_gr_pa, mm_sz_pa, mm_gi_pa, W_kd_0 H4, W_s_0 H4, W_gr_0_0 H4, W_gr_0_1 H4, W_gr_0_2 H4, W_gr_0_3 H4, W_gr_0_4 H4, W_gr_0_5 H4, W_gr_0_6 H4, W_gr_0_7 H4, W_gr_0_8 H4, W_gr_0_9 H4, W_gr_0_10 H4, W_gr_0_11 H4]
    refine c_X9_feed_53 (bb := (0, 0)) (b := (0, 0)) (Nat.le_of_ble_eq_true rfl) ⟨rfl, rfl⟩ (W_kd_54 H4) (W_s_54 H4) (sp_app H4 J4.2.2.2.1 (by simp; omega) (fun g5 J => ?_))
    have J5 := AP_app J4 J
    have H5 := WS_same J5.1 H
    refine t_X9_feed_56 _ _ _ ?_
    simp only [s_iadd, s_isub, s_imul, s_iand, s_ior, s_ixor, s_ishl, s_ishr, s_iushr, s_idiv, s_irem, s_ladd, s_lsub, s_lmul, s_ldiv, s_lrem, s_ineg, s_i2l, s_l2i, s_i2c, s_lcmp, s_ic, s_lc, s_nul, s_str, s_il, s_ll, s_al, s_dup, s_dup2, s_pop, s_ifne, s_icne, s_ifeq, s_iflt, s_ifge, s_ifgt, s_ifle, s_iceq, s_iclt, s_icge, s_icgt, s_icle, s_ifnull, s_ifnonnull, s_is, s_ls, s_as, s_ii, s_gi, s_gl, s_gr, s_pi, s_pz, s_pl, s_pr, s_iald, s_zald, s_lald, s_aald, s_alen, s_iast, s_zast, s_last, s_iret, s_zret, s_lret, s_aret, s_vret, s_sw, s_aast, mm_sw, mm_ld, mm_s1, mm_s2, mm_kl, Value.category, va_rf, List.nil_append, List.cons_append, Option.toList, true_and, and_true, and_self, true_or, or_true, eq_self, not_true_eq_false, false_implies, true_implies, not_false_eq_true, mm_10, mm_01, false_or, or_false, Nat.left_eq_add, Nat.add_eq_left, Nat.add_left_cancel_iff, Nat.reduceEqDiff, false_and, and_false, reduceIte, mm_kd_pi, mm_ln_pi, mm_gl_pi, mm_gr_pi, mm_sz_pi, mm_gi_pi, mm_kd_pl, mm_ln_pl, mm_gi_pl, mm_gr_pl, mm_sz_pl, mm_gl_pl, mm_kd_pr, mm_ln_pr, mm_gi_pr, mm_gl_pr, mm_sz_pr, mm_gr_pr, mm_kd_pa, mm_ln_pa, mm_gl_pa, mm_gr_pa, mm_sz_pa, mm_gi_pa, W_kd_0 H5, W_s_0 H5, W_gr_0_0 H5, W_gr_0_1 H5, W_gr_0_2 H5, W_gr_0_3 H5, W_gr_0_4 H5, W_gr_0_5 H5, W_gr_0_6 H5, W_gr_0_7 H5, W_gr_0_8 H5, W_gr_0_9 H5, W_gr_0_10 H5, W_gr_0_11 H5, W_kd_54 H5, W_s_54 H5, W_gr_54_0 H5]
    rw [J5.2.2.2.1]
    exact k1 c g5 J5
  · simp only [s_iadd, s_isub, s_imul, s_iand, s_ior, s_ixor, s_ishl, s_ishr, s_iushr, s_idiv, s_irem, s_ladd, s_lsub, s_lmul, s_ldiv, s_lrem, s_ineg, s_i2l, s_l2i, s_i2c, s_lcmp, s_ic, s_lc, s_nul, s_str, s_il, s_ll, s_al, s_dup, s_dup2, s_pop, s_ifne, s_icne, s_ifeq, s_iflt, s_ifge, s_ifgt, s_ifle, s_iceq, s_iclt, s_icge, s_icgt, s_icle, s_ifnull, s_ifnonnull, s_is, s_ls, s_as, s_ii, s_gi, s_gl, s_gr, s_pi, s_pz, s_pl, s_pr, s_iald, s_zald, s_lald, s_aald, s_alen, s_iast, s_zast, s_last, s_iret, s_zret, s_lret, s_aret, s_vret, s_sw, s_aast, mm_sw, mm_ld, mm_s1, mm_s2, mm_kl, Value.category, va_rf, List.nil_append, List.cons_append, Option.toList, true_and, and_true, and_self, true_or, or_true, eq_self, not_true_eq_false, false_implies, true_implies, not_false_eq_true, mm_10, mm_01, false_or, or_false, Nat.left_eq_add, Nat.add_eq_left, Nat.add_left_cancel_iff, Nat.reduceEqDiff, false_and, and_false, reduceIte, mm_kd_pi, mm_ln_pi, mm_gl_pi, mm_gr_pi, mm_sz_pi, mm_gi_pi, mm_kd_pl, mm_ln_pl, mm_gi_pl, mm_gr_pl, mm_sz_pl, mm_gl_pl, mm_kd_pr, mm_ln_pr, mm_gi_pr, mm_gl_pr, mm_sz_pr, mm_gr_pr, mm_kd_pa, mm_ln_pa, mm_gl_pa, mm_gr_pa, mm_sz_pa, mm_gi_pa]
    exact k0 c
theorem fo_step {n : Nat} {sh sh2 : Int32} (H : WS h) (hn : mm_gi h 91 13 = nI n) (hn4 : n < 400) (hs : ¬ sh < 0) (hs2 : sh + -8 = sh2) (k : mm_V q_X10_four d (0, 0) K 3 [some (.ref 91), some (.int x), some (.int sh2)] [] (mm_pi (mm_pi h 100 n ((x >>> (sh &&& 31)) &&& 255)) 91 13 (nI (n + 1)))) : mm_V q_X10_four d (0, 0) K 3 [some (.ref 91), some (.int x), some (.int sh)] [] h := by
  refine t_X10_four_3 _ _ _ ?_
  simp only [s_iadd, s_isub, s_imul, s_iand, s_ior, s_ixor, s_ishl, s_ishr, s_iushr, s_idiv, s_irem, s_ladd, s_lsub, s_lmul, s_ldiv, s_lrem, s_ineg, s_i2l, s_l2i, s_i2c, s_lcmp, s_ic, s_lc, s_nul, s_str, s_il, s_ll, s_al, s_dup, s_dup2, s_pop, s_ifne, s_icne, s_ifeq, s_iflt, s_ifge, s_ifgt, s_ifle, s_iceq, s_iclt, s_icge, s_icgt, s_icle, s_ifnull, s_ifnonnull, s_is, s_ls, s_as, s_ii, s_gi, s_gl, s_gr, s_pi, s_pz, s_pl, s_pr, s_iald, s_zald, s_lald, s_aald, s_alen, s_iast, s_zast, s_last, s_iret, s_zret, s_lret, s_aret, s_vret, s_sw, s_aast, mm_sw, mm_ld, mm_s1, mm_s2, mm_kl, Value.category, va_rf, List.nil_append, List.cons_append, Option.toList, true_and, and_true, and_self, true_or, or_true, eq_self, not_true_eq_false, false_implies, true_implies, not_false_eq_true, mm_10, mm_01, false_or, or_false, Nat.left_eq_add, Nat.add_eq_left, Nat.add_left_cancel_iff, Nat.reduceEqDiff, false_and, and_false, reduceIte, mm_kd_pi, mm_ln_pi, mm_gl_pi, mm_gr_pi, mm_sz_pi, mm_gi_pi, mm_kd_pl, mm_ln_pl, mm_gi_pl, mm_gr_pl, mm_sz_pl, mm_gl_pl, mm_kd_pr, mm_ln_pr, mm_gi_pr, mm_gl_pr, mm_sz_pr, mm_gr_pr, mm_kd_pa, mm_ln_pa, mm_gl_pa, mm_gr_pa, mm_sz_pa, mm_gi_pa, W_kd_91 H, W_s_91 H, W_gr_91_2 H, W_gr_91_3 H, W_gr_91_4 H, W_gr_91_5 H, W_gr_91_6 H, W_gr_91_7 H, W_gr_91_9 H, W_gr_91_10 H, W_gr_91_12 H, W_gr_91_22 H, W_gr_91_24 H, W_gr_91_25 H, W_gr_91_27 H, W_gr_91_28 H, W_gr_91_31 H, W_gr_91_32 H, W_gr_91_33 H, W_gr_91_35 H, W_gr_91_36 H, W_gr_91_37 H, W_gr_91_41 H, W_gr_91_42 H, W_gr_91_43 H, W_gr_91_44 H, W_gr_91_45 H, W_gr_91_46 H, W_gr_91_47 H, W_gr_91_48 H, W_gr_91_49 H, W_gr_91_55 H, W_kd_100 H, W_s_100 H, W_ln_100 H, hn, nI_clamp (show n < 2 ^ 31 by omega), vp_in_nI hn4 (show 400 < 2 ^ 31 by decide), nI_1, hs2, show (91 = 100) = False by decide]
  exact ⟨fun c => absurd c hs, fun _ => k⟩
theorem ms_four {n : Nat} (H : WS h) (hn : mm_gi h 91 13 = nI n) (hn4 : n + 4 ≤ 400) (k : ∀ g, AP h 91 13 100 n [x] g → K none g) : mm_MV q_X10_four d (0, 0) [.ref 91, .int x] h K := by
  refine e_X10_four (t_X10_four_0 _ _ _ ?_)
  simp only [s_iadd, s_isub, s_imul, s_iand, s_ior, s_ixor, s_ishl, s_ishr, s_iushr, s_idiv, s_irem, s_ladd, s_lsub, s_lmul, s_ldiv, s_lrem, s_ineg, s_i2l, s_l2i, s_i2c, s_lcmp, s_ic, s_lc, s_nul, s_str, s_il, s_ll, s_al, s_dup, s_dup2, s_pop, s_ifne, s_icne, s_ifeq, s_iflt, s_ifge, s_ifgt, s_ifle, s_iceq, s_iclt, s_icge, s_icgt, s_icle, s_ifnull, s_ifnonnull, s_is, s_ls, s_as, s_ii, s_gi, s_gl, s_gr, s_pi, s_pz, s_pl, s_pr, s_iald, s_zald, s_lald, s_aald, s_alen, s_iast, s_zast, s_last, s_iret, s_zret, s_lret, s_aret, s_vret, s_sw, s_aast, mm_sw, mm_ld, mm_s1, mm_s2, mm_kl, Value.category, va_rf, List.nil_append, List.cons_append, Option.toList, true_and, and_true, and_self, true_or, or_true, eq_self, not_true_eq_false, false_implies, true_implies, not_false_eq_true, mm_10, mm_01, false_or, or_false, Nat.left_eq_add, Nat.add_eq_left, Nat.add_left_cancel_iff, Nat.reduceEqDiff, false_and, and_false, reduceIte, mm_kd_pi, mm_ln_pi, mm_gl_pi, mm_gr_pi, mm_sz_pi, mm_gi_pi, mm_kd_pl, mm_ln_pl, mm_gi_pl, mm_gr_pl, mm_sz_pl, mm_gl_pl, mm_kd_pr, mm_ln_pr, mm_gi_pr, mm_gl_pr, mm_sz_pr, mm_gr_pr, mm_kd_pa, mm_ln_pa, mm_gl_pa, mm_gr_pa, mm_sz_pa, mm_gi_pa]
  refine fo_step (sh2 := 16) H hn (by omega) (by decide) (by decide) ?_
  refine fo_step (n := n + 1) (sh2 := 8) H (by rw [mm_gi_pi]; simp) (by omega) (by decide) (by decide) ?_
  refine fo_step (n := n + 2) (sh2 := 0) H (by rw [mm_gi_pi]; simp) (by omega) (by decide) (by decide) ?_
  refine fo_step (n := n + 3) (sh2 := -8) H (by rw [mm_gi_pi]; simp) (by omega) (by decide) (by decide) ?_
  refine t_X10_four_3 _ _ _ ?_
  simp only [s_iadd, s_isub, s_imul, s_iand, s_ior, s_ixor, s_ishl, s_ishr, s_iushr, s_idiv, s_irem, s_ladd, s_lsub, s_lmul, s_ldiv, s_lrem, s_ineg, s_i2l, s_l2i, s_i2c, s_lcmp, s_ic, s_lc, s_nul, s_str, s_il, s_ll, s_al, s_dup, s_dup2, s_pop, s_ifne, s_icne, s_ifeq, s_iflt, s_ifge, s_ifgt, s_ifle, s_iceq, s_iclt, s_icge, s_icgt, s_icle, s_ifnull, s_ifnonnull, s_is, s_ls, s_as, s_ii, s_gi, s_gl, s_gr, s_pi, s_pz, s_pl, s_pr, s_iald, s_zald, s_lald, s_aald, s_alen, s_iast, s_zast, s_last, s_iret, s_zret, s_lret, s_aret, s_vret, s_sw, s_aast, mm_sw, mm_ld, mm_s1, mm_s2, mm_kl, Value.category, va_rf, List.nil_append, List.cons_append, Option.toList, true_and, and_true, and_self, true_or, or_true, eq_self, not_true_eq_false, false_implies, true_implies, not_false_eq_true, mm_10, mm_01, false_or, or_false, Nat.left_eq_add, Nat.add_eq_left, Nat.add_left_cancel_iff, Nat.reduceEqDiff, false_and, and_false, reduceIte, mm_kd_pi, mm_ln_pi, mm_gl_pi, mm_gr_pi, mm_sz_pi, mm_gi_pi, mm_kd_pl, mm_ln_pl, mm_gi_pl, mm_gr_pl, mm_sz_pl, mm_gl_pl, mm_kd_pr, mm_ln_pr, mm_gi_pr, mm_gl_pr, mm_sz_pr, mm_gr_pr, mm_kd_pa, mm_ln_pa, mm_gl_pa, mm_gr_pa, mm_sz_pa, mm_gi_pa]
  refine ⟨fun _ => ?_, fun c => absurd (by decide) c⟩
  refine k _ ?_
  have e := ap4_AP (h := h) (a := 91) (s := 13) (b := 100) (n := n) (x := x) (by decide)
  refine Eq.mp ?_ e
  congr 1
  unfold mm_pi mm_pa
  congr 3
  funext b j
  by_cases hb : b = 91
  · subst hb
    by_cases hj : j = 13 <;> simp [hj]
  · by_cases hb2 : b = 100
    · subst hb2
      simp [ap4, upd, mm_gi]
    · simp [hb, hb2]
theorem ms_feed {n : Nat} {x1 x2 x3 x4 x5 : Int32} (H : WS h) (hn : mm_gi h 91 13 = nI n) (hn4 : n ≤ 400) (k0 : ¬ n + 20 ≤ 400 → K (some (.int (-1))) (mm_pi h 91 0 0)) (k1 : n + 20 ≤ 400 → ∀ g, AP (mm_pi h 91 0 0) 91 13 100 n [x1, x2, x3, x4, x5] g → K (some (.int (nI (n + 20)))) g) : mm_MV q_X10_feed (d + 1) (0, 0) [.ref 91, .int x1, .int x2, .int x3, .int x4, .int x5] h K := by
  refine e_X10_feed (t_X10_feed_0 _ _ _ ?_)
  simp only [s_iadd, s_isub, s_imul, s_iand, s_ior, s_ixor, s_ishl, s_ishr, s_iushr, s_idiv, s_irem, s_ladd, s_lsub, s_lmul, s_ldiv, s_lrem, s_ineg, s_i2l, s_l2i, s_i2c, s_lcmp, s_ic, s_lc, s_nul, s_str, s_il, s_ll, s_al, s_dup, s_dup2, s_pop, s_ifne, s_icne, s_ifeq, s_iflt, s_ifge, s_ifgt, s_ifle, s_iceq, s_iclt, s_icge, s_icgt, s_icle, s_ifnull, s_ifnonnull, s_is, s_ls, s_as, s_ii, s_gi, s_gl, s_gr, s_pi, s_pz, s_pl, s_pr, s_iald, s_zald, s_lald, s_aald, s_alen, s_iast, s_zast, s_last, s_iret, s_zret, s_lret, s_aret, s_vret, s_sw, s_aast, mm_sw, mm_ld, mm_s1, mm_s2, mm_kl, Value.category, va_rf, List.nil_append, List.cons_append, Option.toList, true_and, and_true, and_self, true_or, or_true, eq_self, not_true_eq_false, false_implies, true_implies, not_false_eq_true, mm_10, mm_01, false_or, or_false, Nat.left_eq_add, Nat.add_eq_left, Nat.add_left_cancel_iff, Nat.reduceEqDiff, false_and, and_false, reduceIte, mm_kd_pi, mm_ln_pi, mm_gl_pi, mm_gr_pi, mm_sz_pi, mm_gi_pi, mm_kd_pl, mm_ln_pl, mm_gi_pl, mm_gr_pl, mm_sz_pl, mm_gl_pl, mm_kd_pr, mm_ln_pr, mm_gi_pr, mm_gl_pr, mm_sz_pr, mm_gr_pr, mm_kd_pa, mm_ln_pa, mm_gl_pa, mm_gr_pa, mm_sz_pa, mm_gi_pa, W_kd_91 H, W_s_91 H, W_gr_91_2 H, W_gr_91_3 H, W_gr_91_4 H, W_gr_91_5 H, W_gr_91_6 H, W_gr_91_7 H, W_gr_91_9 H, W_gr_91_10 H, W_gr_91_12 H, W_gr_91_22 H, W_gr_91_24 H, W_gr_91_25 H, W_gr_91_27 H, W_gr_91_28 H, W_gr_91_31 H, W_gr_91_32 H, W_gr_91_33 H, W_gr_91_35 H, W_gr_91_36 H, W_gr_91_37 H, W_gr_91_41 H, W_gr_91_42 H, W_gr_91_43 H, W_gr_91_44 H, W_gr_91_45 H, W_gr_91_46 H, W_gr_91_47 H, W_gr_91_48 H, W_gr_91_49 H, W_gr_91_55 H, hn, l_20, l_400, nI_add, show (13 = 0) = False by decide]
  refine ⟨fun c => ?_, fun c => k0 (fun z => c (nI_le z (by decide)))⟩
  have c := (nI_leI (by omega) (by decide)).mp c
  have H : WS (mm_pi h 91 0 0) := H
  have hn : mm_gi (mm_pi h 91 0 0) 91 13 = nI n := by rw [mm_gi_pi, if_neg (by decide)]; exact hn
  revert k1 H hn
  generalize mm_pi h 91 0 0 = g0
  intro k1 H hn
  refine c_X10_feed_22 (bb := (0, 0)) (b := (0, 0)) (Nat.le_of_ble_eq_true rfl) ⟨rfl, rfl⟩ (W_kd_91 H) (W_s_91 H) (ms_four H hn (by omega) (fun g1 J1 => ?_))
  have H1 := WS_same J1.1 H
  refine t_X10_feed_25 _ _ _ ?_
  simp only [s_iadd, s_isub, s_imul, s_iand, s_ior, s_ixor, s_ishl, s_ishr, s_iushr, s_idiv, s_irem, s_ladd, s_lsub, s_lmul, s_ldiv, s_lrem, s_ineg, s_i2l, s_l2i, s_i2c, s_lcmp, s_ic, s_lc, s_nul, s_str, s_il, s_ll, s_al, s_dup, s_dup2, s_pop, s_ifne, s_icne, s_ifeq, s_iflt, s_ifge, s_ifgt, s_ifle, s_iceq, s_iclt, s_icge, s_icgt, s_icle, s_ifnull, s_ifnonnull, s_is, s_ls, s_as, s_ii, s_gi, s_gl, s_gr, s_pi, s_pz, s_pl, s_pr, s_iald, s_zald, s_lald, s_aald, s_alen, s_iast, s_zast, s_last, s_iret, s_zret, s_lret, s_aret, s_vret, s_sw, s_aast, mm_sw, mm_ld, mm_s1, mm_s2, mm_kl, Value.category, va_rf, List.nil_append, List.cons_append, Option.toList, true_and, and_true, and_self, true_or, or_true, eq_self, not_true_eq_false, false_implies, true_implies, not_false_eq_true, mm_10, mm_01, false_or, or_false, Nat.left_eq_add, Nat.add_eq_left, Nat.add_left_cancel_iff, Nat.reduceEqDiff, false_and, and_false, reduceIte, mm_kd_pi, mm_ln_pi, mm_gl_pi, mm_gr_pi, mm_sz_pi, mm_gi_pi, mm_kd_pl, mm_ln_pl, mm_gi_pl, mm_gr_pl, mm_sz_pl, mm_gl_pl, mm_kd_pr, mm_ln_pr, mm_gi_pr, mm_gl_pr, mm_sz_pr, mm_gr_pr, mm_kd_pa, mm_ln_pa, mm_gl_pa, mm_gr_pa, mm_sz_pa, mm_gi_pa]
  refine c_X10_feed_27 (bb := (0, 0)) (b := (0, 0)) (Nat.le_of_ble_eq_true rfl) ⟨rfl, rfl⟩ (W_kd_91 H1) (W_s_91 H1) (ms_four H1 J1.2.2.2.1 (by simp; omega) (fun g2 J => ?_))
  have J2 := AP_app J1 J
  have H2 := WS_same J2.1 H
  refine t_X10_feed_30 _ _ _ ?_
  simp only [s_iadd, s_isub, s_imul, s_iand, s_ior, s_ixor, s_ishl, s_ishr, s_iushr, s_idiv, s_irem, s_ladd, s_lsub, s_lmul, s_ldiv, s_lrem, s_ineg, s_i2l, s_l2i, s_i2c, s_lcmp, s_ic, s_lc, s_nul, s_str, s_il, s_ll, s_al, s_dup, s_dup2, s_pop, s_ifne, s_icne, s_ifeq, s_iflt, s_ifge, s_ifgt, s_ifle, s_iceq, s_iclt, s_icge, s_icgt, s_icle, s_ifnull, s_ifnonnull, s_is, s_ls, s_as, s_ii, s_gi, s_gl, s_gr, s_pi, s_pz, s_pl, s_pr, s_iald, s_zald, s_lald, s_aald, s_alen, s_iast, s_zast, s_last, s_iret, s_zret, s_lret, s_aret, s_vret, s_sw, s_aast, mm_sw, mm_ld, mm_s1, mm_s2, mm_kl, Value.category, va_rf, List.nil_append, List.cons_append, Option.toList, true_and, and_true, and_self, true_or, or_true, eq_self, not_true_eq_false, false_implies, true_implies, not_false_eq_true, mm_10, mm_01, false_or, or_false, Nat.left_eq_add, Nat.add_eq_left, Nat.add_left_cancel_iff, Nat.reduceEqDiff, false_and, and_false, reduceIte, mm_kd_pi, mm_ln_pi, mm_gl_pi, mm_gr_pi, mm_sz_pi, mm_gi_pi, mm_kd_pl, mm_ln_pl, mm_gi_pl, mm_gr_pl, mm_sz_pl, mm_gl_pl, mm_kd_pr, mm_ln_pr, mm_gi_pr, mm_gl_pr, mm_sz_pr, mm_gr_pr, mm_kd_pa, mm_ln_pa, mm_gl_pa, mm_gr_pa, mm_sz_pa, mm_gi_pa]
  refine c_X10_feed_32 (bb := (0, 0)) (b := (0, 0)) (Nat.le_of_ble_eq_true rfl) ⟨rfl, rfl⟩ (W_kd_91 H2) (W_s_91 H2) (ms_four H2 J2.2.2.2.1 (by simp; omega) (fun g3 J => ?_))
  have J3 := AP_app J2 J
  have H3 := WS_same J3.1 H
  refine t_X10_feed_35 _ _ _ ?_
  simp only [s_iadd, s_isub, s_imul, s_iand, s_ior, s_ixor, s_ishl, s_ishr, s_iushr, s_idiv, s_irem, s_ladd, s_lsub, s_lmul, s_ldiv, s_lrem, s_ineg, s_i2l, s_l2i, s_i2c, s_lcmp, s_ic, s_lc, s_nul, s_str, s_il, s_ll, s_al, s_dup, s_dup2, s_pop, s_ifne, s_icne, s_ifeq, s_iflt, s_ifge, s_ifgt, s_ifle, s_iceq, s_iclt, s_icge, s_icgt, s_icle, s_ifnull, s_ifnonnull, s_is, s_ls, s_as, s_ii, s_gi, s_gl, s_gr, s_pi, s_pz, s_pl, s_pr, s_iald, s_zald, s_lald, s_aald, s_alen, s_iast, s_zast, s_last, s_iret, s_zret, s_lret, s_aret, s_vret, s_sw, s_aast, mm_sw, mm_ld, mm_s1, mm_s2, mm_kl, Value.category, va_rf, List.nil_append, List.cons_append, Option.toList, true_and, and_true, and_self, true_or, or_true, eq_self, not_true_eq_false, false_implies, true_implies, not_false_eq_true, mm_10, mm_01, false_or, or_false, Nat.left_eq_add, Nat.add_eq_left, Nat.add_left_cancel_iff, Nat.reduceEqDiff, false_and, and_false, reduceIte, mm_kd_pi, mm_ln_pi, mm_gl_pi, mm_gr_pi, mm_sz_pi, mm_gi_pi, mm_kd_pl, mm_ln_pl, mm_gi_pl, mm_gr_pl, mm_sz_pl, mm_gl_pl, mm_kd_pr, mm_ln_pr, mm_gi_pr, mm_gl_pr, mm_sz_pr, mm_gr_pr, mm_kd_pa, mm_ln_pa, mm_gl_pa, mm_gr_pa, mm_sz_pa, mm_gi_pa]
  refine c_X10_feed_38 (bb := (0, 0)) (b := (0, 0)) (Nat.le_of_ble_eq_true rfl) ⟨rfl, rfl⟩ (W_kd_91 H3) (W_s_91 H3) (ms_four H3 J3.2.2.2.1 (by simp; omega) (fun g4 J => ?_))
  have J4 := AP_app J3 J
  have H4 := WS_same J4.1 H
  refine t_X10_feed_41 _ _ _ ?_
  simp only [s_iadd, s_isub, s_imul, s_iand, s_ior, s_ixor, s_ishl, s_ishr, s_iushr, s_idiv, s_irem, s_ladd, s_lsub, s_lmul, s_ldiv, s_lrem, s_ineg, s_i2l, s_l2i, s_i2c, s_lcmp, s_ic, s_lc, s_nul, s_str, s_il, s_ll, s_al, s_dup, s_dup2, s_pop, s_ifne, s_icne, s_ifeq, s_iflt, s_ifge, s_ifgt, s_ifle, s_iceq, s_iclt, s_icge, s_icgt, s_icle, s_ifnull, s_ifnonnull, s_is, s_ls, s_as, s_ii, s_gi, s_gl, s_gr, s_pi, s_pz, s_pl, s_pr, s_iald, s_zald, s_lald, s_aald, s_alen, s_iast, s_zast, s_last, s_iret, s_zret, s_lret, s_aret, s_vret, s_sw, s_aast, mm_sw, mm_ld, mm_s1, mm_s2, mm_kl, Value.category, va_rf, List.nil_append, List.cons_append, Option.toList, true_and, and_true, and_self, true_or, or_true, eq_self, not_true_eq_false, false_implies, true_implies, not_false_eq_true, mm_10, mm_01, false_or, or_false, Nat.left_eq_add, Nat.add_eq_left, Nat.add_left_cancel_iff, Nat.reduceEqDiff, false_and, and_false, reduceIte, mm_kd_pi, mm_ln_pi, mm_gl_pi, mm_gr_pi, mm_sz_pi, mm_gi_pi, mm_kd_pl, mm_ln_pl, mm_gi_pl, mm_gr_pl, mm_sz_pl, mm_gl_pl, mm_kd_pr, mm_ln_pr, mm_gi_pr, mm_gl_pr, mm_sz_pr, mm_gr_pr, mm_kd_pa, mm_ln_pa, mm_gl_pa, mm_gr_pa, mm_sz_pa, mm_gi_pa]
  refine c_X10_feed_44 (bb := (0, 0)) (b := (0, 0)) (Nat.le_of_ble_eq_true rfl) ⟨rfl, rfl⟩ (W_kd_91 H4) (W_s_91 H4) (ms_four H4 J4.2.2.2.1 (by simp; omega) (fun g5 J => ?_))
  have J5 := AP_app J4 J
  have H5 := WS_same J5.1 H
  refine t_X10_feed_47 _ _ _ ?_
  simp only [s_iadd, s_isub, s_imul, s_iand, s_ior, s_ixor, s_ishl, s_ishr, s_iushr, s_idiv, s_irem, s_ladd, s_lsub, s_lmul, s_ldiv, s_lrem, s_ineg, s_i2l, s_l2i, s_i2c, s_lcmp, s_ic, s_lc, s_nul, s_str, s_il, s_ll, s_al, s_dup, s_dup2, s_pop, s_ifne, s_icne, s_ifeq, s_iflt, s_ifge, s_ifgt, s_ifle, s_iceq, s_iclt, s_icge, s_icgt, s_icle, s_ifnull, s_ifnonnull, s_is, s_ls, s_as, s_ii, s_gi, s_gl, s_gr, s_pi, s_pz, s_pl, s_pr, s_iald, s_zald, s_lald, s_aald, s_alen, s_iast, s_zast, s_last, s_iret, s_zret, s_lret, s_aret, s_vret, s_sw, s_aast, mm_sw, mm_ld, mm_s1, mm_s2, mm_kl, Value.category, va_rf, List.nil_append, List.cons_append, Option.toList, true_and, and_true, and_self, true_or, or_true, eq_self, not_true_eq_false, false_implies, true_implies, not_false_eq_true, mm_10, mm_01, false_or, or_false, Nat.left_eq_add, Nat.add_eq_left, Nat.add_left_cancel_iff, Nat.reduceEqDiff, false_and, and_false, reduceIte, mm_kd_pi, mm_ln_pi, mm_gl_pi, mm_gr_pi, mm_sz_pi, mm_gi_pi, mm_kd_pl, mm_ln_pl, mm_gi_pl, mm_gr_pl, mm_sz_pl, mm_gl_pl, mm_kd_pr, mm_ln_pr, mm_gi_pr, mm_gl_pr, mm_sz_pr, mm_gr_pr, mm_kd_pa, mm_ln_pa, mm_gl_pa, mm_gr_pa, mm_sz_pa, mm_gi_pa, W_kd_91 H5, W_s_91 H5, W_gr_91_2 H5, W_gr_91_3 H5, W_gr_91_4 H5, W_gr_91_5 H5, W_gr_91_6 H5, W_gr_91_7 H5, W_gr_91_9 H5, W_gr_91_10 H5, W_gr_91_12 H5, W_gr_91_22 H5, W_gr_91_24 H5, W_gr_91_25 H5, W_gr_91_27 H5, W_gr_91_28 H5, W_gr_91_31 H5, W_gr_91_32 H5, W_gr_91_33 H5, W_gr_91_35 H5, W_gr_91_36 H5, W_gr_91_37 H5, W_gr_91_41 H5, W_gr_91_42 H5, W_gr_91_43 H5, W_gr_91_44 H5, W_gr_91_45 H5, W_gr_91_46 H5, W_gr_91_47 H5, W_gr_91_48 H5, W_gr_91_49 H5, W_gr_91_55 H5]
  rw [J5.2.2.2.1]
  exact k1 c g5 J5
end
section
variable {LR : mmH → Nat → (Nat → Int32) → Nat → Prop}
theorem op_6 (FR : LRf LR) : OP_6 (Inv LR) := by
  intro x1 x2 x3 x4 x5 h hI
  obtain ⟨hw, hms, ⟨n, n4, t1, t2, t3⟩, ⟨S, v, hc, hm, hl, htr⟩, _⟩ := id hI
  refine sp_feed (d := 999) hw t1 n4 (fun c => ?_) (fun c g G => ?_)
  · exact no_pr (h := h) (g := h) hw (ms_feed (d := 999) (h := h) hw t2 n4 (fun _ => ⟨rfl, Inv_th FR hI⟩) (fun z => absurd z c))
  · obtain ⟨G5, g1, g2, g3, g4, g5⟩ := G
    have gw := WS_same G5 hw
    refine no_pr (h := h) (g := g) gw (ms_feed (d := 999) (h := g) gw (by rw [g1 91 13 (by decide) (by decide)]; exact t2) n4 (fun z => absurd c z) (fun _ k M => ⟨rfl, ?_⟩))
    obtain ⟨M5, m1, m2, m3, m4, m5⟩ := M
    have h5 : same5 h k := ⟨M5.1.trans G5.1, M5.2.1.trans G5.2.1, M5.2.2.1.trans G5.2.2.1, M5.2.2.2.1.trans G5.2.2.2.1, M5.2.2.2.2.trans G5.2.2.2.2⟩
    have eo : ∀ c j, c ≠ 54 → c ≠ 55 → c ≠ 91 → c ≠ 100 → mm_gi k c j = mm_gi h c j := fun c j a1 a2 a3 a4 => by rw [m1 c j a3 a4, mm_gi_pi, if_neg (fun z => a3 z.1), g1 c j a1 a2]
    have e91 : ∀ j, j ≠ 0 → j ≠ 13 → mm_gi k 91 j = mm_gi h 91 j := fun j a b => by rw [m2 j b, mm_gi_pi, if_neg (fun z => a z.2), g1 91 j (by decide) (by decide)]
    have e93 : mm_gi k 93 = mm_gi h 93 := funext fun j => eo 93 j (by decide) (by decide) (by decide) (by decide)
    have kC : ∀ j, mm_gi k 55 j = mm_gi g 55 j := fun j => by rw [m1 55 j (by decide) (by decide), mm_gi_pi, if_neg (by omega)]
    have kL : mm_gi k 54 1 = nI (n + 20) := by rw [m1 54 1 (by decide) (by decide), mm_gi_pi, if_neg (by decide), g3]; rfl
    have kM : ∀ j, mm_gi (mm_pi g 91 0 0) 100 j = mm_gi h 100 j := fun j => by rw [mm_gi_pi, if_neg (by omega), g1 100 j (by decide) (by decide)]
    refine Inv_h (S := S) (S' := S) FR hI h5 hl (I_misc_ac hms (by rw [eo 0 12 (by decide) (by decide) (by decide) (by decide), e91 1 (by decide) (by decide)]; exact hms.1.1) (fun j _ => eo 0 j (by decide) (by decide) (by decide) (by decide)) (fun j hj => e91 j (by omega) (by omega)) (eo 56 4 (by decide) (by decide) (by decide) (by decide)) (fun j => eo 90 j (by decide) (by decide) (by decide) (by decide)) (fun j => eo 92 j (by decide) (by decide) (by decide) (by decide))) ⟨n + 20, c, kL, m3, fun i hi => ?_⟩ v (HC_cg (fun c j a b => eo c j (by omega) (by omega) (by omega) (by omega)) hc) (by rw [e93]; exact hm) rfl (I_trail_cg (S := S) (eo 50 1 (by decide) (by decide) (by decide) (by decide)) (e91 8 (by decide) (by decide)) (fun j => eo 51 j (by decide) (by decide) (by decide) (by decide)) (fun j => eo 96 j (by decide) (by decide) (by decide) (by decide)) (fun j => eo 97 j (by decide) (by decide) (by decide) (by decide)) ⟨rfl, rfl, rfl, rfl⟩ htr) (fun j hj => by rw [e93]) (fun c j hk => ?_)
    · by_cases z : i < n
      · rw [kC, g4 i z, m4 i z, kM]
        exact t3 i z
      · obtain ⟨v, hv, e⟩ := bt_v ([x1, x2, x3, x4, x5].getD ((i - n) / 4) 0) ((i - n) % 4)
        refine ⟨v, hv, ?_, ?_⟩
        · have := g5 (i - n) (by simp; omega)
          rw [show n + (i - n) = i by omega, e] at this
          rw [kC]; exact this
        · have := m5 (i - n) (by simp; omega)
          rw [show n + (i - n) = i by omega, e] at this
          exact this
    · unfold kpc at hk
      by_cases z : c = 91
      · subst z; exact e91 j (by omega) (by omega)
      · exact eo c j (by omega) (by omega) z (by omega)
end
