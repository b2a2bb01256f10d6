/-! the trail, on paper -/
abbrev tEn : Type := Nat × Nat × Nat × (Nat → Nat) × (Nat → Nat)
def CTe (f : Nat → Int32) (C k : Nat) (e : tEn) : Prop := f (15 * k) = nI e.1 ∧ f (15 * k + 1) = nI e.2.1 ∧ f (15 * k + 2) = nI e.2.2.1 ∧ ∀ c, c < C → f (15 * k + 3 + c) = nI (e.2.2.2.1 c) ∧ f (15 * k + 9 + c) = nI (e.2.2.2.2 c)
def MTe (f f7 : Nat → Int32) (S : HSt) (k : Nat) (e : tEn) : Prop := f7 k = nI e.1 ∧ f (23 * k) = nI e.2.2.1 ∧ f (23 * k + 1) = nI (S 9 1) ∧ f (23 * k + 2) = nI (S 9 2) ∧ (∀ c, c < S 0 1 → f (23 * k + 3 + c) = nI (e.2.2.2.1 c) ∧ f (23 * k + 9 + c) = nI (e.2.2.2.2 c)) ∧ ∀ l, l < S 0 0 → f (23 * k + 15 + l) = nI (e.2.1 / 2 ^ l % 2)
def CT (h : mmH) (C n : Nat) (te : Nat → tEn) : Prop := mm_gi h 50 1 = nI n ∧ ∀ k, k < n → CTe (mm_gi h 51) C k (te k)
def MT (h : mmH) (S : HSt) (n : Nat) (te : Nat → tEn) : Prop := mm_gi h 91 8 = nI n ∧ ∀ k, k < n → MTe (mm_gi h 96) (mm_gi h 97) S k (te k)
def TVe (S : HSt) (e : tEn) : Prop := e.1 < 4 ∧ e.2.1 < 2 ^ S 0 0 ∧ e.2.2.1 ≤ 999 ∧ ∀ c, c < S 0 1 → e.2.2.2.1 c < 256 ∧ e.2.2.2.2 c ≤ 99
def TV (S : HSt) (n : Nat) (te : Nat → tEn) : Prop := n ≤ 16 ∧ ∀ k, k < n → TVe S (te k)
theorem trail_of {h : mmH} {S : HSt} (H : I_trail h S) : ∃ n te, TV S n te ∧ CT h (S 0 1) n te ∧ MT h S n te := by
  obtain ⟨n, n1, n2, n3, n4⟩ := H
  have : ∀ k, ∃ e : tEn, k < n → TVe S e ∧ CTe (mm_gi h 51) (S 0 1) k e ∧ MTe (mm_gi h 96) (mm_gi h 97) S k e := fun k => by
    by_cases z : k < n
    · obtain ⟨j, A, D, kn, gw, q1, q2, q3, q4, q5, q6⟩ := n4 k z
      exact ⟨(j, A, D, kn, gw), fun _ => ⟨⟨q1, q2, q3, q4⟩, q5, q6⟩⟩
    · exact ⟨(0, 0, 0, fun _ => 0, fun _ => 0), fun y => absurd y z⟩
  refine ⟨n, fun k => (this k).choose, ⟨n1, fun k hk => ((this k).choose_spec hk).1⟩, ⟨n2, fun k hk => ((this k).choose_spec hk).2.1⟩, n3, fun k hk => ((this k).choose_spec hk).2.2⟩
theorem trail_to {h : mmH} {S : HSt} {n : Nat} {te : Nat → tEn} (v : TV S n te) (c : CT h (S 0 1) n te) (m : MT h S n te) : I_trail h S := by
  refine ⟨n, v.1, c.1, m.1, fun k hk => ?_⟩
  obtain ⟨q1, q2, q3, q4⟩ := v.2 k hk
  exact ⟨(te k).1, (te k).2.1, (te k).2.2.1, (te k).2.2.2.1, (te k).2.2.2.2, q1, q2, q3, q4, c.2 k hk, m.2 k hk⟩
/-- one more entry; 16 are kept -/
def pshN (n : Nat) : Nat := if n = 16 then 16 else n + 1
def pshT (n : Nat) (te : Nat → tEn) (e : tEn) : Nat → tEn := fun k => if n = 16 then (if k = 15 then e else te (k + 1)) else if k = n then e else te k
def entr (S : HSt) (j : Nat) : tEn := (j, S 0 4, S 9 0, S 1, S 2)
theorem TV_psh {S : HSt} {n j : Nat} {te : Nat → tEn} (v : HV S) (hj : j < 4) (H : TV S n te) : TV S (pshN n) (pshT n te (entr S j)) := by
  have he : TVe S (entr S j) := ⟨hj, v.1.2.2.2.2.1, v.2.2.2.2 0 (by decide), fun c hc => ⟨(v.2.1 c hc).1, (v.2.1 c hc).2.1⟩⟩
  have h16 := H.1
  unfold pshN pshT
  by_cases z : n = 16
  · refine ⟨by rw [if_pos z]; omega, fun k hk => ?_⟩
    rw [if_pos z] at hk
    simp only [z, if_true]
    split
    · exact he
    · exact H.2 _ (by omega)
  · refine ⟨by rw [if_neg z]; omega, fun k hk => ?_⟩
    rw [if_neg z] at hk
    simp only [z, if_false]
    split
    · exact he
    · exact H.2 _ (by omega)
/-- S' has the counts and the fixed terms of S -/
def sameC (S S' : HSt) : Prop := S' 0 0 = S 0 0 ∧ S' 0 1 = S 0 1 ∧ S' 9 1 = S 9 1 ∧ S' 9 2 = S 9 2 ∧ S' 0 3 = S 0 3 ∧ S' 0 5 = S 0 5
theorem sameC_rf {S : HSt} : sameC S S := ⟨rfl, rfl, rfl, rfl, rfl, rfl⟩
theorem sameC_tr {S S' S'' : HSt} (a : sameC S S') (b : sameC S' S'') : sameC S S'' := ⟨b.1.trans a.1, b.2.1.trans a.2.1, b.2.2.1.trans a.2.2.1, b.2.2.2.1.trans a.2.2.2.1, b.2.2.2.2.1.trans a.2.2.2.2.1, b.2.2.2.2.2.trans a.2.2.2.2.2⟩
theorem sameC_dS {S : HSt} {A : Option lwD} {kind p q : Nat} (hk : kind < 4) : sameC S (dS S A kind p q) := by
  match kind, hk with
  | 0, _ => exact ⟨rfl, rfl, rfl, rfl, rfl, rfl⟩
  | 1, _ => exact ⟨rfl, rfl, rfl, rfl, rfl, rfl⟩
  | 2, _ => exact ⟨rfl, rfl, rfl, rfl, rfl, rfl⟩
  | 3, _ => refine ⟨?_, ?_, ?_, ?_, ?_, ?_⟩ <;> simp [dS, upS, psS]
theorem TV_c {S S' : HSt} {n : Nat} {te : Nat → tEn} (s : sameC S S') (H : TV S n te) : TV S' n te := ⟨H.1, fun k hk => by
  unfold TVe
  rw [s.1, s.2.1]
  exact H.2 k hk⟩
theorem MT_c {h : mmH} {S S' : HSt} {n : Nat} {te : Nat → tEn} (s : sameC S S') (H : MT h S n te) : MT h S' n te := ⟨H.1, fun k hk => by
  unfold MTe
  rw [s.1, s.2.1, s.2.2.1, s.2.2.2.1]
  exact H.2 k hk⟩
/-! the model remembers -/
def shl (f : Nat → Int32) (s i : Nat) : Nat → Int32 := fun j => if j < i then f (j + s) else f j
theorem shl_0 {f : Nat → Int32} {s : Nat} : shl f s 0 = f := by funext j; unfold shl; rw [if_neg (by omega)]
theorem shl_s {f : Nat → Int32} {s i : Nat} : upd (shl f s i) i (f (i + s)) = shl f s (i + 1) := by
  funext j
  by_cases z : j = i
  · subst z
    rw [pk_us]
    unfold shl
    rw [if_pos (by omega)]
  · rw [pk_un z]
    unfold shl
    by_cases y : j < i
    · rw [if_pos y, if_pos (by omega)]
    · rw [if_neg y, if_neg (by omega)]
def xrm (c j : Nat) : Prop := (c = 91 ∧ j = 8) ∨ (c = 96 ∧ j < 368) ∨ c = 97
theorem fx_pa2 {X : Nat → Nat → Prop} {Y : Nat → Prop} {h g : mmH} {c : Nat} {f : Nat → Int32} (hX : ∀ j, ¬ X c j → f j = mm_gi g c j) (a : fx X Y h g) : fx X Y h (mm_pa g c f) := ⟨a.1, fun b i z => by
  rw [mm_gi_pa]
  by_cases q : b = c
  · subst q
    rw [if_pos rfl, hX i z]
    exact a.2.1 _ i z
  · rw [if_neg q]
    exact a.2.1 b i z, a.2.2⟩
section
variable {d : Nat} {h : mmH} {S : HSt} {K : Option Value → mmH → Prop} {A : Option lwD} {x : Int32} {v2 : Option Value}
theorem rm_77 {m : Nat} (H : WS h) (hm : mm_gi h 91 8 = nI m) (hm15 : m ≤ 15) (k : K none (mm_pi (mm_pi (mm_pa h 96 (va_cpy (mm_gi h 93) (mm_gi h 96) 5 (23 * m) 23)) 97 m x) 91 8 (nI (m + 1)))) : mm_V q_X10_remember (d + 1) (0, 0) K 77 [some (.ref 91), some (.int x), v2] [] h := by
  refine t_X10_remember_77 _ _ _ ?_
  simp only [s_iadd, s_isub, s_imul, s_iand, s_ior, s_ixor, s_ishl, s_ishr, s_iushr, s_idiv, s_irem, s_ladd, s_lsub, s_lmul, s_ldiv, s_lrem, s_ineg, s_i2l, s_l2i, s_i2c, s_lcmp, s_ic, s_lc, s_nul, s_str, s_il, s_ll, s_al, s_dup, s_dup2, s_pop, s_ifne, s_icne, s_ifeq, s_iflt, s_ifge, s_ifgt, s_ifle, s_iceq, s_iclt, s_icge, s_icgt, s_icle, s_ifnull, s_ifnonnull, s_is, s_ls, s_as, s_ii, s_gi, s_gl, s_gr, s_pi, s_pz, s_pl, s_pr, s_iald, s_zald, s_lald, s_aald, s_alen, s_iast, s_zast, s_last, s_iret, s_zret, s_lret, s_aret, s_vret, s_sw, s_aast, mm_sw, mm_ld, mm_s1, mm_s2, mm_kl, Value.category, va_rf, List.nil_append, List.cons_append, Option.toList, true_and, and_true, and_self, true_or, or_true, eq_self, not_true_eq_false, false_implies, true_implies, not_false_eq_true, mm_10, mm_01, false_or, or_false, Nat.left_eq_add, Nat.add_eq_left, Nat.add_left_cancel_iff, Nat.reduceEqDiff, false_and, and_false, reduceIte, mm_kd_pi, mm_ln_pi, mm_gl_pi, mm_gr_pi, mm_sz_pi, mm_gi_pi, mm_kd_pl, mm_ln_pl, mm_gi_pl, mm_gr_pl, mm_sz_pl, mm_gl_pl, mm_kd_pr, mm_ln_pr, mm_gi_pr, mm_gl_pr, mm_sz_pr, mm_gr_pr, mm_kd_pa, mm_ln_pa, mm_gl_pa, mm_gr_pa, mm_sz_pa, mm_gi_pa, W_kd_91 H, W_s_91 H, W_gr_91_2 H, W_gr_91_3 H, W_gr_91_4 H, W_gr_91_5 H, W_gr_91_6 H, W_gr_91_7 H, W_gr_91_9 H, W_gr_91_10 H, W_gr_91_12 H, W_gr_91_22 H, W_gr_91_24 H, W_gr_91_25 H, W_gr_91_27 H, W_gr_91_28 H, W_gr_91_31 H, W_gr_91_32 H, W_gr_91_33 H, W_gr_91_35 H, W_gr_91_36 H, W_gr_91_37 H, W_gr_91_41 H, W_gr_91_42 H, W_gr_91_43 H, W_gr_91_44 H, W_gr_91_45 H, W_gr_91_46 H, W_gr_91_47 H, W_gr_91_48 H, W_gr_91_49 H, W_gr_91_55 H, hm]
  refine c_X10_remember_82 (bb := (0, 0)) (b := (0, 0)) (Nat.le_of_ble_eq_true rfl) ⟨rfl, rfl⟩ (W_kd_91 H) (W_s_91 H) (sp_keepAll H (by omega) ?_)
  have H' : WS (mm_pa h 96 (va_cpy (mm_gi h 93) (mm_gi h 96) 5 (23 * m) 23)) := WS_pa H
  have e : mm_gi (mm_pa h 96 (va_cpy (mm_gi h 93) (mm_gi h 96) 5 (23 * m) 23)) 91 8 = nI m := by rw [mm_gi_pa, if_neg (by decide)]; exact hm
  revert H' e k
  generalize mm_pa h 96 (va_cpy (mm_gi h 93) (mm_gi h 96) 5 (23 * m) 23) = g
  intro k H e
  refine t_X10_remember_85 _ _ _ ?_
  simp only [s_iadd, s_isub, s_imul, s_iand, s_ior, s_ixor, s_ishl, s_ishr, s_iushr, s_idiv, s_irem, s_ladd, s_lsub, s_lmul, s_ldiv, s_lrem, s_ineg, s_i2l, s_l2i, s_i2c, s_lcmp, s_ic, s_lc, s_nul, s_str, s_il, s_ll, s_al, s_dup, s_dup2, s_pop, s_ifne, s_icne, s_ifeq, s_iflt, s_ifge, s_ifgt, s_ifle, s_iceq, s_iclt, s_icge, s_icgt, s_icle, s_ifnull, s_ifnonnull, s_is, s_ls, s_as, s_ii, s_gi, s_gl, s_gr, s_pi, s_pz, s_pl, s_pr, s_iald, s_zald, s_lald, s_aald, s_alen, s_iast, s_zast, s_last, s_iret, s_zret, s_lret, s_aret, s_vret, s_sw, s_aast, mm_sw, mm_ld, mm_s1, mm_s2, mm_kl, Value.category, va_rf, List.nil_append, List.cons_append, Option.toList, true_and, and_true, and_self, true_or, or_true, eq_self, not_true_eq_false, false_implies, true_implies, not_false_eq_true, mm_10, mm_01, false_or, or_false, Nat.left_eq_add, Nat.add_eq_left, Nat.add_left_cancel_iff, Nat.reduceEqDiff, false_and, and_false, reduceIte, mm_kd_pi, mm_ln_pi, mm_gl_pi, mm_gr_pi, mm_sz_pi, mm_gi_pi, mm_kd_pl, mm_ln_pl, mm_gi_pl, mm_gr_pl, mm_sz_pl, mm_gl_pl, mm_kd_pr, mm_ln_pr, mm_gi_pr, mm_gl_pr, mm_sz_pr, mm_gr_pr, mm_kd_pa, mm_ln_pa, mm_gl_pa, mm_gr_pa, mm_sz_pa, mm_gi_pa, W_kd_91 H, W_s_91 H, W_gr_91_2 H, W_gr_91_3 H, W_gr_91_4 H, W_gr_91_5 H, W_gr_91_6 H, W_gr_91_7 H, W_gr_91_9 H, W_gr_91_10 H, W_gr_91_12 H, W_gr_91_22 H, W_gr_91_24 H, W_gr_91_25 H, W_gr_91_27 H, W_gr_91_28 H, W_gr_91_31 H, W_gr_91_32 H, W_gr_91_33 H, W_gr_91_35 H, W_gr_91_36 H, W_gr_91_37 H, W_gr_91_41 H, W_gr_91_42 H, W_gr_91_43 H, W_gr_91_44 H, W_gr_91_45 H, W_gr_91_46 H, W_gr_91_47 H, W_gr_91_48 H, W_gr_91_49 H, W_gr_91_55 H, W_kd_97 H, W_s_97 H, W_ln_97 H, e, nI_clamp (show m < 2 ^ 31 by omega), vp_in_nI (show m < 16 by omega) (show 16 < 2 ^ 31 by decide), nI_1, show (91 = 97) = False by decide]
  exact k
theorem rm_41 (H : WS h) (h8 : mm_gi h 91 8 = nI 16) (k : K none (mm_pi (mm_pi (mm_pa (mm_pi (mm_pa h 97 (shl (mm_gi h 97) 1 15)) 91 8 (nI 15)) 96 (va_cpy (mm_gi h 93) (mm_gi h 96) 5 (23 * 15) 23)) 97 15 x) 91 8 (nI 16))) : ∀ n i, i + n = 15 → mm_V q_X10_remember (d + 1) (0, 0) K 41 [some (.ref 91), some (.int x), some (.int (nI i))] [] (mm_pa h 97 (shl (mm_gi h 97) 1 i)) := by
  intro n
  induction n with
  | zero =>
    intro i hi
    obtain rfl : i = 15 := by omega
    have H' : WS (mm_pa h 97 (shl (mm_gi h 97) 1 15)) := WS_pa H
    have e8 : mm_gi (mm_pa h 97 (shl (mm_gi h 97) 1 15)) 91 8 = nI 16 := by rw [mm_gi_pa, if_neg (by decide)]; exact h8
    have e93 : mm_gi (mm_pi (mm_pa h 97 (shl (mm_gi h 97) 1 15)) 91 8 (nI 15)) 93 = mm_gi h 93 := by funext j; rw [mm_gi_pi, if_neg (by omega), mm_gi_pa, if_neg (by decide)]
    have e96 : mm_gi (mm_pi (mm_pa h 97 (shl (mm_gi h 97) 1 15)) 91 8 (nI 15)) 96 = mm_gi h 96 := by funext j; rw [mm_gi_pi, if_neg (by omega), mm_gi_pa, if_neg (by decide)]
    rw [← e93, ← e96] at k
    revert H' e8 k
    generalize mm_pa h 97 (shl (mm_gi h 97) 1 15) = g
    intro k H' e8
    refine t_X10_remember_41 _ _ _ ?_
    simp only [s_iadd, s_isub, s_imul, s_iand, s_ior, s_ixor, s_ishl, s_ishr, s_iushr, s_idiv, s_irem, s_ladd, s_lsub, s_lmul, s_ldiv, s_lrem, s_ineg, s_i2l, s_l2i, s_i2c, s_lcmp, s_ic, s_lc, s_nul, s_str, s_il, s_ll, s_al, s_dup, s_dup2, s_pop, s_ifne, s_icne, s_ifeq, s_iflt, s_ifge, s_ifgt, s_ifle, s_iceq, s_iclt, s_icge, s_icgt, s_icle, s_ifnull, s_ifnonnull, s_is, s_ls, s_as, s_ii, s_gi, s_gl, s_gr, s_pi, s_pz, s_pl, s_pr, s_iald, s_zald, s_lald, s_aald, s_alen, s_iast, s_zast, s_last, s_iret, s_zret, s_lret, s_aret, s_vret, s_sw, s_aast, mm_sw, mm_ld, mm_s1, mm_s2, mm_kl, Value.category, va_rf, List.nil_append, List.cons_append, Option.toList, true_and, and_true, and_self, true_or, or_true, eq_self, not_true_eq_false, false_implies, true_implies, not_false_eq_true, mm_10, mm_01, false_or, or_false, Nat.left_eq_add, Nat.add_eq_left, Nat.add_left_cancel_iff, Nat.reduceEqDiff, false_and, and_false, reduceIte, mm_kd_pi, mm_ln_pi, mm_gl_pi, mm_gr_pi, mm_sz_pi, mm_gi_pi, mm_kd_pl, mm_ln_pl, mm_gi_pl, mm_gr_pl, mm_sz_pl, mm_gl_pl, mm_kd_pr, mm_ln_pr, mm_gi_pr, mm_gl_pr, mm_sz_pr, mm_gr_pr, mm_kd_pa, mm_ln_pa, mm_gl_pa, mm_gr_pa, mm_sz_pa, mm_gi_pa, W_kd_91 H', W_s_91 H', W_gr_91_2 H', W_gr_91_3 H', W_gr_91_4 H', W_gr_91_5 H', W_gr_91_6 H', W_gr_91_7 H', W_gr_91_9 H', W_gr_91_10 H', W_gr_91_12 H', W_gr_91_22 H', W_gr_91_24 H', W_gr_91_25 H', W_gr_91_27 H', W_gr_91_28 H', W_gr_91_31 H', W_gr_91_32 H', W_gr_91_33 H', W_gr_91_35 H', W_gr_91_36 H', W_gr_91_37 H', W_gr_91_41 H', W_gr_91_42 H', W_gr_91_43 H', W_gr_91_44 H', W_gr_91_45 H', W_gr_91_46 H', W_gr_91_47 H', W_gr_91_48 H', W_gr_91_49 H', W_gr_91_55 H', show ((15 : Int32) ≤ nI 15) = True by decide, e8, nI_pred 15]
    exact rm_77 (m := 15) (WS_pi H') (by rw [mm_gi_pi, if_pos ⟨rfl, rfl⟩]) (by decide) k
  | succ n ih =>
    intro i hi
    have H' : WS (mm_pa h 97 (shl (mm_gi h 97) 1 i)) := WS_pa H
    have e1 : shl (mm_gi h 97) 1 i (i + 1) = mm_gi h 97 (i + 1) := by unfold shl; rw [if_neg (by omega)]
    refine t_X10_remember_41 _ _ _ ?_
    simp only [s_iadd, s_isub, s_imul, s_iand, s_ior, s_ixor, s_ishl, s_ishr, s_iushr, s_idiv, s_irem, s_ladd, s_lsub, s_lmul, s_ldiv, s_lrem, s_ineg, s_i2l, s_l2i, s_i2c, s_lcmp, s_ic, s_lc, s_nul, s_str, s_il, s_ll, s_al, s_dup, s_dup2, s_pop, s_ifne, s_icne, s_ifeq, s_iflt, s_ifge, s_ifgt, s_ifle, s_iceq, s_iclt, s_icge, s_icgt, s_icle, s_ifnull, s_ifnonnull, s_is, s_ls, s_as, s_ii, s_gi, s_gl, s_gr, s_pi, s_pz, s_pl, s_pr, s_iald, s_zald, s_lald, s_aald, s_alen, s_iast, s_zast, s_last, s_iret, s_zret, s_lret, s_aret, s_vret, s_sw, s_aast, mm_sw, mm_ld, mm_s1, mm_s2, mm_kl, Value.category, va_rf, List.nil_append, List.cons_append, Option.toList, true_and, and_true, and_self, true_or, or_true, eq_self, not_true_eq_false, false_implies, true_implies, not_false_eq_true, mm_10, mm_01, false_or, or_false, Nat.left_eq_add, Nat.add_eq_left, Nat.add_left_cancel_iff, Nat.reduceEqDiff, false_and, and_false, reduceIte, mm_kd_pi, mm_ln_pi, mm_gl_pi, mm_gr_pi, mm_sz_pi, mm_gi_pi, mm_kd_pl, mm_ln_pl, mm_gi_pl, mm_gr_pl, mm_sz_pl, mm_gl_pl, mm_kd_pr, mm_ln_pr, mm_gi_pr, mm_gl_pr, mm_sz_pr, mm_gr_pr, mm_kd_pa, mm_ln_pa, mm_gl_pa, mm_gr_pa, mm_sz_pa, mm_gi_pa, W_kd_91 H, W_s_91 H, W_gr_91_2 H, W_gr_91_3 H, W_gr_91_4 H, W_gr_91_5 H, W_gr_91_6 H, W_gr_91_7 H, W_gr_91_9 H, W_gr_91_10 H, W_gr_91_12 H, W_gr_91_22 H, W_gr_91_24 H, W_gr_91_25 H, W_gr_91_27 H, W_gr_91_28 H, W_gr_91_31 H, W_gr_91_32 H, W_gr_91_33 H, W_gr_91_35 H, W_gr_91_36 H, W_gr_91_37 H, W_gr_91_41 H, W_gr_91_42 H, W_gr_91_43 H, W_gr_91_44 H, W_gr_91_45 H, W_gr_91_46 H, W_gr_91_47 H, W_gr_91_48 H, W_gr_91_49 H, W_gr_91_55 H, W_kd_97 H, W_s_97 H, W_ln_97 H, W_kd_91 H', W_s_91 H', W_gr_91_2 H', W_gr_91_3 H', W_gr_91_4 H', W_gr_91_5 H', W_gr_91_6 H', W_gr_91_7 H', W_gr_91_9 H', W_gr_91_10 H', W_gr_91_12 H', W_gr_91_22 H', W_gr_91_24 H', W_gr_91_25 H', W_gr_91_27 H', W_gr_91_28 H', W_gr_91_31 H', W_gr_91_32 H', W_gr_91_33 H', W_gr_91_35 H', W_gr_91_36 H', W_gr_91_37 H', W_gr_91_41 H', W_gr_91_42 H', W_gr_91_43 H', W_gr_91_44 H', W_gr_91_45 H', W_gr_91_46 H', W_gr_91_47 H', W_gr_91_48 H', W_gr_91_49 H', W_gr_91_55 H', W_kd_97 H', W_s_97 H', W_ln_97 H', eq_false (show ¬ (15 : Int32) ≤ nI i from nI_ge (b := 15) (by omega) (by decide)), nI_1, nI_clamp (show i < 2 ^ 31 by omega), nI_clamp (show i + 1 < 2 ^ 31 by omega), vp_in_nI (show i < 16 by omega) (show 16 < 2 ^ 31 by decide), vp_in_nI (show i + 1 < 16 by omega) (show 16 < 2 ^ 31 by decide), e1, mm_pi_pa2, shl_s]
    exact ih (i + 1) (by omega)
theorem rm_11 (H : WS h) (h8 : mm_gi h 91 8 = nI 16) (k : K none (mm_pi (mm_pi (mm_pa (mm_pi (mm_pa (mm_pa h 96 (shl (mm_gi h 96) 23 345)) 97 (shl (mm_gi h 97) 1 15)) 91 8 (nI 15)) 96 (va_cpy (mm_gi h 93) (shl (mm_gi h 96) 23 345) 5 (23 * 15) 23)) 97 15 x) 91 8 (nI 16))) : ∀ n i, i + n = 345 → mm_V q_X10_remember (d + 1) (0, 0) K 11 [some (.ref 91), some (.int x), some (.int (nI i))] [] (mm_pa h 96 (shl (mm_gi h 96) 23 i)) := by
  intro n
  induction n with
  | zero =>
    intro i hi
    obtain rfl : i = 345 := by omega
    refine t_X10_remember_11 _ _ _ ?_
    simp only [s_iadd, s_isub, s_imul, s_iand, s_ior, s_ixor, s_ishl, s_ishr, s_iushr, s_idiv, s_irem, s_ladd, s_lsub, s_lmul, s_ldiv, s_lrem, s_ineg, s_i2l, s_l2i, s_i2c, s_lcmp, s_ic, s_lc, s_nul, s_str, s_il, s_ll, s_al, s_dup, s_dup2, s_pop, s_ifne, s_icne, s_ifeq, s_iflt, s_ifge, s_ifgt, s_ifle, s_iceq, s_iclt, s_icge, s_icgt, s_icle, s_ifnull, s_ifnonnull, s_is, s_ls, s_as, s_ii, s_gi, s_gl, s_gr, s_pi, s_pz, s_pl, s_pr, s_iald, s_zald, s_lald, s_aald, s_alen, s_iast, s_zast, s_last, s_iret, s_zret, s_lret, s_aret, s_vret, s_sw, s_aast, mm_sw, mm_ld, mm_s1, mm_s2, mm_kl, Value.category, va_rf, List.nil_append, List.cons_append, Option.toList, true_and, and_true, and_self, true_or, or_true, eq_self, not_true_eq_false, false_implies, true_implies, not_false_eq_true, mm_10, mm_01, false_or, or_false, Nat.left_eq_add, Nat.add_eq_left, Nat.add_left_cancel_iff, Nat.reduceEqDiff, false_and, and_false, reduceIte, mm_kd_pi, mm_ln_pi, mm_gl_pi, mm_gr_pi, mm_sz_pi, mm_gi_pi, mm_kd_pl, mm_ln_pl, mm_gi_pl, mm_gr_pl, mm_sz_pl, mm_gl_pl, mm_kd_pr, mm_ln_pr, mm_gi_pr, mm_gl_pr, mm_sz_pr, mm_gr_pr, mm_kd_pa, mm_ln_pa, mm_gl_pa, mm_gr_pa, mm_sz_pa, mm_gi_pa, show ((345 : Int32) ≤ nI 345) = True by decide]
    have H' : WS (mm_pa h 96 (shl (mm_gi h 96) 23 345)) := WS_pa H
    have e93 : mm_gi (mm_pa h 96 (shl (mm_gi h 96) 23 345)) 93 = mm_gi h 93 := by funext j; rw [mm_gi_pa, if_neg (by decide)]
    have e97 : mm_gi (mm_pa h 96 (shl (mm_gi h 96) 23 345)) 97 = mm_gi h 97 := by funext j; rw [mm_gi_pa, if_neg (by decide)]
    have e96 : mm_gi (mm_pa h 96 (shl (mm_gi h 96) 23 345)) 96 = shl (mm_gi h 96) 23 345 := by funext j; rw [mm_gi_pa, if_pos rfl]
    have := rm_41 (d := d) (K := K) (x := x) H' (by rw [mm_gi_pa, if_neg (by decide)]; exact h8) (by rw [e93, e97, e96]; exact k) 15 0 (by omega)
    rw [e97, shl_0, ← e97, mm_pa_id] at this
    exact this
  | succ n ih =>
    intro i hi
    have H' : WS (mm_pa h 96 (shl (mm_gi h 96) 23 i)) := WS_pa H
    have e1 : shl (mm_gi h 96) 23 i (i + 23) = mm_gi h 96 (i + 23) := by unfold shl; rw [if_neg (by omega)]
    refine t_X10_remember_11 _ _ _ ?_
    simp only [s_iadd, s_isub, s_imul, s_iand, s_ior, s_ixor, s_ishl, s_ishr, s_iushr, s_idiv, s_irem, s_ladd, s_lsub, s_lmul, s_ldiv, s_lrem, s_ineg, s_i2l, s_l2i, s_i2c, s_lcmp, s_ic, s_lc, s_nul, s_str, s_il, s_ll, s_al, s_dup, s_dup2, s_pop, s_ifne, s_icne, s_ifeq, s_iflt, s_ifge, s_ifgt, s_ifle, s_iceq, s_iclt, s_icge, s_icgt, s_icle, s_ifnull, s_ifnonnull, s_is, s_ls, s_as, s_ii, s_gi, s_gl, s_gr, s_pi, s_pz, s_pl, s_pr, s_iald, s_zald, s_lald, s_aald, s_alen, s_iast, s_zast, s_last, s_iret, s_zret, s_lret, s_aret, s_vret, s_sw, s_aast, mm_sw, mm_ld, mm_s1, mm_s2, mm_kl, Value.category, va_rf, List.nil_append, List.cons_append, Option.toList, true_and, and_true, and_self, true_or, or_true, eq_self, not_true_eq_false, false_implies, true_implies, not_false_eq_true, mm_10, mm_01, false_or, or_false, Nat.left_eq_add, Nat.add_eq_left, Nat.add_left_cancel_iff, Nat.reduceEqDiff, false_and, and_false, reduceIte, mm_kd_pi, mm_ln_pi, mm_gl_pi, mm_gr_pi, mm_sz_pi, mm_gi_pi, mm_kd_pl, mm_ln_pl, mm_gi_pl, mm_gr_pl, mm_sz_pl, mm_gl_pl, mm_kd_pr, mm_ln_pr, mm_gi_pr, mm_gl_pr, mm_sz_pr, mm_gr_pr, mm_kd_pa, mm_ln_pa, mm_gl_pa, mm_gr_pa, mm_sz_pa, mm_gi_pa, W_kd_91 H, W_s_91 H, W_gr_91_2 H, W_gr_91_3 H, W_gr_91_4 H, W_gr_91_5 H, W_gr_91_6 H, W_gr_91_7 H, W_gr_91_9 H, W_gr_91_10 H, W_gr_91_12 H, W_gr_91_22 H, W_gr_91_24 H, W_gr_91_25 H, W_gr_91_27 H, W_gr_91_28 H, W_gr_91_31 H, W_gr_91_32 H, W_gr_91_33 H, W_gr_91_35 H, W_gr_91_36 H, W_gr_91_37 H, W_gr_91_41 H, W_gr_91_42 H, W_gr_91_43 H, W_gr_91_44 H, W_gr_91_45 H, W_gr_91_46 H, W_gr_91_47 H, W_gr_91_48 H, W_gr_91_49 H, W_gr_91_55 H, W_kd_96 H, W_s_96 H, W_ln_96 H, W_kd_91 H', W_s_91 H', W_gr_91_2 H', W_gr_91_3 H', W_gr_91_4 H', W_gr_91_5 H', W_gr_91_6 H', W_gr_91_7 H', W_gr_91_9 H', W_gr_91_10 H', W_gr_91_12 H', W_gr_91_22 H', W_gr_91_24 H', W_gr_91_25 H', W_gr_91_27 H', W_gr_91_28 H', W_gr_91_31 H', W_gr_91_32 H', W_gr_91_33 H', W_gr_91_35 H', W_gr_91_36 H', W_gr_91_37 H', W_gr_91_41 H', W_gr_91_42 H', W_gr_91_43 H', W_gr_91_44 H', W_gr_91_45 H', W_gr_91_46 H', W_gr_91_47 H', W_gr_91_48 H', W_gr_91_49 H', W_gr_91_55 H', W_kd_96 H', W_s_96 H', W_ln_96 H', eq_false (show ¬ (345 : Int32) ≤ nI i from nI_ge (b := 345) (by omega) (by decide)), l_23, nI_add, nI_1, nI_clamp (show i < 2 ^ 31 by omega), nI_clamp (show i + 23 < 2 ^ 31 by omega), vp_in_nI (show i < 414 by omega) (show 414 < 2 ^ 31 by decide), vp_in_nI (show i + 23 < 414 by omega) (show 414 < 2 ^ 31 by decide), e1, mm_pi_pa2, shl_s]
    exact ih (i + 1) (by omega)
theorem MTe_new {f g g7 : Nat → Int32} {m j : Nat} (v : HVx S) (hm : HM f 0 S) (e7 : g7 m = nI j) (e : ∀ i, i < 23 → g (23 * m + i) = f (5 + i)) : MTe g g7 S m (entr S j) := by
  have v1 := v.1.1
  have v2 := v.1.2.1
  obtain ⟨t0, t1, t2⟩ := HM_t hm
  have E : ∀ i, i < 23 → ∀ a, a = 23 * m + i → g a = f (5 + i) := fun i hi a ha => by rw [ha]; exact e i hi
  refine ⟨e7, ?_, ?_, ?_, fun c hc => ⟨?_, ?_⟩, fun l hl => ?_⟩
  · rw [E 0 (by decide) (23 * m) (by omega)]; exact t0
  · rw [E 1 (by decide) _ rfl]; exact t1
  · rw [E 2 (by decide) _ rfl]; exact t2
  · rw [E (3 + c) (by omega) _ (by omega), show 5 + (3 + c) = 8 + c by omega]; exact (HM_c hm hc).1
  · rw [E (9 + c) (by omega) _ (by omega), show 5 + (9 + c) = 14 + c by omega]; exact (HM_c hm hc).2.1
  · rw [E (15 + l) (by omega) _ (by omega), show 5 + (15 + l) = 20 + l by omega]; exact (HM_l hm hl).2.2.2
theorem MTe_mv {f g f7 g7 : Nat → Int32} {k k' : Nat} {e : tEn} (v : HVx S) (e7 : g7 k' = f7 k) (ef : ∀ i, i < 23 → g (23 * k' + i) = f (23 * k + i)) (H : MTe f f7 S k e) : MTe g g7 S k' e := by
  have v1 := v.1.1
  have v2 := v.1.2.1
  obtain ⟨q1, q2, q3, q4, q5, q6⟩ := H
  have E : ∀ i, i < 23 → ∀ a b, a = 23 * k' + i → b = 23 * k + i → g a = f b := fun i hi a b ha hb => by rw [ha, hb]; exact ef i hi
  refine ⟨e7.trans q1, ?_, ?_, ?_, fun c hc => ⟨?_, ?_⟩, fun l hl => ?_⟩
  · rw [E 0 (by decide) (23 * k') (23 * k) (by omega) (by omega)]; exact q2
  · rw [E 1 (by decide) _ (23 * k + 1) rfl rfl]; exact q3
  · rw [E 2 (by decide) _ (23 * k + 2) rfl rfl]; exact q4
  · rw [E (3 + c) (by omega) _ (23 * k + 3 + c) (by omega) (by omega)]; exact (q5 c hc).1
  · rw [E (9 + c) (by omega) _ (23 * k + 9 + c) (by omega) (by omega)]; exact (q5 c hc).2
  · rw [E (15 + l) (by omega) _ (23 * k + 15 + l) (by omega) (by omega)]; exact q6 l hl
theorem sp_remember {n j : Nat} {te : Nat → tEn} (H : WS h) (v : HVx S) (hm : HM (mm_gi h 93) 0 S) (T : MT h S n te) (h16 : n ≤ 16) (k : ∀ g, fx xrm y0 h g → MT g S (pshN n) (pshT n te (entr S j)) → K none g) : mm_MV q_X10_remember (d + 1) (0, 0) [.ref 91, .int (nI j)] h K := by
  have e16 : (nI n = 16) = (n = 16) := propext (nI_eq (b := 16) (by omega) (by decide))
  refine e_X10_remember (t_X10_remember_0 _ _ _ ?_)
  simp only [s_iadd, s_isub, s_imul, s_iand, s_ior, s_ixor, s_ishl, s_ishr, s_iushr, s_idiv, s_irem, s_ladd, s_lsub, s_lmul, s_ldiv, s_lrem, s_ineg, s_i2l, s_l2i, s_i2c, s_lcmp, s_ic, s_lc, s_nul, s_str, s_il, s_ll, s_al, s_dup, s_dup2, s_pop, s_ifne, s_icne, s_ifeq, s_iflt, s_ifge, s_ifgt, s_ifle, s_iceq, s_iclt, s_icge, s_icgt, s_icle, s_ifnull, s_ifnonnull, s_is, s_ls, s_as, s_ii, s_gi, s_gl, s_gr, s_pi, s_pz, s_pl, s_pr, s_iald, s_zald, s_lald, s_aald, s_alen, s_iast, s_zast, s_last, s_iret, s_zret, s_lret, s_aret, s_vret, s_sw, s_aast, mm_sw, mm_ld, mm_s1, mm_s2, mm_kl, Value.category, va_rf, List.nil_append, List.cons_append, Option.toList, true_and, and_true, and_self, true_or, or_true, eq_self, not_true_eq_false, false_implies, true_implies, not_false_eq_true, mm_10, mm_01, false_or, or_false, Nat.left_eq_add, Nat.add_eq_left, Nat.add_left_cancel_iff, Nat.reduceEqDiff, false_and, and_false, reduceIte, mm_kd_pi, mm_ln_pi, mm_gl_pi, mm_gr_pi, mm_sz_pi, mm_gi_pi, mm_kd_pl, mm_ln_pl, mm_gi_pl, mm_gr_pl, mm_sz_pl, mm_gl_pl, mm_kd_pr, mm_ln_pr, mm_gi_pr, mm_gl_pr, mm_sz_pr, mm_gr_pr, mm_kd_pa, mm_ln_pa, mm_gl_pa, mm_gr_pa, mm_sz_pa, mm_gi_pa, W_kd_91 H, W_s_91 H, W_gr_91_2 H, W_gr_91_3 H, W_gr_91_4 H, W_gr_91_5 H, W_gr_91_6 H, W_gr_91_7 H, W_gr_91_9 H, W_gr_91_10 H, W_gr_91_12 H, W_gr_91_22 H, W_gr_91_24 H, W_gr_91_25 H, W_gr_91_27 H, W_gr_91_28 H, W_gr_91_31 H, W_gr_91_32 H, W_gr_91_33 H, W_gr_91_35 H, W_gr_91_36 H, W_gr_91_37 H, W_gr_91_41 H, W_gr_91_42 H, W_gr_91_43 H, W_gr_91_44 H, W_gr_91_45 H, W_gr_91_46 H, W_gr_91_47 H, W_gr_91_48 H, W_gr_91_49 H, W_gr_91_55 H, T.1, e16]
  refine ⟨fun z => ?_, fun z => ?_⟩
  · refine rm_77 (m := n) H T.1 (by omega) (k _ (fx_pi (Or.inl ⟨rfl, rfl⟩) (fx_pi (Or.inr (Or.inr rfl)) (fx_pa2 (fun j q => cpy_no (by unfold xrm at q; omega)) fx_rf))) ?_)
    have e96 : ∀ i, mm_gi (mm_pi (mm_pi (mm_pa h 96 (va_cpy (mm_gi h 93) (mm_gi h 96) 5 (23 * n) 23)) 97 n (nI j)) 91 8 (nI (n + 1))) 96 i = va_cpy (mm_gi h 93) (mm_gi h 96) 5 (23 * n) 23 i := fun i => by rw [mm_gi_pi, if_neg (by omega), mm_gi_pi, if_neg (by omega), mm_gi_pa, if_pos rfl]
    have e97 : ∀ i, mm_gi (mm_pi (mm_pi (mm_pa h 96 (va_cpy (mm_gi h 93) (mm_gi h 96) 5 (23 * n) 23)) 97 n (nI j)) 91 8 (nI (n + 1))) 97 i = if i = n then nI j else mm_gi h 97 i := fun i => by
      rw [mm_gi_pi, if_neg (by omega), mm_gi_pi]
      by_cases y : i = n
      · rw [if_pos ⟨rfl, y⟩, if_pos y]
      · rw [if_neg (fun w => y w.2), if_neg y, mm_gi_pa, if_neg (by decide)]
    refine ⟨by rw [mm_gi_pi, if_pos ⟨rfl, rfl⟩, pshN, if_neg z], fun k hk => ?_⟩
    rw [pshN, if_neg z] at hk
    unfold pshT
    simp only [z, if_false]
    by_cases y : k = n
    · subst y
      rw [if_pos rfl]
      exact MTe_new v hm (by rw [e97, if_pos rfl]) (fun i hi => by rw [e96, cpy_at (by omega) (by omega)]; congr 1; omega)
    · rw [if_neg y]
      exact MTe_mv v (by rw [e97, if_neg y]) (fun i hi => by rw [e96, cpy_no (by omega)]) (T.2 k (by omega))
  · subst z
    have e0 : mm_pa h 96 (shl (mm_gi h 96) 23 0) = h := by rw [shl_0, mm_pa_id]
    have := rm_11 (d := d) (K := K) (x := nI j) H T.1 (k _ (fx_pi (Or.inl ⟨rfl, rfl⟩) (fx_pi (Or.inr (Or.inr rfl)) (fx_pa2 (fun j q => by rw [cpy_no (by unfold xrm at q; omega), mm_gi_pi, if_neg (by omega), mm_gi_pa, if_neg (by decide), mm_gi_pa, if_pos rfl]) (fx_pi (Or.inl ⟨rfl, rfl⟩) (fx_pa (fun j => Or.inr (Or.inr rfl)) (fx_pa2 (fun j q => by unfold shl; rw [if_neg (by unfold xrm at q; omega)]) fx_rf)))))) ?_) 345 0 (by omega)
    · rw [e0] at this
      exact this
    · have e96 : ∀ i, mm_gi (mm_pi (mm_pi (mm_pa (mm_pi (mm_pa (mm_pa h 96 (shl (mm_gi h 96) 23 345)) 97 (shl (mm_gi h 97) 1 15)) 91 8 (nI 15)) 96 (va_cpy (mm_gi h 93) (shl (mm_gi h 96) 23 345) 5 (23 * 15) 23)) 97 15 (nI j)) 91 8 (nI 16)) 96 i = va_cpy (mm_gi h 93) (shl (mm_gi h 96) 23 345) 5 (23 * 15) 23 i := fun i => by rw [mm_gi_pi, if_neg (by omega), mm_gi_pi, if_neg (by omega), mm_gi_pa, if_pos rfl]
      have e97 : ∀ i, mm_gi (mm_pi (mm_pi (mm_pa (mm_pi (mm_pa (mm_pa h 96 (shl (mm_gi h 96) 23 345)) 97 (shl (mm_gi h 97) 1 15)) 91 8 (nI 15)) 96 (va_cpy (mm_gi h 93) (shl (mm_gi h 96) 23 345) 5 (23 * 15) 23)) 97 15 (nI j)) 91 8 (nI 16)) 97 i = if i = 15 then nI j else shl (mm_gi h 97) 1 15 i := fun i => by
        rw [mm_gi_pi, if_neg (by omega), mm_gi_pi]
        by_cases y : i = 15
        · rw [if_pos ⟨rfl, y⟩, if_pos y]
        · rw [if_neg (fun w => y w.2), if_neg y, mm_gi_pa, if_neg (by decide), mm_gi_pi, if_neg (by omega), mm_gi_pa, if_pos rfl]
      refine ⟨by rw [mm_gi_pi, if_pos ⟨rfl, rfl⟩]; rfl, fun k hk => ?_⟩
      have hk : k < 16 := hk
      unfold pshT
      simp only [if_true]
      by_cases y : k = 15
      · subst y
        rw [if_pos rfl]
        exact MTe_new v hm (by rw [e97, if_pos rfl]) (fun i hi => by rw [e96, cpy_at (by omega) (by omega), show 5 + (23 * 15 + i - 23 * 15) = 5 + i by omega])
      · rw [if_neg y]
        exact MTe_mv v (by rw [e97, if_neg y]; unfold shl; rw [if_pos (by omega)]) (fun i hi => by rw [e96, cpy_no (by omega)]; unfold shl; rw [if_pos (by omega)]; congr 1; omega) (T.2 (k + 1) (by omega))
end
