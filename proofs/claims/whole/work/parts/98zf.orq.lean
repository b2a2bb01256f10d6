/-! orders: what may move -/
def xOr (c j : Nat) : Prop := (c = 0 ∧ j ≠ 14) ∨ c = 2 ∨ c = 3 ∨ (4 ≤ c ∧ c ≤ 13) ∨ (15 ≤ c ∧ c ≤ 24) ∨ (50 ≤ c ∧ c ≤ 53) ∨ (c = 54 ∧ j = 1) ∨ (56 ≤ c ∧ c ≤ 65) ∨ c = 90 ∨ c = 92 ∨ (c = 91 ∧ j ≠ 11 ∧ j ≠ 56) ∨ (c = 93 ∧ j < 75) ∨ (96 ≤ c ∧ c ≤ 99) ∨ (101 ≤ c ∧ c ≤ 105) ∨ c = 120
def OQ (h g : mmH) : Prop := (mm_kd g = mm_kd h ∧ mm_ln g = mm_ln h ∧ mm_sz g = mm_sz h) ∧ (∀ c j, c ≠ 14 → c ≠ 25 → mm_gr g c j = mm_gr h c j) ∧ (∀ j, j < 6 → mm_gr g 14 j = mm_gr h 14 j) ∧ (∀ j, j < 6 → mm_gr g 25 j = mm_gr h 25 j ∨ mm_gr g 25 j = mm_gr h 14 j) ∧ (∀ c j, ¬ xOr c j → mm_gi g c j = mm_gi h c j) ∧ ∀ c, c ≠ 91 → c ≠ 109 → c ≠ 110 → c ≠ 111 → mm_gl g c = mm_gl h c
section
variable {h g k : mmH} {S : HSt} {A : Option lwD} {n : Nat} {te : Nat → tEn}
theorem OQ_tr (a : OQ h g) (b : OQ g k) : OQ h k := by
  obtain ⟨⟨a1, a2, a3⟩, a4, a5, a6, a7, a8⟩ := a
  obtain ⟨⟨b1, b2, b3⟩, b4, b5, b6, b7, b8⟩ := b
  refine ⟨⟨b1.trans a1, b2.trans a2, b3.trans a3⟩, fun c j q1 q2 => (b4 c j q1 q2).trans (a4 c j q1 q2), fun j hj => (b5 j hj).trans (a5 j hj), fun j hj => ?_, fun c j q => (b7 c j q).trans (a7 c j q), fun c q1 q2 q3 q4 => (b8 c q1 q2 q3 q4).trans (a8 c q1 q2 q3 q4)⟩
  rcases b6 j hj with e | e
  · rw [e]; exact a6 j hj
  · exact Or.inr (e.trans (a5 j hj))
theorem OQ_fx {X : Nat → Nat → Prop} {Y : Nat → Prop} (F : fx X Y h g) (hX : ∀ c j, X c j → xOr c j) (hY : ∀ c, Y c → c = 91 ∨ c = 109 ∨ c = 110 ∨ c = 111) : OQ h g :=
  ⟨⟨F.1.1, F.1.2.1, F.1.2.2.2⟩, fun c j _ _ => by rw [F.1.2.2.1], fun j _ => by rw [F.1.2.2.1], fun j _ => Or.inl (by rw [F.1.2.2.1]), fun c j q => F.2.1 c j (fun z => q (hX c j z)), fun c q1 q2 q3 q4 => F.2.2.1 c (fun z => by have := hY c z; omega)⟩
theorem OQ_pi {c j : Nat} {x : Int32} (hx : xOr c j) : OQ h (mm_pi h c j x) := OQ_fx (fx_pi (X := xOr) (Y := y0) hx fx_rf) (fun _ _ q => q) (fun _ q => q.elim)
theorem OQ_pa {c : Nat} {f : Nat → Int32} (hx : ∀ j, ¬ xOr c j → f j = mm_gi h c j) : OQ h (mm_pa h c f) := OQ_fx (fx_pa2 (X := xOr) (Y := y0) hx fx_rf) (fun _ _ q => q) (fun _ q => q.elim)
theorem OQ_c15 (C : CP h 15 4 g) : OQ h g := by
  obtain ⟨⟨c1, c2, c3, c4⟩, c5, _, _, c6, c7⟩ := C
  exact ⟨⟨c1, c2, c4⟩, fun c j _ q => c6 c j q, fun j _ => c6 14 j (by decide), fun j hj => Or.inr (c7 j hj), fun c j q => c5 c j (by unfold xOr at q; omega), fun c _ _ _ _ => by rw [c3]⟩
theorem OQ_c4 (C : CP h 4 15 g) (e : ∀ j, j < 6 → mm_gr h 25 j = mm_gr h 14 j) : OQ h g := by
  obtain ⟨⟨c1, c2, c3, c4⟩, c5, _, _, c6, c7⟩ := C
  exact ⟨⟨c1, c2, c4⟩, fun c j q _ => c6 c j q, fun j hj => (c7 j hj).trans (e j hj), fun j _ => Or.inl (c6 25 j (by decide)), fun c j q => c5 c j (by unfold xOr at q; omega), fun c _ _ _ _ => by rw [c3]⟩
theorem OQ_WS (a : OQ h g) (H : WS h) : WS g := WS_cg a.1.1 a.1.2.1 a.1.2.2 (fun c j q1 q2 _ _ _ => a.2.1 c j q1 q2) H
theorem OQ_big (a : OQ h g) : ∀ c, 122 ≤ c → mm_kd g c = mm_kd h c ∧ mm_ln g c = mm_ln h c ∧ (∀ j, mm_gi g c j = mm_gi h c j) ∧ ∀ j, mm_gr g c j = mm_gr h c j := fun c hc => ⟨by rw [a.1.1], by rw [a.1.2.1], fun j => a.2.2.2.2.1 c j (by unfold xOr; omega), fun j => a.2.1 c j (by omega) (by omega)⟩
theorem OQ_CAL (a : OQ h g) (v : HV S) (H : CAL h 4 S A) : CAL g 4 S A := by
  have v4 := v.1.2.2.2.1
  have v6 := v.1.2.2.2.2.2
  refine ⟨fun j hj => ?_, ?_⟩
  · obtain ⟨t, e⟩ := H.1 j hj
    exact ⟨t, (a.2.2.1 j (by omega)).trans e⟩
  · rcases H.2 with q | ⟨t, L, q1, q2, q3, q4, q5, q6⟩
    · exact Or.inl q
    · exact Or.inr ⟨t, L, q1, (a.2.2.1 _ (by omega)).trans q2, q3, CLW_cg (fun c c1 c2 c3 => OQ_big a c (by omega)) (by rw [a.1.2.2]; exact Nat.le_refl _) q4, q5, q6⟩
theorem OQ_CI (a : OQ h g) (e : ∀ c j, (4 ≤ c ∧ c ≤ 13) ∨ c = 50 ∨ c = 51 → mm_gi g c j = mm_gi h c j) (H : CI h S A n te) : CI g S A n te := by
  obtain ⟨q1, q2, q3, q4, q5, q6⟩ := H
  refine ⟨OQ_WS a q1, q2, HC_cg (fun c j c1 c2 => e c j (by omega)) q3, OQ_CAL a q2 q4, ⟨(e 50 1 (by omega)).trans q5.1, ?_⟩, q6⟩
  rw [show mm_gi g 51 = mm_gi h 51 from funext fun j => e 51 j (by omega)]
  exact q5.2
theorem MI_q (a : OQ h g) (e93 : ∀ j, mm_gi g 93 j = mm_gi h 93 j) (e20 : mm_gi g 91 20 = 0) (e8 : mm_gi g 91 8 = mm_gi h 91 8) (e96 : ∀ j, j < 368 → mm_gi g 96 j = mm_gi h 96 j) (e97 : ∀ j, mm_gi g 97 j = mm_gi h 97 j) (H : MI h S A n te) : MI g S A n te := by
  obtain ⟨q1, q2, q3, q4, q5, q6, q7⟩ := H
  have ef : mm_gi g 93 = mm_gi h 93 := funext e93
  exact ⟨OQ_WS a q1, q2, by rw [ef]; exact q3, by rw [ef]; exact q4, e20, ⟨e8.trans q6.1, fun k hk => MTe_mv (HV_x q2) (e97 k) (fun i hi => e96 _ (by omega)) (q6.2 k hk)⟩, q7⟩
theorem Inv_or {S' : HSt} (hI : Inv LRw h) (a : OQ h g) (hl : HLw LRw h 4 (mm_gi h 93) 0 (S 0 3)) (v : HV S) (hmisc : I_misc g) (t1 : mm_gi g 54 1 = 0) (t2 : mm_gi g 91 13 = 0) (e20 : mm_gi g 91 20 = 0) (v' : HV S') (e3 : S' 0 3 = S 0 3) (hc : HC g 4 S') (hm : HM (mm_gi g 93) 0 S') (ht : I_trail g S') : Inv LRw g := by
  obtain ⟨hw, -, -, -, i0, i1, sc, ⟨lr1, lr2⟩, c1, c2, c3, c4, c5, c6⟩ := hI
  have Hg := OQ_WS a hw
  have big := OQ_big a
  obtain ⟨⟨a1, a2, a3⟩, a4, a5, a6, a7, a8⟩ := id a
  have ref : ∀ b, b + 10 ≠ 14 → b + 10 ≠ 25 → (∀ w, w < 6 → ∀ t, mm_gr h (b + 10) w = some t → 122 ≤ t ∧ mm_kd h t = 6 ∧ t < mm_sz h) → ∀ w, w < 6 → ∀ t, mm_gr g (b + 10) w = some t → 122 ≤ t ∧ mm_kd g t = 6 ∧ t < mm_sz g := by
    intro b b1 b2 H w hw6 t ht
    rw [a4 _ _ b1 b2] at ht
    rw [a1, a3]
    exact H w hw6 t ht
  have img : ∀ k b, b = 27 ∨ b = 38 → I_img LRw h k b → I_img LRw g k b := by
    intro k b hb H
    refine ⟨ref b (by omega) (by omega) H.1, ?_⟩
    rw [a7 49 k (by unfold xOr; omega), a7 95 k (by unfold xOr; omega)]
    rcases H.2 with z | ⟨z1, z2, S, v, c, m, lw⟩
    · exact Or.inl z
    · have ef : mm_gi g 94 = mm_gi h 94 := funext fun j => a7 94 j (by unfold xOr; omega)
      refine Or.inr ⟨z1, z2, S, v, HC_cg (fun c j q1 q2 => a7 c j (by unfold xOr; omega)) c, by rw [ef]; exact m, ?_⟩
      exact HLw_cp FRw v.1.2.2.2.1 (fun c hc _ => big c hc) (by rw [a3]; exact Nat.le_refl _) (fun w _ => a4 _ _ (by omega) (by omega)) (fun j _ _ => by rw [ef]) lw
  have hl' : HLw LRw g 4 (mm_gi g 93) 0 (S' 0 3) := by
    rw [e3]
    exact HLw_cp FRw v.1.2.2.2.1 (fun c hc _ => big c hc) (by rw [a3]; exact Nat.le_refl _) (fun w hw => a5 w hw) (fun j j1 _ => a7 93 _ (by unfold xOr; omega)) hl
  refine ⟨Hg, hmisc, ⟨0, by decide, t1, t2, fun i hi => by omega⟩, ⟨S', v', hc, hm, hl', ht⟩, img 0 27 (Or.inl rfl) i0, img 1 38 (Or.inr rfl) i1, ?_, ⟨?_, ref 79 (by decide) (by decide) lr2⟩, ?_, ?_, ?_, ?_, ?_, e20⟩
  · obtain ⟨c, q1, q2, q3, q4⟩ := sc
    refine ⟨c, q1, (a7 79 6 (by unfold xOr; omega)).trans q2, ?_, fun i hi => ?_⟩
    · rw [a7 91 56 (by unfold xOr; omega)]; exact q3
    · rw [a7 83 i (by unfold xOr; omega), a7 85 i (by unfold xOr; omega), a7 121 i (by unfold xOr; omega), a7 121 (6 + i) (by unfold xOr; omega)]
      exact q4 i hi
  · intro w hw6 t ht
    rw [a1, a3]
    rcases a6 w hw6 with e | e
    · have ht : mm_gr g 25 w = some t := ht
      rw [e] at ht
      exact lr1 w hw6 t ht
    · have ht : mm_gr g 25 w = some t := ht
      rw [e] at ht
      exact hl.2 w hw6 t ht
  · rw [a8 106 (by decide) (by decide) (by decide) (by decide)]; exact c1
  · rw [a8 107 (by decide) (by decide) (by decide) (by decide)]; exact c2
  · rw [a8 108 (by decide) (by decide) (by decide) (by decide)]; exact c3
  · rw [a8 118 (by decide) (by decide) (by decide) (by decide)]; exact c4
  · rw [a8 119 (by decide) (by decide) (by decide) (by decide)]; exact c5
end
/-! the whole run, on paper -/
def ORt (A : Option lwD) (x : cDt) : Nat → oS → Option oS → Prop
  | 0, s, r => r = some s
  | m + 1, s, r => (ONx A x s none ∧ r = none) ∨ ∃ s', ONx A x s (some s') ∧ ORt A x m s' r
def ORc (A : Option lwD) (cl : Nat → cDt) : Nat → Nat → oS → Nat ⊕ oS → Prop
  | 0, _, s, r => r = .inr s
  | k + 1, i, s, r => (ORt A (cl i) (cl i).2.2.2.1 s none ∧ r = .inl i) ∨ ∃ s', ORt A (cl i) (cl i).2.2.2.1 s (some s') ∧ ORc A cl k (i + 1) s' r
section
variable {d : Nat} {h h0 : mmH} {K : Option Value → mmH → Prop} {A : Option lwD} {N z : Nat} {I : xIn} {cl : Nat → cDt}
theorem lp_ot {i B : Nat} (n12 : N ≤ 12) (hi : i < N) (wf : WFo (cl i)) (hB : B ≤ 240) (htm : (cl i).2.2.2.1 ≤ 20) (P : Option oS → Prop) (k1 : ∀ g s', P (some s') → COr A g s' → CX g N z I cl → mm_gi g 58 0 = nI N → fx xRn y0 h0 g → s'.2.2.2.1 ≤ B → ∀ v4, mm_V q_X9_orders (d + 8) (0, 0) K 75 [some (.ref 0), some (.int 1), some (.ref 58), some (.int (nI (i + 1))), v4] [] g) (k0 : ∀ g, P none → CX g N z I cl → fx xRn y0 h0 g → ∀ v4, mm_V q_X9_orders (d + 8) (0, 0) K 103 [some (.ref 0), some (.int 1), some (.ref 58), some (.int (nI i)), some (.int v4)] [.int 0] g) : ∀ m s h tm', tm' + m = (cl i).2.2.2.1 → COr A h s → CX h N z I cl → mm_gi h 58 0 = nI N → fx xRn y0 h0 h → s.2.2.2.1 + m ≤ B → (∀ r, ORt A (cl i) m s r → P r) → mm_V q_X9_orders (d + 8) (0, 0) K 86 [some (.ref 0), some (.int 1), some (.ref 58), some (.int (nI i)), some (.int (nI tm'))] [] h := by
  intro m
  induction m with
  | zero =>
    intro s h tm' ht C X eN F hb up
    obtain rfl : tm' = (cl i).2.2.2.1 := by omega
    have H := C.1.1
    obtain ⟨x1, x2, x3, x4, x5, x6⟩ := X.2.2 i hi
    refine t_X9_orders_86 _ _ _ ?_
    simp only [s_iadd, s_isub, s_imul, s_iand, s_ior, s_ixor, s_ishl, s_ishr, s_iushr, s_idiv, s_irem, s_ladd, s_lsub, s_lmul, s_ldiv, s_lrem, s_ineg, s_i2l, s_l2i, s_i2c, s_lcmp, s_ic, s_lc, s_nul, s_str, s_il, s_ll, s_al, s_dup, s_dup2, s_pop, s_ifne, s_icne, s_ifeq, s_iflt, s_ifge, s_ifgt, s_ifle, s_iceq, s_iclt, s_icge, s_icgt, s_icle, s_ifnull, s_ifnonnull, s_is, s_ls, s_as, s_ii, s_gi, s_gl, s_gr, s_pi, s_pz, s_pl, s_pr, s_iald, s_zald, s_lald, s_aald, s_alen, s_iast, s_zast, s_last, s_iret, s_zret, s_lret, s_aret, s_vret, s_sw, s_aast, mm_sw, mm_ld, mm_s1, mm_s2, mm_kl, Value.category, va_rf, List.nil_append, List.cons_append, Option.toList, true_and, and_true, and_self, true_or, or_true, eq_self, not_true_eq_false, false_implies, true_implies, not_false_eq_true, mm_10, mm_01, false_or, or_false, Nat.left_eq_add, Nat.add_eq_left, Nat.add_left_cancel_iff, Nat.reduceEqDiff, false_and, and_false, reduceIte, mm_kd_pi, mm_ln_pi, mm_gl_pi, mm_gr_pi, mm_sz_pi, mm_gi_pi, mm_kd_pl, mm_ln_pl, mm_gi_pl, mm_gr_pl, mm_sz_pl, mm_gl_pl, mm_kd_pr, mm_ln_pr, mm_gi_pr, mm_gl_pr, mm_sz_pr, mm_gr_pr, mm_kd_pa, mm_ln_pa, mm_gl_pa, mm_gr_pa, mm_sz_pa, mm_gi_pa, W_kd_58 H, W_s_58 H, W_gr_58_1 H, W_gr_58_2 H, W_gr_58_3 H, W_gr_58_4 H, W_gr_58_5 H, W_gr_58_7 H, W_gr_58_8 H, W_kd_62 H, W_s_62 H, W_ln_62 H, nI_clamp (show i < 2 ^ 31 by omega), vp_in_nI (show i < 12 by omega) (show 12 < 2 ^ 31 by decide), x4.1, eq_true (nI_le (Nat.le_refl (cl i).2.2.2.1) (show (cl i).2.2.2.1 < 2 ^ 31 by omega)), nI_1]
    exact k1 h s (up _ rfl) C X eN F (by omega) _
  | succ m ih =>
    intro s h tm' ht C X eN F hb up
    have H := C.1.1
    obtain ⟨x1, x2, x3, x4, x5, x6⟩ := X.2.2 i hi
    refine t_X9_orders_86 _ _ _ ?_
    simp only [s_iadd, s_isub, s_imul, s_iand, s_ior, s_ixor, s_ishl, s_ishr, s_iushr, s_idiv, s_irem, s_ladd, s_lsub, s_lmul, s_ldiv, s_lrem, s_ineg, s_i2l, s_l2i, s_i2c, s_lcmp, s_ic, s_lc, s_nul, s_str, s_il, s_ll, s_al, s_dup, s_dup2, s_pop, s_ifne, s_icne, s_ifeq, s_iflt, s_ifge, s_ifgt, s_ifle, s_iceq, s_iclt, s_icge, s_icgt, s_icle, s_ifnull, s_ifnonnull, s_is, s_ls, s_as, s_ii, s_gi, s_gl, s_gr, s_pi, s_pz, s_pl, s_pr, s_iald, s_zald, s_lald, s_aald, s_alen, s_iast, s_zast, s_last, s_iret, s_zret, s_lret, s_aret, s_vret, s_sw, s_aast, mm_sw, mm_ld, mm_s1, mm_s2, mm_kl, Value.category, va_rf, List.nil_append, List.cons_append, Option.toList, true_and, and_true, and_self, true_or, or_true, eq_self, not_true_eq_false, false_implies, true_implies, not_false_eq_true, mm_10, mm_01, false_or, or_false, Nat.left_eq_add, Nat.add_eq_left, Nat.add_left_cancel_iff, Nat.reduceEqDiff, false_and, and_false, reduceIte, mm_kd_pi, mm_ln_pi, mm_gl_pi, mm_gr_pi, mm_sz_pi, mm_gi_pi, mm_kd_pl, mm_ln_pl, mm_gi_pl, mm_gr_pl, mm_sz_pl, mm_gl_pl, mm_kd_pr, mm_ln_pr, mm_gi_pr, mm_gl_pr, mm_sz_pr, mm_gr_pr, mm_kd_pa, mm_ln_pa, mm_gl_pa, mm_gr_pa, mm_sz_pa, mm_gi_pa, W_kd_58 H, W_s_58 H, W_gr_58_1 H, W_gr_58_2 H, W_gr_58_3 H, W_gr_58_4 H, W_gr_58_5 H, W_gr_58_7 H, W_gr_58_8 H, W_kd_62 H, W_s_62 H, W_ln_62 H, nI_clamp (show i < 2 ^ 31 by omega), vp_in_nI (show i < 12 by omega) (show 12 < 2 ^ 31 by decide), x4.1, eq_false (nI_ge (show tm' < (cl i).2.2.2.1 by omega) (show (cl i).2.2.2.1 < 2 ^ 31 by omega))]
    refine c_X9_orders_100 (bb := (0, 0)) (b := (0, 0)) (Nat.le_of_ble_eq_true rfl) ⟨rfl, rfl⟩ (W_kd_0 H) (W_s_0 H) (sp_runOnce (d := d) C X hi wf (fun g s' R C' dd F' => ?_) (fun g R F' => ?_))
    · have C'' : COr A g s' := by
        rcases C' with C' | C'
        · exact C'
        · omega
      refine t_X9_orders_103 _ _ _ ?_
      simp only [s_iadd, s_isub, s_imul, s_iand, s_ior, s_ixor, s_ishl, s_ishr, s_iushr, s_idiv, s_irem, s_ladd, s_lsub, s_lmul, s_ldiv, s_lrem, s_ineg, s_i2l, s_l2i, s_i2c, s_lcmp, s_ic, s_lc, s_nul, s_str, s_il, s_ll, s_al, s_dup, s_dup2, s_pop, s_ifne, s_icne, s_ifeq, s_iflt, s_ifge, s_ifgt, s_ifle, s_iceq, s_iclt, s_icge, s_icgt, s_icle, s_ifnull, s_ifnonnull, s_is, s_ls, s_as, s_ii, s_gi, s_gl, s_gr, s_pi, s_pz, s_pl, s_pr, s_iald, s_zald, s_lald, s_aald, s_alen, s_iast, s_zast, s_last, s_iret, s_zret, s_lret, s_aret, s_vret, s_sw, s_aast, mm_sw, mm_ld, mm_s1, mm_s2, mm_kl, Value.category, va_rf, List.nil_append, List.cons_append, Option.toList, true_and, and_true, and_self, true_or, or_true, eq_self, not_true_eq_false, false_implies, true_implies, not_false_eq_true, mm_10, mm_01, false_or, or_false, Nat.left_eq_add, Nat.add_eq_left, Nat.add_left_cancel_iff, Nat.reduceEqDiff, false_and, and_false, reduceIte, mm_kd_pi, mm_ln_pi, mm_gl_pi, mm_gr_pi, mm_sz_pi, mm_gi_pi, mm_kd_pl, mm_ln_pl, mm_gi_pl, mm_gr_pl, mm_sz_pl, mm_gl_pl, mm_kd_pr, mm_ln_pr, mm_gi_pr, mm_gl_pr, mm_sz_pr, mm_gr_pr, mm_kd_pa, mm_ln_pa, mm_gl_pa, mm_gr_pa, mm_sz_pa, mm_gi_pa, show ((1 : Int32) = 0) = False by decide, nI_1]
      exact ih s' g (tm' + 1) (by omega) C'' (CX_fx F' (fun c j c1 c2 => by unfold xRn; omega) X) ((F'.2.1 58 0 (by unfold xRn; omega)).trans eN) (fx_tr F F') (by omega) (fun r q => up r (Or.inr ⟨s', R, q⟩))
    · exact k0 g (up _ (Or.inl ⟨R, rfl⟩)) (CX_fx F' (fun c j c1 c2 => by unfold xRn; omega) X) (fx_tr F F') _
theorem lp_oc (n12 : N ≤ 12) (wf : ∀ i, i < N → WFo (cl i)) (P : Nat ⊕ oS → Prop) (k1 : ∀ g s', P (.inr s') → COr A g s' → fx xRn y0 h0 g → s'.2.2.2.1 ≤ 240 → K (some (.int (nI s'.2.2.2.1))) (acH g)) (k0 : ∀ g i, P (.inl i) → i < N → fx xRn y0 h0 g → ∀ v4, mm_V q_X9_orders (d + 8) (0, 0) K 103 [some (.ref 0), some (.int 1), some (.ref 58), some (.int (nI i)), some (.int v4)] [.int 0] g) : ∀ k i s h v4, i + k = N → COr A h s → CX h N z I cl → mm_gi h 58 0 = nI N → fx xRn y0 h0 h → s.2.2.2.1 + 20 * k ≤ 240 → (∀ r, ORc A cl k i s r → P r) → mm_V q_X9_orders (d + 8) (0, 0) K 75 [some (.ref 0), some (.int 1), some (.ref 58), some (.int (nI i)), v4] [] h := by
  intro k
  induction k with
  | zero =>
    intro i s h v4 hi C X eN F hb up
    obtain rfl : i = N := by omega
    have H := C.1.1
    refine t_X9_orders_75 _ _ _ ?_
    simp only [s_iadd, s_isub, s_imul, s_iand, s_ior, s_ixor, s_ishl, s_ishr, s_iushr, s_idiv, s_irem, s_ladd, s_lsub, s_lmul, s_ldiv, s_lrem, s_ineg, s_i2l, s_l2i, s_i2c, s_lcmp, s_ic, s_lc, s_nul, s_str, s_il, s_ll, s_al, s_dup, s_dup2, s_pop, s_ifne, s_icne, s_ifeq, s_iflt, s_ifge, s_ifgt, s_ifle, s_iceq, s_iclt, s_icge, s_icgt, s_icle, s_ifnull, s_ifnonnull, s_is, s_ls, s_as, s_ii, s_gi, s_gl, s_gr, s_pi, s_pz, s_pl, s_pr, s_iald, s_zald, s_lald, s_aald, s_alen, s_iast, s_zast, s_last, s_iret, s_zret, s_lret, s_aret, s_vret, s_sw, s_aast, mm_sw, mm_ld, mm_s1, mm_s2, mm_kl, Value.category, va_rf, List.nil_append, List.cons_append, Option.toList, true_and, and_true, and_self, true_or, or_true, eq_self, not_true_eq_false, false_implies, true_implies, not_false_eq_true, mm_10, mm_01, false_or, or_false, Nat.left_eq_add, Nat.add_eq_left, Nat.add_left_cancel_iff, Nat.reduceEqDiff, false_and, and_false, reduceIte, mm_kd_pi, mm_ln_pi, mm_gl_pi, mm_gr_pi, mm_sz_pi, mm_gi_pi, mm_kd_pl, mm_ln_pl, mm_gi_pl, mm_gr_pl, mm_sz_pl, mm_gl_pl, mm_kd_pr, mm_ln_pr, mm_gi_pr, mm_gl_pr, mm_sz_pr, mm_gr_pr, mm_kd_pa, mm_ln_pa, mm_gl_pa, mm_gr_pa, mm_sz_pa, mm_gi_pa, W_kd_58 H, W_s_58 H, W_gr_58_1 H, W_gr_58_2 H, W_gr_58_3 H, W_gr_58_4 H, W_gr_58_5 H, W_gr_58_7 H, W_gr_58_8 H, eN, eq_true (nI_le (Nat.le_refl i) (show i < 2 ^ 31 by omega)), W_kd_0 H, W_s_0 H, W_gr_0_0 H, W_gr_0_1 H, W_gr_0_2 H, W_gr_0_3 H, W_gr_0_4 H, W_gr_0_5 H, W_gr_0_6 H, W_gr_0_7 H, W_gr_0_8 H, W_gr_0_9 H, W_gr_0_10 H, W_gr_0_11 H, C.2.1]
    refine c_X9_orders_157 (bb := (0, 0)) (b := (0, 0)) (Nat.le_of_ble_eq_true rfl) ⟨rfl, rfl⟩ (W_kd_0 H) (W_s_0 H) (sp_accept H ?_)
    refine t_X9_orders_160 _ _ _ ?_
    simp only [s_iadd, s_isub, s_imul, s_iand, s_ior, s_ixor, s_ishl, s_ishr, s_iushr, s_idiv, s_irem, s_ladd, s_lsub, s_lmul, s_ldiv, s_lrem, s_ineg, s_i2l, s_l2i, s_i2c, s_lcmp, s_ic, s_lc, s_nul, s_str, s_il, s_ll, s_al, s_dup, s_dup2, s_pop, s_ifne, s_icne, s_ifeq, s_iflt, s_ifge, s_ifgt, s_ifle, s_iceq, s_iclt, s_icge, s_icgt, s_icle, s_ifnull, s_ifnonnull, s_is, s_ls, s_as, s_ii, s_gi, s_gl, s_gr, s_pi, s_pz, s_pl, s_pr, s_iald, s_zald, s_lald, s_aald, s_alen, s_iast, s_zast, s_last, s_iret, s_zret, s_lret, s_aret, s_vret, s_sw, s_aast, mm_sw, mm_ld, mm_s1, mm_s2, mm_kl, Value.category, va_rf, List.nil_append, List.cons_append, Option.toList, true_and, and_true, and_self, true_or, or_true, eq_self, not_true_eq_false, false_implies, true_implies, not_false_eq_true, mm_10, mm_01, false_or, or_false, Nat.left_eq_add, Nat.add_eq_left, Nat.add_left_cancel_iff, Nat.reduceEqDiff, false_and, and_false, reduceIte, mm_kd_pi, mm_ln_pi, mm_gl_pi, mm_gr_pi, mm_sz_pi, mm_gi_pi, mm_kd_pl, mm_ln_pl, mm_gi_pl, mm_gr_pl, mm_sz_pl, mm_gl_pl, mm_kd_pr, mm_ln_pr, mm_gi_pr, mm_gl_pr, mm_sz_pr, mm_gr_pr, mm_kd_pa, mm_ln_pa, mm_gl_pa, mm_gr_pa, mm_sz_pa, mm_gi_pa]
    exact k1 h s (up _ rfl) C F (by omega)
  | succ k ih =>
    intro i s h v4 hi C X eN F hb up
    have H := C.1.1
    have t20 := (X.2.2 i (by omega)).2.2.2.1.2.2
    refine t_X9_orders_75 _ _ _ ?_
    simp only [s_iadd, s_isub, s_imul, s_iand, s_ior, s_ixor, s_ishl, s_ishr, s_iushr, s_idiv, s_irem, s_ladd, s_lsub, s_lmul, s_ldiv, s_lrem, s_ineg, s_i2l, s_l2i, s_i2c, s_lcmp, s_ic, s_lc, s_nul, s_str, s_il, s_ll, s_al, s_dup, s_dup2, s_pop, s_ifne, s_icne, s_ifeq, s_iflt, s_ifge, s_ifgt, s_ifle, s_iceq, s_iclt, s_icge, s_icgt, s_icle, s_ifnull, s_ifnonnull, s_is, s_ls, s_as, s_ii, s_gi, s_gl, s_gr, s_pi, s_pz, s_pl, s_pr, s_iald, s_zald, s_lald, s_aald, s_alen, s_iast, s_zast, s_last, s_iret, s_zret, s_lret, s_aret, s_vret, s_sw, s_aast, mm_sw, mm_ld, mm_s1, mm_s2, mm_kl, Value.category, va_rf, List.nil_append, List.cons_append, Option.toList, true_and, and_true, and_self, true_or, or_true, eq_self, not_true_eq_false, false_implies, true_implies, not_false_eq_true, mm_10, mm_01, false_or, or_false, Nat.left_eq_add, Nat.add_eq_left, Nat.add_left_cancel_iff, Nat.reduceEqDiff, false_and, and_false, reduceIte, mm_kd_pi, mm_ln_pi, mm_gl_pi, mm_gr_pi, mm_sz_pi, mm_gi_pi, mm_kd_pl, mm_ln_pl, mm_gi_pl, mm_gr_pl, mm_sz_pl, mm_gl_pl, mm_kd_pr, mm_ln_pr, mm_gi_pr, mm_gl_pr, mm_sz_pr, mm_gr_pr, mm_kd_pa, mm_ln_pa, mm_gl_pa, mm_gr_pa, mm_sz_pa, mm_gi_pa, W_kd_58 H, W_s_58 H, W_gr_58_1 H, W_gr_58_2 H, W_gr_58_3 H, W_gr_58_4 H, W_gr_58_5 H, W_gr_58_7 H, W_gr_58_8 H, eN, eq_false (nI_ge (show i < N by omega) (show N < 2 ^ 31 by omega))]
    refine lp_ot (B := 240 - 20 * k) n12 (by omega) (wf i (by omega)) (by omega) t20 (fun r => ORt A (cl i) (cl i).2.2.2.1 s r) (fun g s' R C' X' eN' F' hB v4' => ?_) (fun g R X' F' v4' => ?_) (cl i).2.2.2.1 s h 0 (by omega) C X eN F (by omega) (fun r q => q)
    · exact ih (i + 1) s' g v4' (by omega) C' X' eN' F' (by omega) (fun r q => up r (Or.inr ⟨s', R, q⟩))
    · exact k0 g i (up _ (Or.inl ⟨R, rfl⟩)) (by omega) F' v4'
end
