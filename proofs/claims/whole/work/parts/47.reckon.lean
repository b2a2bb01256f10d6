/-! the class's evaluator over a program -/
def RK (d : Nat) (K : Option Value → mmH → Prop) (h : mmH) (t : Nat) (x0 : Int32) (i : Nat) (st : List Int) : Prop := (∀ a ∈ st, xB a) → st.length ≤ 52 → ∀ g v5 v6 v7 v8, fx xS y0 h g → stk (mm_gi g 3) st → mm_V q_X0_reckon (d + 1) (0, 0) K 9 [some (.ref 1), some (.ref t), some (.int x0), some (.int (nI st.length)), some (.int (nI i)), v5, v6, v7, v8] [] g
def RKB (K : Option Value → mmH → Prop) (h : mmH) : Prop := ∀ g, fx xS y0 h g → K (some (.int 1000000001)) g
/-- a text that holds a program -/
def TXP (h : mmH) (t n m sz : Nat) (I : xIn) : Prop := txS h t n m ∧ 4 ≤ t ∧ mm_gi h t 6 = nI sz ∧ sz ≤ m ∧ m ≤ 400 ∧ ∀ i, i < sz → cde (mm_gi h (t + 6)) (mm_gi h (t + 7)) i (I i)
section
variable {d : Nat} {h g : mmH} {K : Option Value → mmH → Prop} {t n m sz nw : Nat} {x0 : Int32} {I : xIn} {E : xE}
theorem TXP_fx {X : Nat → Nat → Prop} {Y : Nat → Prop} (F : fx X Y h g) (hX : ∀ c j, t ≤ c → c ≤ t + 7 → ¬ X c j) (T : TXP h t n m sz I) : TXP g t n m sz I := by
  obtain ⟨t1, t2, t3, t4, t5, t6⟩ := T
  refine ⟨fx_txS F t1, t2, by rw [F.2.1 t 6 (hX t 6 (by omega) (by omega))]; exact t3, t4, t5, fun i hi => ?_⟩
  unfold cde
  rw [F.2.1 (t + 6) i (hX _ i (by omega) (by omega)), F.2.1 (t + 7) i (hX _ i (by omega) (by omega))]
  exact t6 i hi
theorem stk_push {g : mmH} {st : List Int} {x : Int} (h : stk (mm_gi g 3) st) : stk (mm_gi (mm_pi g 3 st.length (i32 x)) 3) (x :: st) := by
  refine ⟨by rw [mm_gi_pi, if_pos ⟨rfl, rfl⟩], stk_cg (fun k hk => ?_) h⟩
  rw [mm_gi_pi, if_neg (by omega)]
theorem stk_set {g : mmH} {st : List Int} {a x : Int} (h : stk (mm_gi g 3) (a :: st)) : stk (mm_gi (mm_pi g 3 st.length (i32 x)) 3) (x :: st) := stk_push h.2
theorem rk_cl (H : WS h) (T : TXP h t n m sz I) (hE : xOk nw E) (hW : ∀ j, j < nw → mm_gi h 2 j = i32 (E j)) (hnw : nw ≤ 16) {p q : Nat} (hq : q ≤ sz) : xcl nw I E p q (RKB K h) (RK d K h t x0) := by
  intro i i1 i2 st
  have t5 := T.2.2.2.2.1
  have t4 := T.2.2.2.1
  have t2 := T.2.1
  have tt : ∀ g, fx xS y0 h g → txS g t n m ∧ mm_gi g t 6 = nI sz ∧ mm_gi g (t + 6) i = nI (cst (I i).1) ∧ mm_gi g (t + 7) i = nI (I i).2 := fun g F => by
    obtain ⟨a1, a2, a3, a4, a5, a6⟩ := TXP_fx F (fun c j c1 c2 => by unfold xS; omega) T
    exact ⟨a1, a3, a6 i (by omega)⟩
  refine ⟨?_, ?_, ?_, ?_, ?_, ?_⟩
  · intro v e hv hl k B _ g v5 v6 v7 v8 F SK
    obtain ⟨T1, T2, T3, T4⟩ := tt g F
    rw [e] at T3 T4
    have T3 : mm_gi g (t + 6) i = 1 := T3
    refine rk_ld (fx_WS F H) T1 T2 (by omega) t4 t5 (fun _ => ?_) (fun _ z => absurd T3 z) (fun _ z => absurd T3 z) (fun z => absurd (T3.symm.trans z) (by decide))
    refine rk_70 (x := i32 (v : Int)) (fx_WS F H) hl (Or.inl ⟨T3, T4.trans i32_nat.symm⟩) ?_
    exact k (fun a ha => by
      rcases List.mem_cons.mp ha with rfl | ha
      · unfold xB; omega
      · exact B a ha) (by simp; omega) _ _ _ _ _ (fx_pi (by rfl) F) (stk_push SK)
  · intro j e hj hl k B _ g v5 v6 v7 v8 F SK
    obtain ⟨T1, T2, T3, T4⟩ := tt g F
    rw [e] at T3 T4
    have T3 : mm_gi g (t + 6) i = 2 := T3
    refine rk_ld (fx_WS F H) T1 T2 (by omega) t4 t5 (fun _ => ?_) (fun _ _ z => absurd T3 z) (fun _ _ z => absurd T3 z) (fun z => absurd (T3.symm.trans z) (by decide))
    refine rk_70 (x := mm_gi g 2 j) (fx_WS F H) hl (Or.inr ⟨T3, j, by omega, T4, rfl⟩) ?_
    rw [F.2.1 2 j (by unfold xS; decide), hW j hj]
    exact k (fun a ha => by
      rcases List.mem_cons.mp ha with rfl | ha
      · exact hE j hj
      · exact B a ha) (by simp; omega) _ _ _ _ _ (fx_pi (by rfl) F) (stk_push SK)
  · intro v a e ha k B hl g v5 v6 v7 v8 F SK
    obtain ⟨T1, T2, T3, T4⟩ := tt g F
    rw [e] at T3 T4
    have T3 : mm_gi g (t + 6) i = 3 := T3
    have hl : st.length + 1 ≤ 52 := hl
    refine rk_ld (fx_WS F H) T1 T2 (by omega) t4 t5 (fun z => absurd z (by rw [T3]; decide)) (fun _ _ _ z => absurd z (by rw [T3]; decide)) (fun _ _ _ _ => ?_) (fun z => absurd (T3.symm.trans z) (by decide))
    rw [T3]
    refine rk_not (n := st.length) (fx_WS F H) (by omega) ?_
    rw [SK.1, show (1 : Int32) - i32 a = i32 (1 - a) from i32_sb 1 a]
    exact k (fun b hb => by
      rcases List.mem_cons.mp hb with rfl | hb
      · unfold xB; omega
      · exact B b (List.mem_cons_of_mem _ hb)) hl _ _ _ _ _ (fx_pi (by rfl) F) (stk_set SK)
  · intro tg a e g1 g2 ha k1 k0 B hl g v5 v6 v7 v8 F SK
    obtain ⟨T1, T2, T3, T4⟩ := tt g F
    rw [e] at T3 T4
    have T3 : mm_gi g (t + 6) i = 4 := T3
    have hl : st.length + 1 ≤ 52 := hl
    have Bs : ∀ b ∈ st, xB b := fun b hb => B b (List.mem_cons_of_mem _ hb)
    refine rk_ld (fx_WS F H) T1 T2 (by omega) t4 t5 (fun z => absurd z (by rw [T3]; decide)) (fun _ _ _ z => absurd z (by rw [T3]; decide)) (fun _ _ _ _ => ?_) (fun z => absurd (T3.symm.trans z) (by decide))
    rw [T3, T4]
    refine rk_jmp (n := st.length) (fx_WS F H) (by omega) (Or.inl rfl) g1 (by omega) (fun z => ?_) (fun z => ?_) <;> rw [SK.1] at z
    · have a1 : a = 1 := by
        rcases z with ⟨_, z⟩ | ⟨z, _⟩
        · exact (i32_inj (B a List.mem_cons_self) xB_1).mp z
        · exact absurd z (by decide)
      subst a1
      exact k1 rfl B hl _ _ _ _ _ F SK
    · have a0 : a = 0 := by
        rcases z with ⟨_, z⟩ | ⟨z, _⟩
        · rcases ha with rfl | rfl
          · rfl
          · exact absurd rfl z
        · exact absurd z (by decide)
      exact k0 a0 Bs (by omega) _ _ _ _ _ F SK.2
  · intro tg a e g1 g2 ha k1 k0 B hl g v5 v6 v7 v8 F SK
    obtain ⟨T1, T2, T3, T4⟩ := tt g F
    rw [e] at T3 T4
    have T3 : mm_gi g (t + 6) i = 5 := T3
    have hl : st.length + 1 ≤ 52 := hl
    have Bs : ∀ b ∈ st, xB b := fun b hb => B b (List.mem_cons_of_mem _ hb)
    refine rk_ld (fx_WS F H) T1 T2 (by omega) t4 t5 (fun z => absurd z (by rw [T3]; decide)) (fun _ _ _ z => absurd z (by rw [T3]; decide)) (fun _ _ _ _ => ?_) (fun z => absurd (T3.symm.trans z) (by decide))
    rw [T3, T4]
    refine rk_jmp (n := st.length) (fx_WS F H) (by omega) (Or.inr rfl) g1 (by omega) (fun z => ?_) (fun z => ?_) <;> rw [SK.1] at z
    · have a0 : a = 0 := by
        rcases z with ⟨z, _⟩ | ⟨_, z⟩
        · exact absurd z (by decide)
        · rcases ha with rfl | rfl
          · rfl
          · exact absurd rfl z
      subst a0
      exact k1 rfl B hl _ _ _ _ _ F SK
    · have a1 : a = 1 := by
        rcases z with ⟨z, _⟩ | ⟨_, z⟩
        · exact absurd z (by decide)
        · exact (i32_inj (B a List.mem_cons_self) xB_1).mp z
      exact k0 a1 Bs (by omega) _ _ _ _ _ F SK.2
  · intro c v a b e hc ha hb k1 k0 B hl g v5 v6 v7 v8 F SK
    obtain ⟨T1, T2, T3, T4⟩ := tt g F
    rw [e] at T3 T4
    have T3 : mm_gi g (t + 6) i = nI (6 + c) := by rw [T3]; unfold cst; rw [if_neg (by omega)]; congr 1; omega
    obtain ⟨e0, e1, e2, e5⟩ := (by decide : ∀ c, c < 8 → ¬ nI (6 + c) = 0 ∧ ¬ nI (6 + c) = 1 ∧ ¬ nI (6 + c) = 2 ∧ 5 < nI (6 + c)) c hc
    have hl : st.length + 1 + 1 ≤ 52 := hl
    have Bs : ∀ b ∈ st, xB b := fun b hb => B b (List.mem_cons_of_mem _ (List.mem_cons_of_mem _ hb))
    refine rk_ld (fx_WS F H) T1 T2 (by omega) t4 t5 (fun z => absurd z (by rw [T3]; exact fun z => z.elim e1 e2)) (fun _ _ _ _ => ?_) (fun _ _ _ z => absurd e5 (by rw [T3] at z; exact z)) (fun z => absurd (T3.symm.trans z) e0)
    rw [T3]
    refine rk_join (n := st.length) (fx_WS F H) (by omega) hc ha hb SK.2.1 SK.1 (fun z v7 v8 => ?_) (fun z => k0 (by unfold xj; exact if_neg z) g F)
    refine k1 _ (by unfold xj; exact if_pos z) (fun b hb => ?_) (by simp; omega) _ _ _ _ _ (fx_pi (by rfl) F) (stk_push SK.2.2)
    rcases List.mem_cons.mp hb with rfl | hb
    · exact z
    · exact Bs b hb
/-- reckon: what the program says -/
theorem sp_reckon {p q w : Nat} {D : xE → Option Int} (H : WS h) (T : TXP h t n m sz I) (hE : xOk nw E) (hW : ∀ j, j < nw → mm_gi h 2 j = i32 (E j)) (hnw : nw ≤ 16) (P : xP nw I p q w D) (hw : w ≤ 50) (hq : q < sz) (hs : (I q).1 = 20)
    (k1 : ∀ g x, fx xS y0 h g → D E = some x → xB x → K (some (.int (i32 x))) g) (k0 : ∀ g, fx xS y0 h g → D E = none → K (some (.int 1000000001)) g) : mm_MV q_X0_reckon (d + 1) (0, 0) [.ref 1, .ref t, .int (nI p)] h K := by
  have t5 := T.2.2.2.2.1
  have t4 := T.2.2.2.1
  have t2 := T.2.1
  have pq := P.1.1
  refine e_X0_reckon (t_X0_reckon_0 _ _ _ ?_)
  simp only [s_iadd, s_isub, s_imul, s_iand, s_ior, s_ixor, s_ishl, s_ishr, s_iushr, s_idiv, s_irem, s_ladd, s_lsub, s_lmul, s_ldiv, s_lrem, s_ineg, s_i2l, s_l2i, s_i2c, s_lcmp, s_ic, s_lc, s_nul, s_str, s_il, s_ll, s_al, s_dup, s_dup2, s_pop, s_ifne, s_icne, s_ifeq, s_iflt, s_ifge, s_ifgt, s_ifle, s_iceq, s_iclt, s_icge, s_icgt, s_icle, s_ifnull, s_ifnonnull, s_is, s_ls, s_as, s_ii, s_gi, s_gl, s_gr, s_pi, s_pz, s_pl, s_pr, s_iald, s_zald, s_lald, s_aald, s_alen, s_iast, s_zast, s_last, s_iret, s_zret, s_lret, s_aret, s_vret, s_sw, s_aast, mm_sw, mm_ld, mm_s1, mm_s2, mm_kl, Value.category, va_rf, List.nil_append, List.cons_append, Option.toList, true_and, and_true, and_self, true_or, or_true, eq_self, not_true_eq_false, false_implies, true_implies, not_false_eq_true, mm_10, mm_01, false_or, or_false, Nat.left_eq_add, Nat.add_eq_left, Nat.add_left_cancel_iff, Nat.reduceEqDiff, false_and, and_false, reduceIte, mm_kd_pi, mm_ln_pi, mm_gl_pi, mm_gr_pi, mm_sz_pi, mm_gi_pi, mm_kd_pl, mm_ln_pl, mm_gi_pl, mm_gr_pl, mm_sz_pl, mm_gl_pl, mm_kd_pr, mm_ln_pr, mm_gi_pr, mm_gl_pr, mm_sz_pr, mm_gr_pr, mm_kd_pa, mm_ln_pa, mm_gl_pa, mm_gr_pa, mm_sz_pa, mm_gi_pa]
  refine c_X0_reckon_4 (by decide) ?_
  have mx : (if (0 : Int32) < nI p then nI p else 0) = nI p := by
    by_cases z : 0 < p
    · rw [if_pos (show (0 : Int32) < nI p from nI_lt (a := 0) z (by omega))]
    · obtain rfl : p = 0 := by omega
      rfl
  rw [mx]
  refine t_X0_reckon_7 _ _ _ ?_
  simp only [s_iadd, s_isub, s_imul, s_iand, s_ior, s_ixor, s_ishl, s_ishr, s_iushr, s_idiv, s_irem, s_ladd, s_lsub, s_lmul, s_ldiv, s_lrem, s_ineg, s_i2l, s_l2i, s_i2c, s_lcmp, s_ic, s_lc, s_nul, s_str, s_il, s_ll, s_al, s_dup, s_dup2, s_pop, s_ifne, s_icne, s_ifeq, s_iflt, s_ifge, s_ifgt, s_ifle, s_iceq, s_iclt, s_icge, s_icgt, s_icle, s_ifnull, s_ifnonnull, s_is, s_ls, s_as, s_ii, s_gi, s_gl, s_gr, s_pi, s_pz, s_pl, s_pr, s_iald, s_zald, s_lald, s_aald, s_alen, s_iast, s_zast, s_last, s_iret, s_zret, s_lret, s_aret, s_vret, s_sw, s_aast, mm_sw, mm_ld, mm_s1, mm_s2, mm_kl, Value.category, va_rf, List.nil_append, List.cons_append, Option.toList, true_and, and_true, and_self, true_or, or_true, eq_self, not_true_eq_false, false_implies, true_implies, not_false_eq_true, mm_10, mm_01, false_or, or_false, Nat.left_eq_add, Nat.add_eq_left, Nat.add_left_cancel_iff, Nat.reduceEqDiff, false_and, and_false, reduceIte, mm_kd_pi, mm_ln_pi, mm_gl_pi, mm_gr_pi, mm_sz_pi, mm_gi_pi, mm_kd_pl, mm_ln_pl, mm_gi_pl, mm_gr_pl, mm_sz_pl, mm_gl_pl, mm_kd_pr, mm_ln_pr, mm_gi_pr, mm_gl_pr, mm_sz_pr, mm_gr_pr, mm_kd_pa, mm_ln_pa, mm_gl_pa, mm_gr_pa, mm_sz_pa, mm_gi_pa]
  refine (P.2 E hE).2 (RKB K h) (RK d K h t (nI p)) (rk_cl H T hE hW hnw (Nat.le_of_lt hq)) [] (by simp; omega) (fun x hx => ?_) (fun z g F => k0 g F z) (fun a ha => by cases ha) (by simp) h none none none none fx_rf trivial
  · intro B hl g v5 v6 v7 v8 F SK
    obtain ⟨a1, a2, a3, a4, a5, a6⟩ := TXP_fx F (fun c j c1 c2 => by unfold xS; omega) T
    have T3 : mm_gi g (t + 6) q = 0 := by
      have := (a6 q hq).1
      rw [hs] at this
      exact this
    refine rk_ld (fx_WS F H) a1 a3 hq t4 t5 (fun z => absurd z (by rw [T3]; decide)) (fun z => absurd T3 z) (fun z => absurd T3 z) (fun z => ⟨fun _ => ?_, fun z => absurd rfl z⟩)
    rw [show mm_gi g 3 0 = i32 x from SK.1]
    exact k1 g x F hx (B x List.mem_cons_self)
end
