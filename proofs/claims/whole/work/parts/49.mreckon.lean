/-! the model's evaluator over a program -/
def MXP (h : mmH) (ord : Bool) (sz : Nat) (I : xIn) : Prop := sz ≤ 400 ∧ match ord with
  | false => mm_gi h 91 20 = 0 ∧ ∃ lw, mm_gi h 91 34 = nI lw ∧ lw + 900 ≤ 5475 ∧ ∀ i, i < sz → mde false (mm_gi h 93 (lw + 98 + 2 * i)) (mm_gi h 93 (lw + 98 + 2 * i + 1)) (I i)
  | true => mm_gi h 91 20 = 1 ∧ ∀ i, i < sz → mde true (mm_gi h 102 i) (mm_gi h 103 i) (I i)
def MWS (h : mmH) (ord : Bool) (E : xE) : Prop := match ord with
  | false => ∀ j, j < 10 → mm_gl h 109 (j + 1) = i64 (E j)
  | true => (∀ j, j < 4 → mm_gl h 110 (j + 1) = i64 (E j)) ∧ ∃ (C : Nat) (kn gw : Nat → Nat), mm_gi h 93 1 = nI C ∧ C ≤ 6 ∧ (∀ c, c < C → mm_gi h 93 (8 + c) = nI (kn c) ∧ kn c < 256 ∧ mm_gi h 93 (14 + c) = nI (gw c) ∧ gw c ≤ 99) ∧ ∀ c, c < 6 → E (4 + c) = (if c < C then (pop (kn c) : Int) else -1) ∧ E (10 + c) = if c < C then (gw c : Int) else -1
def nwd (ord : Bool) : Nat := match ord with
  | false => 10
  | true => 16
def RA (d : Nat) (K : Option Value → mmH → Prop) (h : mmH) (x1 : Int32) (q i : Nat) (st : List Int) : Prop := (∀ a ∈ st, xB a) → st.length ≤ 52 → ∀ g v5 v6, fx xM yM h g → mm_gi g 91 38 = 0 → stl (mm_gl g 111) st → mm_V q_X10_reckonAll (d + 2) (0, 0) K 10 [some (.ref 91), some (.int x1), some (.int (nI q)), some (.int (nI st.length)), some (.int (nI i)), v5, v6] [] g
def RAB (K : Option Value → mmH → Prop) (h : mmH) : Prop := ∀ g, fx xM yM h g → mm_gi g 91 38 = 1 → K none g
theorem i64_nat {n : Nat} (h : n ≤ 100000000) : (nI n).toInt64 = i64 (n : Int) := by
  have : xB (n : Int) := by unfold xB; omega
  rw [← i32_l this, i32_nat]
section
variable {d : Nat} {h g : mmH} {K : Option Value → mmH → Prop} {sz : Nat} {x1 : Int32} {I : xIn} {E : xE} {ord : Bool}
theorem stl_push {g : mmH} {st : List Int} {x : Int} (h : stl (mm_gl g 111) st) : stl (mm_gl (mm_pl g 111 st.length (i64 x)) 111) (x :: st) := by
  refine ⟨by rw [mm_gl_pl, if_pos ⟨rfl, rfl⟩], stl_cg (fun k hk => ?_) h⟩
  rw [mm_gl_pl, if_neg (by omega)]
theorem ra_cl (H : WS h) (T : MXP h ord sz I) (hE : xOk (nwd ord) E) (hW : MWS h ord E) {p q : Nat} (hq : q ≤ sz) : xcl (nwd ord) I E p q (RAB K h) (RA d K h x1 q) := by
  intro i i1 i2 st
  have t4 := T.1
  have tt : ∀ g, fx xM yM h g → ∃ o a, mde ord o a (I i) ∧ ((mm_gi g 91 20 = 0 ∧ ∃ lw, mm_gi g 91 34 = nI lw ∧ lw + 900 ≤ 5475 ∧ mm_gi g 93 (lw + 98 + 2 * i) = o ∧ mm_gi g 93 (lw + 98 + 2 * i + 1) = a) ∨ (mm_gi g 91 20 = 1 ∧ mm_gi g 102 i = o ∧ mm_gi g 103 i = a)) := by
    intro g F
    cases ord with
    | false =>
      obtain ⟨a1, lw, a2, a3, a4⟩ := T.2
      refine ⟨_, _, a4 i (by omega), Or.inl ⟨?_, lw, ?_, a3, ?_, ?_⟩⟩
      · rw [F.2.1 91 20 (by unfold xM; omega)]; exact a1
      · rw [F.2.1 91 34 (by unfold xM; omega)]; exact a2
      · rw [F.2.1 93 _ (by unfold xM; omega)]
      · rw [F.2.1 93 _ (by unfold xM; omega)]
    | true =>
      obtain ⟨a1, a4⟩ := T.2
      refine ⟨_, _, a4 i (by omega), Or.inr ⟨?_, ?_, ?_⟩⟩
      · rw [F.2.1 91 20 (by unfold xM; omega)]; exact a1
      · rw [F.2.1 102 _ (by unfold xM; omega)]
      · rw [F.2.1 103 _ (by unfold xM; omega)]
  have bc : ∀ {x : Int} {st : List Int}, xB x → (∀ a ∈ st, xB a) → ∀ a ∈ x :: st, xB a := fun hx hs a ha => by
    rcases List.mem_cons.mp ha with rfl | ha
    · exact hx
    · exact hs a ha
  refine ⟨?_, ?_, ?_, ?_, ?_, ?_⟩
  · intro v e hv hl k B _ g v5 v6 F hb SK
    obtain ⟨o, a, md, hf⟩ := tt g F
    rw [e] at md
    obtain ⟨rfl, rfl⟩ := md.1 rfl
    refine ra_ld (fx_WS F H) i2 (by omega) hb hf (ra_num (fx_WS F H) hl ?_)
    rw [i64_nat (Nat.le_trans hv (by decide))]
    exact k (bc (by unfold xB; omega) B) (by simp; omega) _ _ _ (fx_pl (Or.inr rfl) F) hb (stl_push SK)
  · intro j e hj hl k B _ g v5 v6 F hb SK
    obtain ⟨o, a, md, hf⟩ := tt g F
    rw [e] at md
    have md := md.2.1 rfl
    cases ord with
    | false =>
      obtain ⟨m1, rfl⟩ := md
      refine ra_ld (fx_WS F H) i2 (by omega) hb hf (ra_wl (fx_WS F H) hl ?_ m1 ?_)
      · rw [F.2.1 91 20 (by unfold xM; omega)]; exact T.2.1
      · rw [F.2.2.1 109 (by unfold yM; omega), hW j m1]
        exact k (bc (hE j hj) B) (by simp; omega) _ _ _ (fx_pl (Or.inr rfl) F) hb (stl_push SK)
    | true =>
      have ho : mm_gi g 91 20 = 1 := by rw [F.2.1 91 20 (by unfold xM; omega)]; exact T.2.1
      obtain ⟨w1, C, kn, gw, w2, w3, w4, w5⟩ := hW
      have wc : mm_gi g 93 1 = nI C := by rw [F.2.1 93 1 (by unfold xM; omega)]; exact w2
      have wk : ∀ c, c < C → mm_gi g 93 (8 + c) = nI (kn c) ∧ kn c < 256 := fun c hc => by rw [F.2.1 93 _ (by unfold xM; omega)]; exact ⟨(w4 c hc).1, (w4 c hc).2.1⟩
      rcases md with ⟨m1, rfl⟩ | ⟨m1, m2, rfl, rfl⟩ | ⟨m1, m2, rfl, rfl⟩
      · refine ra_ld (fx_WS F H) i2 (by omega) hb hf (ra_wo (fx_WS F H) hl ho m1 ?_)
        rw [F.2.2.1 110 (by unfold yM; omega), w1 j m1]
        exact k (bc (hE j hj) B) (by simp; omega) _ _ _ (fx_pl (Or.inr rfl) F) hb (stl_push SK)
      · refine ra_ld (fx_WS F H) i2 (by omega) hb hf (ra_wc (kn := kn (j - 4)) (fx_WS F H) hl ho wc w3 (by omega) (wk _) (Or.inl rfl) ?_)
        have e1 := (w5 (j - 4) (by omega)).1
        rw [show 4 + (j - 4) = j by omega] at e1
        have e2 : (if j - 4 < C then (if (5 : Int32) = 5 then (nI (pop (kn (j - 4)))).toInt64 else (mm_gi g 93 (14 + (j - 4))).toInt64) else -1) = i64 (E j) := by
          rw [e1]
          by_cases z : j - 4 < C
          · rw [if_pos z, if_pos z, if_pos rfl, i64_nat (by have := pop_le (kn (j - 4)); omega)]
          · rw [if_neg z, if_neg z]; rfl
        rw [e2]
        exact k (bc (hE j hj) B) (by simp; omega) _ _ _ (fx_pl (Or.inr rfl) F) hb (stl_push SK)
      · refine ra_ld (fx_WS F H) i2 (by omega) hb hf (ra_wc (kn := kn (j - 10)) (fx_WS F H) hl ho wc w3 (by omega) (wk _) (Or.inr rfl) ?_)
        have e1 := (w5 (j - 10) (by omega)).2
        rw [show 10 + (j - 10) = j by omega] at e1
        have e2 : (if j - 10 < C then (if (6 : Int32) = 5 then (nI (pop (kn (j - 10)))).toInt64 else (mm_gi g 93 (14 + (j - 10))).toInt64) else -1) = i64 (E j) := by
          rw [e1]
          by_cases z : j - 10 < C
          · have := w4 _ z
            rw [if_pos z, if_pos z, if_neg (by decide), F.2.1 93 _ (by unfold xM; omega), this.2.2.1, i64_nat (by omega)]
          · rw [if_neg z, if_neg z]; rfl
        rw [e2]
        exact k (bc (hE j hj) B) (by simp; omega) _ _ _ (fx_pl (Or.inr rfl) F) hb (stl_push SK)
  · intro v a e ha k B hl g v5 v6 F hb SK
    obtain ⟨o, ar, md, hf⟩ := tt g F
    rw [e] at md
    obtain rfl : o = 28 := md.2.2.1 (show (2 : Nat) ≤ 2 by decide) (show (2 : Nat) < 13 by decide)
    have hl : st.length + 1 ≤ 52 := hl
    refine ra_ld (fx_WS F H) i2 (by omega) hb hf (ra_not (n := st.length) (fx_WS F H) (by omega) ?_)
    rw [SK.1, show (1 : Int64) - i64 a = i64 (1 - a) from i64_sub 1 a]
    have b1 : xB (1 - a) := by rcases ha with rfl | rfl <;> (unfold xB; decide)
    exact k (bc b1 (fun b hb => B b (List.mem_cons_of_mem _ hb))) hl _ _ _ (fx_pl (Or.inr rfl) F) hb (stl_push SK.2)
  · intro tg a e g1 g2 ha k1 k0 B hl g v5 v6 F hb SK
    obtain ⟨o, ar, md, hf⟩ := tt g F
    rw [e] at md
    obtain rfl : o = 30 := md.2.2.1 (show (2 : Nat) ≤ 3 by decide) (show (3 : Nat) < 13 by decide)
    obtain rfl : ar = nI tg := md.2.2.2 (Or.inl rfl)
    have hl : st.length + 1 ≤ 52 := hl
    have Ba := B a List.mem_cons_self
    refine ra_ld (fx_WS F H) i2 (by omega) hb hf (ra_jmp (n := st.length) (fx_WS F H) (by omega) (Or.inr rfl) (fun z => ?_) (fun z => ?_)) <;> rw [SK.1] at z
    · obtain rfl : a = 1 := by
        rcases z with ⟨z, _⟩ | ⟨_, z⟩
        · exact absurd z (by decide)
        · exact (i64_inj Ba xB_1).mp z
      exact k1 rfl B hl _ _ _ F hb SK
    · obtain rfl : a = 0 := by
        rcases z with ⟨z, _⟩ | ⟨_, z⟩
        · exact absurd z (by decide)
        · rcases ha with rfl | rfl
          · rfl
          · exact absurd rfl z
      exact k0 rfl (fun b hb => B b (List.mem_cons_of_mem _ hb)) (by omega) _ _ _ F hb SK.2
  · intro tg a e g1 g2 ha k1 k0 B hl g v5 v6 F hb SK
    obtain ⟨o, ar, md, hf⟩ := tt g F
    rw [e] at md
    obtain rfl : o = 29 := md.2.2.1 (show (2 : Nat) ≤ 4 by decide) (show (4 : Nat) < 13 by decide)
    obtain rfl : ar = nI tg := md.2.2.2 (Or.inr rfl)
    have hl : st.length + 1 ≤ 52 := hl
    have Ba := B a List.mem_cons_self
    refine ra_ld (fx_WS F H) i2 (by omega) hb hf (ra_jmp (n := st.length) (fx_WS F H) (by omega) (Or.inl rfl) (fun z => ?_) (fun z => ?_)) <;> rw [SK.1] at z
    · obtain rfl : a = 0 := by
        rcases z with ⟨_, z⟩ | ⟨z, _⟩
        · exact (i64_inj Ba xB_0).mp z
        · exact absurd z (by decide)
      exact k1 rfl B hl _ _ _ F hb SK
    · obtain rfl : a = 1 := by
        rcases z with ⟨_, z⟩ | ⟨z, _⟩
        · rcases ha with rfl | rfl
          · exact absurd rfl z
          · rfl
        · exact absurd z (by decide)
      exact k0 rfl (fun b hb => B b (List.mem_cons_of_mem _ hb)) (by omega) _ _ _ F hb SK.2
  · intro c v a b e hc ha hb' k1 k0 B hl g v5 v6 F hb SK
    obtain ⟨o, ar, md, hf⟩ := tt g F
    rw [e] at md
    obtain rfl : o = nI (20 + c) := by
      have := md.2.2.1 (show 2 ≤ 5 + c by omega) (show 5 + c < 13 by omega)
      rw [this]
      show nI (mst (5 + c)) = _
      unfold mst
      rw [if_neg (by omega), if_neg (by omega), if_neg (by omega)]
      congr 1
      omega
    have hl : st.length + 1 + 1 ≤ 52 := hl
    have Bs : ∀ b ∈ st, xB b := fun b hb => B b (List.mem_cons_of_mem _ (List.mem_cons_of_mem _ hb))
    refine ra_ld (fx_WS F H) i2 (by omega) hb hf (ra_join (n := st.length) (fx_WS F H) hb (by omega) hc ha hb' SK.2.1 SK.1 (fun z => ?_) (fun z y => ?_))
    · exact k1 _ (by unfold xj; exact if_pos z) (bc z Bs) (by simp; omega) _ _ _ (fx_pl (Or.inr rfl) F) hb (stl_push SK.2.2)
    · refine ra_end (n := st.length + 1) (WS_pi (WS_pl (fx_WS F H))) rfl (by omega) (Or.inr (by rw [mm_gi_pi, if_pos ⟨rfl, rfl⟩])) ?_
      exact k0 (by unfold xj; exact if_neg z) _ (fx_pl (Or.inl rfl) (fx_pi ⟨rfl, rfl⟩ (fx_pl (Or.inr rfl) F))) (by rw [mm_gi_pl, mm_gi_pi, if_pos ⟨rfl, rfl⟩])
/-- reckonAll: what the program says -/
theorem sp_reckonAll {p q w : Nat} {D : xE → Option Int} (H : WS h) (T : MXP h ord sz I) (hE : xOk (nwd ord) E) (hW : MWS h ord E) (P : xP (nwd ord) I p q w D) (hw : w ≤ 50) (hq : q ≤ sz)
    (k1 : ∀ g x, fx xM yM h g → mm_gi g 91 38 = 0 → mm_gl g 91 39 = i64 x → D E = some x → xB x → K none g) (k0 : ∀ g, fx xM yM h g → mm_gi g 91 38 = 1 → D E = none → K none g) : mm_MV q_X10_reckonAll (d + 2) (0, 0) [.ref 91, .int (nI p), .int (nI q)] h K := by
  have t4 := T.1
  refine e_X10_reckonAll (t_X10_reckonAll_0 _ _ _ ?_)
  simp only [s_iadd, s_isub, s_imul, s_iand, s_ior, s_ixor, s_ishl, s_ishr, s_iushr, s_idiv, s_irem, s_ladd, s_lsub, s_lmul, s_ldiv, s_lrem, s_ineg, s_i2l, s_l2i, s_i2c, s_lcmp, s_ic, s_lc, s_nul, s_str, s_il, s_ll, s_al, s_dup, s_dup2, s_pop, s_ifne, s_icne, s_ifeq, s_iflt, s_ifge, s_ifgt, s_ifle, s_iceq, s_iclt, s_icge, s_icgt, s_icle, s_ifnull, s_ifnonnull, s_is, s_ls, s_as, s_ii, s_gi, s_gl, s_gr, s_pi, s_pz, s_pl, s_pr, s_iald, s_zald, s_lald, s_aald, s_alen, s_iast, s_zast, s_last, s_iret, s_zret, s_lret, s_aret, s_vret, s_sw, s_aast, mm_sw, mm_ld, mm_s1, mm_s2, mm_kl, Value.category, va_rf, List.nil_append, List.cons_append, Option.toList, true_and, and_true, and_self, true_or, or_true, eq_self, not_true_eq_false, false_implies, true_implies, not_false_eq_true, mm_10, mm_01, false_or, or_false, Nat.left_eq_add, Nat.add_eq_left, Nat.add_left_cancel_iff, Nat.reduceEqDiff, false_and, and_false, reduceIte, mm_kd_pi, mm_ln_pi, mm_gl_pi, mm_gr_pi, mm_sz_pi, mm_gi_pi, mm_kd_pl, mm_ln_pl, mm_gi_pl, mm_gr_pl, mm_sz_pl, mm_gl_pl, mm_kd_pr, mm_ln_pr, mm_gi_pr, mm_gl_pr, mm_sz_pr, mm_gr_pr, mm_kd_pa, mm_ln_pa, mm_gl_pa, mm_gr_pa, mm_sz_pa, mm_gi_pa, W_kd_91 H, W_s_91 H, W_gr_91_2 H, W_gr_91_3 H, W_gr_91_4 H, W_gr_91_5 H, W_gr_91_6 H, W_gr_91_7 H, W_gr_91_9 H, W_gr_91_10 H, W_gr_91_12 H, W_gr_91_22 H, W_gr_91_24 H, W_gr_91_25 H, W_gr_91_27 H, W_gr_91_28 H, W_gr_91_31 H, W_gr_91_32 H, W_gr_91_33 H, W_gr_91_35 H, W_gr_91_36 H, W_gr_91_37 H, W_gr_91_41 H, W_gr_91_42 H, W_gr_91_43 H, W_gr_91_44 H, W_gr_91_45 H, W_gr_91_46 H, W_gr_91_47 H, W_gr_91_48 H, W_gr_91_49 H, W_gr_91_55 H]
  refine (P.2 E hE).2 (RAB K h) (RA d K h (nI p) q) (ra_cl H T hE hW hq) [] (by simp; omega) (fun x hx B hl g v5 v6 F hb SK => ?_) (fun z g F hb => k0 g F hb z) (fun a ha => by cases ha) (by simp) (mm_pi h 91 38 0) none none (fx_pi ⟨rfl, rfl⟩ fx_rf) (by rw [mm_gi_pi, if_pos ⟨rfl, rfl⟩]) trivial
  refine ra_end (n := 1) (fx_WS F H) rfl (by omega) (Or.inl (nI_le (Nat.le_refl q) (by omega))) ?_
  refine k1 _ x (fx_pl (Or.inl rfl) F) hb ?_ hx (B x List.mem_cons_self)
  rw [mm_gl_pl, if_pos ⟨rfl, rfl⟩, if_neg (by decide)]
  exact SK.1
end
