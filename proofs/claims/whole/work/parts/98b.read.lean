/-! the grammar, as what is closed under its rules; the class's reader: small things -/
abbrev xD : Type := xE → Option Int
abbrev pR : Type := Nat ⊕ (Nat × Nat × xD)
def dNum (v : Nat) : xD := fun _ => some (v : Int)
def dWord (j : Nat) : xD := fun E => some (E j)
def dJoin (c : Nat) (A B : xD) : xD := fun E => (A E).bind fun a => (B E).bind fun b => xj c a b
def dNot (A : xD) : xD := fun E => (A E).map fun a => 1 - a
def dOr (A B : xD) : xD := fun E => (A E).bind fun a => if a = 1 then some 1 else B E
def dAnd (A B : xD) : xD := fun E => (A E).bind fun a => if a = 0 then some 0 else B E
def notR : pR → pR
  | .inl f => .inl f
  | .inr (p, c, D) => .inr (p, c, dNot D)
def isS (n : Nat) (t : Nat → Nat) (x p : Nat) : Prop := tkk n t p = 3 ∧ tkv n t p = x
def isN (n : Nat) (t : Nat → Nat) (lo hi p : Nat) : Prop := tkk n t p = 2 ∧ lo ≤ tkv n t p ∧ tkv n t p ≤ hi
/-- the step of a level: 0 or 1 for words, 5 + c - 5 for signs -/
def sO (n : Nat) (t : Nat → Nat) (l p : Nat) : Option Nat := if l = 0 then wq n t 5 p else if l = 1 then wq n t 6 p else if tkk n t p = 3 then (if l = 3 then (if tkv n t p = 43 then some 0 else if tkv n t p = 45 then some 1 else none) else (if tkv n t p = 42 then some 2 else if tkv n t p = 47 then some 3 else if tkv n t p = 37 then some 4 else none)) else none
def cO (n : Nat) (t : Nat → Nat) (p : Nat) : Option Nat := if tkk n t p = 3 then (if tkv n t p = 60 then some 5 else if tkv n t p = 62 then some 6 else if tkv n t p = 61 then some 7 else none) else none
def mkD (l q : Nat) (A B : xD) : xD := if l = 0 then dOr A B else if l = 1 then dAnd A B else dJoin q A B
def bL (m : Nat) : Nat := if m = 6 then 0 else 3
def bC (m : Nat) : Nat := if m = 6 then 41 else 93
def wl (o : Bool) : Nat := if o = true then 3 else 4
def lvl (l : Nat) : Prop := l = 0 ∨ l = 1 ∨ l = 3 ∨ l = 4
/-- X m d p c r: at depth d, from the token at p with c parts before, mode m reads r; Y: the rest of a level -/
def PC (o : Bool) (n : Nat) (t : Nat → Nat) (X : Nat → Nat → Nat → Nat → pR → Prop) (Y : Nat → xD → Nat → Nat → Nat → pR → Prop) : Prop :=
  ((∀ l d p c f, lvl l → X (l + 1) d p c (.inl f) → X l d p c (.inl f)) ∧
  (∀ l d p c p1 c1 A r, lvl l → X (l + 1) d p c (.inr (p1, c1, A)) → Y l A d p1 c1 r → X l d p c r) ∧
  (∀ l A d p c, lvl l → sO n t l p = none → Y l A d p c (.inr (p, c, A))) ∧
  (∀ l A d p c q f, lvl l → sO n t l p = some q → X (l + 1) d (tkb n t p) c (.inl f) → Y l A d p c (.inl f)) ∧
  (∀ l A d p c q p1 c1 B r, lvl l → sO n t l p = some q → X (l + 1) d (tkb n t p) c (.inr (p1, c1, B)) → Y l (mkD l q A B) d p1 c1 r → Y l A d p c r)) ∧
  ((∀ d p c r, wq n t 2 p = some 0 → X 2 d (tkb n t p) c r → X 2 d p c (notR r)) ∧
  (∀ d p c r, wq n t 2 p = none → isS n t 40 p → X 6 d p c r → X 2 d p c r) ∧
  (∀ d p c r, wq n t 2 p = none → ¬ isS n t 40 p → X 8 d p c r → X 2 d p c r)) ∧
  ((∀ m d p c, m = 6 ∨ m = 7 → 8 ≤ d → X m d p c (.inl (tks n t p))) ∧
  (∀ m d p c f, m = 6 ∨ m = 7 → d < 8 → X (bL m) (d + 1) (tkb n t p) c (.inl f) → X m d p c (.inl f)) ∧
  (∀ m d p c p1 c1 D, m = 6 ∨ m = 7 → d < 8 → X (bL m) (d + 1) (tkb n t p) c (.inr (p1, c1, D)) → ¬ isS n t (bC m) p1 → X m d p c (.inl (tks n t p1))) ∧
  (∀ m d p c p1 c1 D, m = 6 ∨ m = 7 → d < 8 → X (bL m) (d + 1) (tkb n t p) c (.inr (p1, c1, D)) → isS n t (bC m) p1 → X m d p c (.inr (tkb n t p1, c1, D)))) ∧
  ((∀ d p c f, X 3 d p c (.inl f) → X 8 d p c (.inl f)) ∧
  (∀ d p c p1 c1 A, X 3 d p c (.inr (p1, c1, A)) → cO n t p1 = none → X 8 d p c (.inl (tks n t p1))) ∧
  (∀ d p c p1 c1 A q f, X 3 d p c (.inr (p1, c1, A)) → cO n t p1 = some q → X 3 d (tkb n t p1) c1 (.inl f) → X 8 d p c (.inl f)) ∧
  (∀ d p c p1 c1 A q p2 c2 B, X 3 d p c (.inr (p1, c1, A)) → cO n t p1 = some q → X 3 d (tkb n t p1) c1 (.inr (p2, c2, B)) → X 8 d p c (.inr (p2, c2, dJoin q A B)))) ∧
  ((∀ d p c r, isS n t 91 p → X 7 d p c r → X 5 d p c r) ∧
  (∀ d p c, ¬ isS n t 91 p → 50 ≤ c → X 5 d p c (.inl (tks n t p))) ∧
  (∀ d p c, ¬ isS n t 91 p → c < 50 → isN n t 0 1000 p → X 5 d p c (.inr (tkb n t p, c + 1, dNum (tkv n t p)))) ∧
  (∀ d p c, ¬ isS n t 91 p → c < 50 → ¬ isN n t 0 1000 p → wq n t (wl o) p = none → X 5 d p c (.inl (tks n t p))) ∧
  (∀ d p c j, ¬ isS n t 91 p → c < 50 → ¬ isN n t 0 1000 p → wq n t (wl o) p = some j → o = false ∨ j < 4 → X 5 d p c (.inr (tkb n t p, c + 1, dWord j))) ∧
  (∀ d p c j, ¬ isS n t 91 p → c < 50 → ¬ isN n t 0 1000 p → wq n t (wl o) p = some j → o = true → 4 ≤ j → isN n t 0 5 (tkb n t p) → X 5 d p c (.inr (tkb n t (tkb n t p), c + 1, dWord ((if j = 4 then 4 else 10) + tkv n t (tkb n t p))))) ∧
  (∀ d p c j, ¬ isS n t 91 p → c < 50 → ¬ isN n t 0 1000 p → wq n t (wl o) p = some j → o = true → 4 ≤ j → ¬ isN n t 0 5 (tkb n t p) → X 5 d p c (.inl (tks n t (tkb n t p)))))
/-! the class's state while it reads -/
def xRd (c j : Nat) : Prop := c = 57 ∨ (c = 56 ∧ (j = 3 ∨ j = 4)) ∨ (c = 58 ∧ j = 6) ∨ c = 64 ∨ c = 65
def CS (o : Bool) (n : Nat) (t : Nat → Nat) (h : mmH) (p c z : Nat) (I : xIn) : Prop := WS h ∧ TPE h n t ∧ (p ≤ n ∧ mm_gi h 56 4 = -1 ∧ c ≤ 50 ∧ z ≤ 400) ∧ TKc h n t p ∧ mm_gi h 56 2 = bI o ∧ mm_gi h 56 3 = nI c ∧ mm_gi h 58 6 = nI z ∧ ∀ i, i < z → cde (mm_gi h 64) (mm_gi h 65) i (I i)
def iu (I : xIn) (z : Nat) (x : Nat × Nat) : xIn := fun i => if i = z then x else I i
theorem iu_eq {I : xIn} {z : Nat} {x : Nat × Nat} : iu I z x z = x := if_pos rfl
theorem iu_ne {I : xIn} {z i : Nat} {x : Nat × Nat} (h : i ≠ z) : iu I z x i = I i := if_neg h
def CO (o : Bool) (n : Nat) (t : Nat → Nat) (nw : Nat) (h : mmH) (p c z : Nat) (I : xIn) (g : mmH) (p' c' z' : Nat) (I' : xIn) (D : xD) : Prop := fx xRd y0 h g ∧ CS o n t g p' c' z' I' ∧ (p < p' ∧ c ≤ c' ∧ z ≤ z' ∧ z' + p ≤ z + p') ∧ (∀ i, i < z → I' i = I i) ∧ xP nw I' z z' (c' - c) D
def CF (h g : mmH) (f : Nat) : Prop := fx xRd y0 h g ∧ mm_gi g 56 4 = nI f ∧ f ≤ 400 ∧ ∃ z, z ≤ 400 ∧ mm_gi g 58 6 = nI z
def tst (m : Nat) : Prop := m ≤ 2 ∨ m = 6 ∨ m = 8
def GO (X : Nat → Nat → Nat → Nat → pR → Prop) (m dd : Nat) (o : Bool) (n : Nat) (t : Nat → Nat) (nw : Nat) (h : mmH) (p c z : Nat) (I : xIn) (R : (Option Value → mmH → Prop) → Prop) : Prop :=
  ∀ K : Option Value → mmH → Prop, (∀ g p' c' z' I' D, X m dd p c (.inr (p', c', D)) → CO o n t nw h p c z I g p' c' z' I' D → (tst m → xT nw D) → K (some (.int 1)) g) → (∀ g f, X m dd p c (.inl f) → CF h g f → K (some (.int 0)) g) → R K
section
variable {d : Nat} {h : mmH} {K : Option Value → mmH → Prop} {o : Bool} {n : Nat} {t : Nat → Nat} {p c z : Nat} {I : xIn}
theorem fx_rd {g : mmH} (F : fx xtk y0 h g) : fx xRd y0 h g := fx_mo (fun _ _ y => Or.inl y) (fun _ y => y) F
theorem rd_T : ∀ j, ¬ xRd 54 j ∧ ¬ xRd 55 j := fun j => ⟨by unfold xRd; omega, by unfold xRd; omega⟩
theorem CS_adv (C : CS o n t h p c z I) (k : ∀ g, fx xRd y0 h g → CS o n t g (tkb n t p) c z I → K none g) : mm_MV q_X7_advance (d + 1) (0, 0) [.ref 57] h K := by
  obtain ⟨H, T, ⟨b1, b2, b3, b4⟩, C1, C2, C3, C4, C5⟩ := C
  have bl := tkb_le (t := t) b1
  have sl := tks_le (t := t) b1
  refine sp_advance H T bl.2.1 C1.2.2.1 (fun g F TC => k g (fx_rd F) ⟨fx_WS F H, TPE_fx (fun j => ⟨by unfold xtk; decide, by unfold xtk; decide⟩) F T, ⟨bl.2.1, (F.2.1 56 4 (by unfold xtk; decide)).trans b2, b3, b4⟩, TC, ?_, ?_, ?_, fun i hi => ?_⟩)
  · rw [F.2.1 56 2 (by unfold xtk; decide)]; exact C2
  · rw [F.2.1 56 3 (by unfold xtk; decide)]; exact C3
  · rw [F.2.1 58 6 (by unfold xtk; decide)]; exact C4
  · have := C5 i hi
    unfold cde at this ⊢
    rw [F.2.1 64 i (by unfold xtk; decide), F.2.1 65 i (by unfold xtk; decide)]
    exact this
theorem CS_w {i : Nat} (C : CS o n t h p c z I) (hi : i < 10) (k : K (some (.int (oI (wq n t i p)))) h) : mm_MV q_X7_wordAmong (d + 4) (0, 0) [.ref 57, .retAddr i] h K := sp_wA C.1 C.2.1 C.2.2.1.1 C.2.2.2.1 hi k
theorem tkv_le (T : TPE h n t) : tkv n t p ≤ 1001 := by
  have rl : ∀ m q v kd, v ≤ 1001 → (rwF t kd m q v).2 ≤ 1001 := by
    intro m
    induction m with
    | zero => intro q v kd hv; exact hv
    | succ m ih =>
      intro q v kd hv
      rw [rwF]
      split
      · exact ih _ _ _ (by unfold vlN; split <;> omega)
      · exact hv
  unfold tkv tkr
  split
  · exact Nat.zero_le _
  · next z0 =>
    have : tks n t p < n := by
      have := tkk_0 (n := n) (t := t) (p := p)
      omega
    have := (T.2.2 _ this).1
    split
    · show t (tks n t p) ≤ 1001; omega
    · refine rl _ _ _ _ ?_
      split <;> omega
theorem CS_s {x : Nat} (C : CS o n t h p c z I) (hx : x < 256) (k1 : isS n t x p → K (some (.int 1)) h) (k0 : ¬ isS n t x p → K (some (.int 0)) h) : mm_MV q_X7_isSign d (0, 0) [.ref 57, .int (nI x)] h K := by
  have e : (mm_gi h 57 1 = 3 ∧ mm_gi h 57 4 = nI x) ↔ isS n t x p := by
    have a := tkk_le (n := n) (t := t) (p := p)
    have b := tkv_le (p := p) C.2.1
    rw [C.2.2.2.1.1, C.2.2.2.1.2.2.2, isS, show (3 : Int32) = nI 3 from rfl, nI_eq (by omega) (by omega), nI_eq (by omega) (by omega)]
  exact sp_isSign C.1 (fun y => k1 (e.mp y)) (fun y => k0 (fun w => y (e.mpr w)))
theorem CS_n {lo hi : Nat} (C : CS o n t h p c z I) (hl : lo ≤ 2000) (hh : hi ≤ 2000) (k1 : isN n t lo hi p → K (some (.int 1)) h) (k0 : ¬ isN n t lo hi p → K (some (.int 0)) h) : mm_MV q_X7_isNumber d (0, 0) [.ref 57, .int (nI lo), .int (nI hi)] h K := by
  have e : (mm_gi h 57 1 = 2 ∧ ¬ mm_gi h 57 4 < nI lo ∧ ¬ nI hi < mm_gi h 57 4) ↔ isN n t lo hi p := by
    have a := tkk_le (n := n) (t := t) (p := p)
    have b := tkv_le (p := p) C.2.1
    rw [C.2.2.2.1.1, C.2.2.2.1.2.2.2, isN, show (2 : Int32) = nI 2 from rfl, nI_eq (by omega) (by omega), Int32.lt_iff_toInt_lt, Int32.lt_iff_toInt_lt, nI_toInt (by omega), nI_toInt (by omega), nI_toInt (by omega)]
    omega
  exact sp_isNumber C.1 (fun y => k1 (e.mp y)) (fun y => k0 (fun w => y (e.mpr w)))
theorem CS_emit {x : Nat × Nat} {s v : Int32} (es : s = nI (cst x.1)) (ev : v = nI x.2) (C : CS o n t h p c z I) (hz : z < 400) (k : ∀ g, fx xRd y0 h g → CS o n t g p c (z + 1) (iu I z x) → K none g) : mm_MV q_X6_emit d (0, 0) [.ref 58, .int s, .int v] h K := by
  subst es ev
  obtain ⟨H, T, ⟨b1, b2, b3, b4⟩, C1, C2, C3, C4, C5⟩ := C
  refine e_X6_emit (t_X6_emit_0 _ _ _ ?_)
  obtain ⟨g1, eg1⟩ : ∃ g1 : mmH, g1 = mm_pi h 64 z (nI (cst x.1)) := ⟨_, rfl⟩
  obtain ⟨g2, eg2⟩ : ∃ g2 : mmH, g2 = mm_pi g1 65 z (nI x.2) := ⟨_, rfl⟩
  have F1 : fx xRd y0 h g1 := by rw [eg1]; exact fx_pi (by unfold xRd; omega) fx_rf
  have F2 : fx xRd y0 h g2 := by rw [eg2]; exact fx_pi (by unfold xRd; omega) F1
  have H1 := fx_WS F1 H
  have H2 := fx_WS F2 H
  have C41 : mm_gi g1 58 6 = nI z := by rw [eg1, mm_gi_pi, if_neg (by omega)]; exact C4
  have C42 : mm_gi g2 58 6 = nI z := by rw [eg2, mm_gi_pi, if_neg (by omega)]; exact C41
  simp only [s_iadd, s_isub, s_imul, s_iand, s_ior, s_ixor, s_ishl, s_ishr, s_iushr, s_idiv, s_irem, s_ladd, s_lsub, s_lmul, s_ldiv, s_lrem, s_ineg, s_i2l, s_l2i, s_i2c, s_lcmp, s_ic, s_lc, s_nul, s_str, s_il, s_ll, s_al, s_dup, s_dup2, s_pop, s_ifne, s_icne, s_ifeq, s_iflt, s_ifge, s_ifgt, s_ifle, s_iceq, s_iclt, s_icge, s_icgt, s_icle, s_ifnull, s_ifnonnull, s_is, s_ls, s_as, s_ii, s_gi, s_gl, s_gr, s_pi, s_pz, s_pl, s_pr, s_iald, s_zald, s_lald, s_aald, s_alen, s_iast, s_zast, s_last, s_iret, s_zret, s_lret, s_aret, s_vret, s_sw, s_aast, mm_sw, mm_ld, mm_s1, mm_s2, mm_kl, Value.category, va_rf, List.nil_append, List.cons_append, Option.toList, true_and, and_true, and_self, true_or, or_true, eq_self, not_true_eq_false, false_implies, true_implies, not_false_eq_true, mm_10, mm_01, false_or, or_false, Nat.left_eq_add, Nat.add_eq_left, Nat.add_left_cancel_iff, Nat.reduceEqDiff, false_and, and_false, reduceIte, mm_kd_pi, mm_ln_pi, mm_gl_pi, mm_gr_pi, mm_sz_pi, mm_gi_pi, mm_kd_pl, mm_ln_pl, mm_gi_pl, mm_gr_pl, mm_sz_pl, mm_gl_pl, mm_kd_pr, mm_ln_pr, mm_gi_pr, mm_gl_pr, mm_sz_pr, mm_gr_pr, mm_kd_pa, mm_ln_pa, mm_gl_pa, mm_gr_pa, mm_sz_pa, mm_gi_pa, W_kd_58 H, W_s_58 H, W_gr_58_1 H, W_gr_58_2 H, W_gr_58_3 H, W_gr_58_4 H, W_gr_58_5 H, W_gr_58_7 H, W_gr_58_8 H, W_kd_64 H, W_s_64 H, W_ln_64 H, W_kd_65 H, W_s_65 H, W_ln_65 H, C4, eq_false (nI_ge hz (show 400 < 2 ^ 31 by decide)), show (400 : Int32) = nI 400 from rfl, nI_clamp (show z < 2 ^ 31 by omega), vp_in_nI hz (show 400 < 2 ^ 31 by decide), ← eg1, C41, W_kd_58 H1, W_s_58 H1, W_gr_58_1 H1, W_gr_58_2 H1, W_gr_58_3 H1, W_gr_58_4 H1, W_gr_58_5 H1, W_gr_58_7 H1, W_gr_58_8 H1, W_kd_64 H1, W_s_64 H1, W_ln_64 H1, W_kd_65 H1, W_s_65 H1, W_ln_65 H1, ← eg2, C42, W_kd_58 H2, W_s_58 H2, W_gr_58_1 H2, W_gr_58_2 H2, W_gr_58_3 H2, W_gr_58_4 H2, W_gr_58_5 H2, W_gr_58_7 H2, W_gr_58_8 H2, W_kd_64 H2, W_s_64 H2, W_ln_64 H2, W_kd_65 H2, W_s_65 H2, W_ln_65 H2, nI_1]
  refine t_X6_emit_42 _ _ _ ?_
  simp only [s_iadd, s_isub, s_imul, s_iand, s_ior, s_ixor, s_ishl, s_ishr, s_iushr, s_idiv, s_irem, s_ladd, s_lsub, s_lmul, s_ldiv, s_lrem, s_ineg, s_i2l, s_l2i, s_i2c, s_lcmp, s_ic, s_lc, s_nul, s_str, s_il, s_ll, s_al, s_dup, s_dup2, s_pop, s_ifne, s_icne, s_ifeq, s_iflt, s_ifge, s_ifgt, s_ifle, s_iceq, s_iclt, s_icge, s_icgt, s_icle, s_ifnull, s_ifnonnull, s_is, s_ls, s_as, s_ii, s_gi, s_gl, s_gr, s_pi, s_pz, s_pl, s_pr, s_iald, s_zald, s_lald, s_aald, s_alen, s_iast, s_zast, s_last, s_iret, s_zret, s_lret, s_aret, s_vret, s_sw, s_aast, mm_sw, mm_ld, mm_s1, mm_s2, mm_kl, Value.category, va_rf, List.nil_append, List.cons_append, Option.toList, true_and, and_true, and_self, true_or, or_true, eq_self, not_true_eq_false, false_implies, true_implies, not_false_eq_true, mm_10, mm_01, false_or, or_false, Nat.left_eq_add, Nat.add_eq_left, Nat.add_left_cancel_iff, Nat.reduceEqDiff, false_and, and_false, reduceIte, mm_kd_pi, mm_ln_pi, mm_gl_pi, mm_gr_pi, mm_sz_pi, mm_gi_pi, mm_kd_pl, mm_ln_pl, mm_gi_pl, mm_gr_pl, mm_sz_pl, mm_gl_pl, mm_kd_pr, mm_ln_pr, mm_gi_pr, mm_gl_pr, mm_sz_pr, mm_gr_pr, mm_kd_pa, mm_ln_pa, mm_gl_pa, mm_gr_pa, mm_sz_pa, mm_gi_pa]
  refine k _ (fx_pi (by unfold xRd; omega) F2) ⟨fx_WS (fx_pi (X := xRd) (Y := y0) (by unfold xRd; omega) F2) H, TPE_fx rd_T (fx_pi (X := xRd) (Y := y0) (by unfold xRd; omega) F2) T, ⟨b1, by rw [mm_gi_pi, if_neg (by omega), eg2, mm_gi_pi, if_neg (by omega), eg1, mm_gi_pi, if_neg (by omega)]; exact b2, b3, by omega⟩, ?_, ?_, ?_, ?_, fun i hi => ?_⟩
  · have q : ∀ j, mm_gi (mm_pi g2 58 6 (nI (z + 1))) 57 j = mm_gi h 57 j := fun j => by rw [mm_gi_pi, if_neg (by omega), eg2, mm_gi_pi, if_neg (by omega), eg1, mm_gi_pi, if_neg (by omega)]
    unfold TKc
    rw [q, q, q, q]
    exact C1
  · rw [mm_gi_pi, if_neg (by omega), eg2, mm_gi_pi, if_neg (by omega), eg1, mm_gi_pi, if_neg (by omega)]; exact C2
  · rw [mm_gi_pi, if_neg (by omega), eg2, mm_gi_pi, if_neg (by omega), eg1, mm_gi_pi, if_neg (by omega)]; exact C3
  · rw [mm_gi_pi, if_pos ⟨rfl, rfl⟩]
  · unfold cde
    by_cases y : i = z
    · subst y
      rw [iu_eq, mm_gi_pi, if_neg (by omega), eg2, mm_gi_pi, if_neg (by omega), eg1, mm_gi_pi, if_pos ⟨rfl, rfl⟩, mm_gi_pi, if_neg (by omega), mm_gi_pi, if_pos ⟨rfl, rfl⟩]
      exact ⟨rfl, rfl⟩
    · rw [iu_ne y, mm_gi_pi, if_neg (by omega), eg2, mm_gi_pi, if_neg (by omega), eg1, mm_gi_pi, if_neg (by omega), mm_gi_pi, if_neg (by omega), mm_gi_pi, if_neg (by omega), mm_gi_pi, if_neg (by omega)]
      exact C5 i (by omega)
theorem CS_aim {q : Nat} (C : CS o n t h p c z I) (hq : q < z) (k : ∀ g, fx xRd y0 h g → CS o n t g p c z (iu I q ((I q).1, z)) → K none g) : mm_MV q_X6_aim d (0, 0) [.ref 58, .int (nI q)] h K := by
  obtain ⟨H, T, ⟨b1, b2, b3, b4⟩, C1, C2, C3, C4, C5⟩ := C
  refine e_X6_aim (t_X6_aim_0 _ _ _ ?_)
  simp only [s_iadd, s_isub, s_imul, s_iand, s_ior, s_ixor, s_ishl, s_ishr, s_iushr, s_idiv, s_irem, s_ladd, s_lsub, s_lmul, s_ldiv, s_lrem, s_ineg, s_i2l, s_l2i, s_i2c, s_lcmp, s_ic, s_lc, s_nul, s_str, s_il, s_ll, s_al, s_dup, s_dup2, s_pop, s_ifne, s_icne, s_ifeq, s_iflt, s_ifge, s_ifgt, s_ifle, s_iceq, s_iclt, s_icge, s_icgt, s_icle, s_ifnull, s_ifnonnull, s_is, s_ls, s_as, s_ii, s_gi, s_gl, s_gr, s_pi, s_pz, s_pl, s_pr, s_iald, s_zald, s_lald, s_aald, s_alen, s_iast, s_zast, s_last, s_iret, s_zret, s_lret, s_aret, s_vret, s_sw, s_aast, mm_sw, mm_ld, mm_s1, mm_s2, mm_kl, Value.category, va_rf, List.nil_append, List.cons_append, Option.toList, true_and, and_true, and_self, true_or, or_true, eq_self, not_true_eq_false, false_implies, true_implies, not_false_eq_true, mm_10, mm_01, false_or, or_false, Nat.left_eq_add, Nat.add_eq_left, Nat.add_left_cancel_iff, Nat.reduceEqDiff, false_and, and_false, reduceIte, mm_kd_pi, mm_ln_pi, mm_gl_pi, mm_gr_pi, mm_sz_pi, mm_gi_pi, mm_kd_pl, mm_ln_pl, mm_gi_pl, mm_gr_pl, mm_sz_pl, mm_gl_pl, mm_kd_pr, mm_ln_pr, mm_gi_pr, mm_gl_pr, mm_sz_pr, mm_gr_pr, mm_kd_pa, mm_ln_pa, mm_gl_pa, mm_gr_pa, mm_sz_pa, mm_gi_pa, W_kd_58 H, W_s_58 H, W_gr_58_1 H, W_gr_58_2 H, W_gr_58_3 H, W_gr_58_4 H, W_gr_58_5 H, W_gr_58_7 H, W_gr_58_8 H, W_kd_65 H, W_s_65 H, W_ln_65 H, C4, eq_false (nI_pos (show q < 2 ^ 31 by omega)), eq_false (nI_ge hq (show z < 2 ^ 31 by omega)), nI_clamp (show q < 2 ^ 31 by omega), vp_in_nI (show q < 400 by omega) (show 400 < 2 ^ 31 by decide)]
  refine t_X6_aim_22 _ _ _ ?_
  simp only [s_iadd, s_isub, s_imul, s_iand, s_ior, s_ixor, s_ishl, s_ishr, s_iushr, s_idiv, s_irem, s_ladd, s_lsub, s_lmul, s_ldiv, s_lrem, s_ineg, s_i2l, s_l2i, s_i2c, s_lcmp, s_ic, s_lc, s_nul, s_str, s_il, s_ll, s_al, s_dup, s_dup2, s_pop, s_ifne, s_icne, s_ifeq, s_iflt, s_ifge, s_ifgt, s_ifle, s_iceq, s_iclt, s_icge, s_icgt, s_icle, s_ifnull, s_ifnonnull, s_is, s_ls, s_as, s_ii, s_gi, s_gl, s_gr, s_pi, s_pz, s_pl, s_pr, s_iald, s_zald, s_lald, s_aald, s_alen, s_iast, s_zast, s_last, s_iret, s_zret, s_lret, s_aret, s_vret, s_sw, s_aast, mm_sw, mm_ld, mm_s1, mm_s2, mm_kl, Value.category, va_rf, List.nil_append, List.cons_append, Option.toList, true_and, and_true, and_self, true_or, or_true, eq_self, not_true_eq_false, false_implies, true_implies, not_false_eq_true, mm_10, mm_01, false_or, or_false, Nat.left_eq_add, Nat.add_eq_left, Nat.add_left_cancel_iff, Nat.reduceEqDiff, false_and, and_false, reduceIte, mm_kd_pi, mm_ln_pi, mm_gl_pi, mm_gr_pi, mm_sz_pi, mm_gi_pi, mm_kd_pl, mm_ln_pl, mm_gi_pl, mm_gr_pl, mm_sz_pl, mm_gl_pl, mm_kd_pr, mm_ln_pr, mm_gi_pr, mm_gl_pr, mm_sz_pr, mm_gr_pr, mm_kd_pa, mm_ln_pa, mm_gl_pa, mm_gr_pa, mm_sz_pa, mm_gi_pa]
  have F : fx xRd y0 h (mm_pi h 65 q (nI z)) := fx_pi (by unfold xRd; omega) fx_rf
  refine k _ F ⟨fx_WS F H, TPE_fx rd_T F T, ⟨b1, by rw [mm_gi_pi, if_neg (by omega)]; exact b2, b3, by omega⟩, ?_, ?_, ?_, ?_, fun i hi => ?_⟩
  · have q : ∀ j, mm_gi (mm_pi h 65 q (nI z)) 57 j = mm_gi h 57 j := fun j => by rw [mm_gi_pi, if_neg (by omega)]
    unfold TKc
    rw [q, q, q, q]
    exact C1
  · rw [mm_gi_pi, if_neg (by omega)]; exact C2
  · rw [mm_gi_pi, if_neg (by omega)]; exact C3
  · rw [mm_gi_pi, if_neg (by omega)]; exact C4
  · unfold cde
    by_cases y : i = q
    · subst y
      rw [iu_eq, mm_gi_pi, if_neg (by omega), mm_gi_pi, if_pos ⟨rfl, rfl⟩]
      exact ⟨(C5 i hi).1, rfl⟩
    · rw [iu_ne y, mm_gi_pi, if_neg (by omega), mm_gi_pi, if_neg (by omega)]
      exact C5 i hi
theorem CS_stop (C : CS o n t h p c z I) (k : ∀ g, CF h g (tks n t p) → K (some (.int 0)) g) : mm_MV q_X3_stop d (0, 0) [.ref 56] h K := by
  have s1 := tks_le (t := t) C.2.2.1.1
  have n4 := C.2.1.1
  have H := C.1
  refine e_X3_stop (t_X3_stop_0 _ _ _ ?_)
  simp only [s_iadd, s_isub, s_imul, s_iand, s_ior, s_ixor, s_ishl, s_ishr, s_iushr, s_idiv, s_irem, s_ladd, s_lsub, s_lmul, s_ldiv, s_lrem, s_ineg, s_i2l, s_l2i, s_i2c, s_lcmp, s_ic, s_lc, s_nul, s_str, s_il, s_ll, s_al, s_dup, s_dup2, s_pop, s_ifne, s_icne, s_ifeq, s_iflt, s_ifge, s_ifgt, s_ifle, s_iceq, s_iclt, s_icge, s_icgt, s_icle, s_ifnull, s_ifnonnull, s_is, s_ls, s_as, s_ii, s_gi, s_gl, s_gr, s_pi, s_pz, s_pl, s_pr, s_iald, s_zald, s_lald, s_aald, s_alen, s_iast, s_zast, s_last, s_iret, s_zret, s_lret, s_aret, s_vret, s_sw, s_aast, mm_sw, mm_ld, mm_s1, mm_s2, mm_kl, Value.category, va_rf, List.nil_append, List.cons_append, Option.toList, true_and, and_true, and_self, true_or, or_true, eq_self, not_true_eq_false, false_implies, true_implies, not_false_eq_true, mm_10, mm_01, false_or, or_false, Nat.left_eq_add, Nat.add_eq_left, Nat.add_left_cancel_iff, Nat.reduceEqDiff, false_and, and_false, reduceIte, mm_kd_pi, mm_ln_pi, mm_gl_pi, mm_gr_pi, mm_sz_pi, mm_gi_pi, mm_kd_pl, mm_ln_pl, mm_gi_pl, mm_gr_pl, mm_sz_pl, mm_gl_pl, mm_kd_pr, mm_ln_pr, mm_gi_pr, mm_gl_pr, mm_sz_pr, mm_gr_pr, mm_kd_pa, mm_ln_pa, mm_gl_pa, mm_gr_pa, mm_sz_pa, mm_gi_pa, W_kd_56 H, W_s_56 H, W_gr_56_0 H, W_gr_56_1 H, W_kd_57 H, W_s_57 H, W_gr_57_0 H, C.2.2.2.1.2.1]
  exact k _ ⟨fx_pi (by unfold xRd; omega) fx_rf, by rw [mm_gi_pi, if_pos ⟨rfl, rfl⟩], by omega, z, C.2.2.1.2.2.2, by rw [mm_gi_pi, if_neg (by omega)]; exact C.2.2.2.2.2.2.1⟩
theorem CS_sign {x : Nat} (C : CS o n t h p c z I) (hx : x < 256) (k1 : ∀ g, isS n t x p → fx xRd y0 h g → CS o n t g (tkb n t p) c z I → K (some (.int 1)) g) (k0 : ∀ g, ¬ isS n t x p → CF h g (tks n t p) → K (some (.int 0)) g) : mm_MV q_X3_takeSign (d + 2) (0, 0) [.ref 56, .int (nI x)] h K := by
  have H := C.1
  refine e_X3_takeSign (t_X3_takeSign_0 _ _ _ ?_)
  simp only [s_iadd, s_isub, s_imul, s_iand, s_ior, s_ixor, s_ishl, s_ishr, s_iushr, s_idiv, s_irem, s_ladd, s_lsub, s_lmul, s_ldiv, s_lrem, s_ineg, s_i2l, s_l2i, s_i2c, s_lcmp, s_ic, s_lc, s_nul, s_str, s_il, s_ll, s_al, s_dup, s_dup2, s_pop, s_ifne, s_icne, s_ifeq, s_iflt, s_ifge, s_ifgt, s_ifle, s_iceq, s_iclt, s_icge, s_icgt, s_icle, s_ifnull, s_ifnonnull, s_is, s_ls, s_as, s_ii, s_gi, s_gl, s_gr, s_pi, s_pz, s_pl, s_pr, s_iald, s_zald, s_lald, s_aald, s_alen, s_iast, s_zast, s_last, s_iret, s_zret, s_lret, s_aret, s_vret, s_sw, s_aast, mm_sw, mm_ld, mm_s1, mm_s2, mm_kl, Value.category, va_rf, List.nil_append, List.cons_append, Option.toList, true_and, and_true, and_self, true_or, or_true, eq_self, not_true_eq_false, false_implies, true_implies, not_false_eq_true, mm_10, mm_01, false_or, or_false, Nat.left_eq_add, Nat.add_eq_left, Nat.add_left_cancel_iff, Nat.reduceEqDiff, false_and, and_false, reduceIte, mm_kd_pi, mm_ln_pi, mm_gl_pi, mm_gr_pi, mm_sz_pi, mm_gi_pi, mm_kd_pl, mm_ln_pl, mm_gi_pl, mm_gr_pl, mm_sz_pl, mm_gl_pl, mm_kd_pr, mm_ln_pr, mm_gi_pr, mm_gl_pr, mm_sz_pr, mm_gr_pr, mm_kd_pa, mm_ln_pa, mm_gl_pa, mm_gr_pa, mm_sz_pa, mm_gi_pa, W_kd_56 H, W_s_56 H, W_gr_56_0 H, W_gr_56_1 H]
  refine c_X3_takeSign_5 (bb := (0, 0)) (b := (0, 0)) (Nat.le_of_ble_eq_true rfl) ⟨rfl, rfl⟩ (W_kd_57 H) (W_s_57 H) (CS_s C hx (fun y => ?_) (fun y => ?_)) <;> refine t_X3_takeSign_8 _ _ _ ?_
  · simp only [s_iadd, s_isub, s_imul, s_iand, s_ior, s_ixor, s_ishl, s_ishr, s_iushr, s_idiv, s_irem, s_ladd, s_lsub, s_lmul, s_ldiv, s_lrem, s_ineg, s_i2l, s_l2i, s_i2c, s_lcmp, s_ic, s_lc, s_nul, s_str, s_il, s_ll, s_al, s_dup, s_dup2, s_pop, s_ifne, s_icne, s_ifeq, s_iflt, s_ifge, s_ifgt, s_ifle, s_iceq, s_iclt, s_icge, s_icgt, s_icle, s_ifnull, s_ifnonnull, s_is, s_ls, s_as, s_ii, s_gi, s_gl, s_gr, s_pi, s_pz, s_pl, s_pr, s_iald, s_zald, s_lald, s_aald, s_alen, s_iast, s_zast, s_last, s_iret, s_zret, s_lret, s_aret, s_vret, s_sw, s_aast, mm_sw, mm_ld, mm_s1, mm_s2, mm_kl, Value.category, va_rf, List.nil_append, List.cons_append, Option.toList, true_and, and_true, and_self, true_or, or_true, eq_self, not_true_eq_false, false_implies, true_implies, not_false_eq_true, mm_10, mm_01, false_or, or_false, Nat.left_eq_add, Nat.add_eq_left, Nat.add_left_cancel_iff, Nat.reduceEqDiff, false_and, and_false, reduceIte, mm_kd_pi, mm_ln_pi, mm_gl_pi, mm_gr_pi, mm_sz_pi, mm_gi_pi, mm_kd_pl, mm_ln_pl, mm_gi_pl, mm_gr_pl, mm_sz_pl, mm_gl_pl, mm_kd_pr, mm_ln_pr, mm_gi_pr, mm_gl_pr, mm_sz_pr, mm_gr_pr, mm_kd_pa, mm_ln_pa, mm_gl_pa, mm_gr_pa, mm_sz_pa, mm_gi_pa, W_kd_56 H, W_s_56 H, W_gr_56_0 H, W_gr_56_1 H, show ((1 : Int32) = 0) = False by decide]
    refine c_X3_takeSign_20 (bb := (0, 0)) (b := (0, 0)) (Nat.le_of_ble_eq_true rfl) ⟨rfl, rfl⟩ (W_kd_57 H) (W_s_57 H) (CS_adv C (fun g F C' => ?_))
    refine t_X3_takeSign_23 _ _ _ ?_
    simp only [s_iadd, s_isub, s_imul, s_iand, s_ior, s_ixor, s_ishl, s_ishr, s_iushr, s_idiv, s_irem, s_ladd, s_lsub, s_lmul, s_ldiv, s_lrem, s_ineg, s_i2l, s_l2i, s_i2c, s_lcmp, s_ic, s_lc, s_nul, s_str, s_il, s_ll, s_al, s_dup, s_dup2, s_pop, s_ifne, s_icne, s_ifeq, s_iflt, s_ifge, s_ifgt, s_ifle, s_iceq, s_iclt, s_icge, s_icgt, s_icle, s_ifnull, s_ifnonnull, s_is, s_ls, s_as, s_ii, s_gi, s_gl, s_gr, s_pi, s_pz, s_pl, s_pr, s_iald, s_zald, s_lald, s_aald, s_alen, s_iast, s_zast, s_last, s_iret, s_zret, s_lret, s_aret, s_vret, s_sw, s_aast, mm_sw, mm_ld, mm_s1, mm_s2, mm_kl, Value.category, va_rf, List.nil_append, List.cons_append, Option.toList, true_and, and_true, and_self, true_or, or_true, eq_self, not_true_eq_false, false_implies, true_implies, not_false_eq_true, mm_10, mm_01, false_or, or_false, Nat.left_eq_add, Nat.add_eq_left, Nat.add_left_cancel_iff, Nat.reduceEqDiff, false_and, and_false, reduceIte, mm_kd_pi, mm_ln_pi, mm_gl_pi, mm_gr_pi, mm_sz_pi, mm_gi_pi, mm_kd_pl, mm_ln_pl, mm_gi_pl, mm_gr_pl, mm_sz_pl, mm_gl_pl, mm_kd_pr, mm_ln_pr, mm_gi_pr, mm_gl_pr, mm_sz_pr, mm_gr_pr, mm_kd_pa, mm_ln_pa, mm_gl_pa, mm_gr_pa, mm_sz_pa, mm_gi_pa]
    exact k1 g y F C'
  · simp only [s_iadd, s_isub, s_imul, s_iand, s_ior, s_ixor, s_ishl, s_ishr, s_iushr, s_idiv, s_irem, s_ladd, s_lsub, s_lmul, s_ldiv, s_lrem, s_ineg, s_i2l, s_l2i, s_i2c, s_lcmp, s_ic, s_lc, s_nul, s_str, s_il, s_ll, s_al, s_dup, s_dup2, s_pop, s_ifne, s_icne, s_ifeq, s_iflt, s_ifge, s_ifgt, s_ifle, s_iceq, s_iclt, s_icge, s_icgt, s_icle, s_ifnull, s_ifnonnull, s_is, s_ls, s_as, s_ii, s_gi, s_gl, s_gr, s_pi, s_pz, s_pl, s_pr, s_iald, s_zald, s_lald, s_aald, s_alen, s_iast, s_zast, s_last, s_iret, s_zret, s_lret, s_aret, s_vret, s_sw, s_aast, mm_sw, mm_ld, mm_s1, mm_s2, mm_kl, Value.category, va_rf, List.nil_append, List.cons_append, Option.toList, true_and, and_true, and_self, true_or, or_true, eq_self, not_true_eq_false, false_implies, true_implies, not_false_eq_true, mm_10, mm_01, false_or, or_false, Nat.left_eq_add, Nat.add_eq_left, Nat.add_left_cancel_iff, Nat.reduceEqDiff, false_and, and_false, reduceIte, mm_kd_pi, mm_ln_pi, mm_gl_pi, mm_gr_pi, mm_sz_pi, mm_gi_pi, mm_kd_pl, mm_ln_pl, mm_gi_pl, mm_gr_pl, mm_sz_pl, mm_gl_pl, mm_kd_pr, mm_ln_pr, mm_gi_pr, mm_gl_pr, mm_sz_pr, mm_gr_pr, mm_kd_pa, mm_ln_pa, mm_gl_pa, mm_gr_pa, mm_sz_pa, mm_gi_pa, W_kd_56 H, W_s_56 H, W_gr_56_0 H, W_gr_56_1 H]
    refine c_X3_takeSign_12 (bb := (0, 0)) (b := (0, 0)) (Nat.le_of_ble_eq_true rfl) ⟨rfl, rfl⟩ (W_kd_56 H) (W_s_56 H) (CS_stop C (fun g F => ?_))
    refine t_X3_takeSign_15 _ _ _ ?_
    simp only [s_iadd, s_isub, s_imul, s_iand, s_ior, s_ixor, s_ishl, s_ishr, s_iushr, s_idiv, s_irem, s_ladd, s_lsub, s_lmul, s_ldiv, s_lrem, s_ineg, s_i2l, s_l2i, s_i2c, s_lcmp, s_ic, s_lc, s_nul, s_str, s_il, s_ll, s_al, s_dup, s_dup2, s_pop, s_ifne, s_icne, s_ifeq, s_iflt, s_ifge, s_ifgt, s_ifle, s_iceq, s_iclt, s_icge, s_icgt, s_icle, s_ifnull, s_ifnonnull, s_is, s_ls, s_as, s_ii, s_gi, s_gl, s_gr, s_pi, s_pz, s_pl, s_pr, s_iald, s_zald, s_lald, s_aald, s_alen, s_iast, s_zast, s_last, s_iret, s_zret, s_lret, s_aret, s_vret, s_sw, s_aast, mm_sw, mm_ld, mm_s1, mm_s2, mm_kl, Value.category, va_rf, List.nil_append, List.cons_append, Option.toList, true_and, and_true, and_self, true_or, or_true, eq_self, not_true_eq_false, false_implies, true_implies, not_false_eq_true, mm_10, mm_01, false_or, or_false, Nat.left_eq_add, Nat.add_eq_left, Nat.add_left_cancel_iff, Nat.reduceEqDiff, false_and, and_false, reduceIte, mm_kd_pi, mm_ln_pi, mm_gl_pi, mm_gr_pi, mm_sz_pi, mm_gi_pi, mm_kd_pl, mm_ln_pl, mm_gi_pl, mm_gr_pl, mm_sz_pl, mm_gl_pl, mm_kd_pr, mm_ln_pr, mm_gi_pr, mm_gl_pr, mm_sz_pr, mm_gr_pr, mm_kd_pa, mm_ln_pa, mm_gl_pa, mm_gr_pa, mm_sz_pa, mm_gi_pa]
    exact k0 g y F
theorem sp_pick {s a b e w : Int32} (k : K (some (.int (if s = a then w else if s = b then w + 1 else if s = e then w + 2 else -1))) h) : mm_MV q_X3_pick d (0, 0) [.int s, .int a, .int b, .int e, .int w] h K := by
  refine e_X3_pick (t_X3_pick_0 _ _ _ ?_)
  by_cases z1 : s = a
  · rw [if_pos z1] at k
    simp only [s_iadd, s_isub, s_imul, s_iand, s_ior, s_ixor, s_ishl, s_ishr, s_iushr, s_idiv, s_irem, s_ladd, s_lsub, s_lmul, s_ldiv, s_lrem, s_ineg, s_i2l, s_l2i, s_i2c, s_lcmp, s_ic, s_lc, s_nul, s_str, s_il, s_ll, s_al, s_dup, s_dup2, s_pop, s_ifne, s_icne, s_ifeq, s_iflt, s_ifge, s_ifgt, s_ifle, s_iceq, s_iclt, s_icge, s_icgt, s_icle, s_ifnull, s_ifnonnull, s_is, s_ls, s_as, s_ii, s_gi, s_gl, s_gr, s_pi, s_pz, s_pl, s_pr, s_iald, s_zald, s_lald, s_aald, s_alen, s_iast, s_zast, s_last, s_iret, s_zret, s_lret, s_aret, s_vret, s_sw, s_aast, mm_sw, mm_ld, mm_s1, mm_s2, mm_kl, Value.category, va_rf, List.nil_append, List.cons_append, Option.toList, true_and, and_true, and_self, true_or, or_true, eq_self, not_true_eq_false, false_implies, true_implies, not_false_eq_true, mm_10, mm_01, false_or, or_false, Nat.left_eq_add, Nat.add_eq_left, Nat.add_left_cancel_iff, Nat.reduceEqDiff, false_and, and_false, reduceIte, mm_kd_pi, mm_ln_pi, mm_gl_pi, mm_gr_pi, mm_sz_pi, mm_gi_pi, mm_kd_pl, mm_ln_pl, mm_gi_pl, mm_gr_pl, mm_sz_pl, mm_gl_pl, mm_kd_pr, mm_ln_pr, mm_gi_pr, mm_gl_pr, mm_sz_pr, mm_gr_pr, mm_kd_pa, mm_ln_pa, mm_gl_pa, mm_gr_pa, mm_sz_pa, mm_gi_pa, eq_true z1]
    exact k
  · by_cases z2 : s = b
    · rw [if_neg z1, if_pos z2] at k
      simp only [s_iadd, s_isub, s_imul, s_iand, s_ior, s_ixor, s_ishl, s_ishr, s_iushr, s_idiv, s_irem, s_ladd, s_lsub, s_lmul, s_ldiv, s_lrem, s_ineg, s_i2l, s_l2i, s_i2c, s_lcmp, s_ic, s_lc, s_nul, s_str, s_il, s_ll, s_al, s_dup, s_dup2, s_pop, s_ifne, s_icne, s_ifeq, s_iflt, s_ifge, s_ifgt, s_ifle, s_iceq, s_iclt, s_icge, s_icgt, s_icle, s_ifnull, s_ifnonnull, s_is, s_ls, s_as, s_ii, s_gi, s_gl, s_gr, s_pi, s_pz, s_pl, s_pr, s_iald, s_zald, s_lald, s_aald, s_alen, s_iast, s_zast, s_last, s_iret, s_zret, s_lret, s_aret, s_vret, s_sw, s_aast, mm_sw, mm_ld, mm_s1, mm_s2, mm_kl, Value.category, va_rf, List.nil_append, List.cons_append, Option.toList, true_and, and_true, and_self, true_or, or_true, eq_self, not_true_eq_false, false_implies, true_implies, not_false_eq_true, mm_10, mm_01, false_or, or_false, Nat.left_eq_add, Nat.add_eq_left, Nat.add_left_cancel_iff, Nat.reduceEqDiff, false_and, and_false, reduceIte, mm_kd_pi, mm_ln_pi, mm_gl_pi, mm_gr_pi, mm_sz_pi, mm_gi_pi, mm_kd_pl, mm_ln_pl, mm_gi_pl, mm_gr_pl, mm_sz_pl, mm_gl_pl, mm_kd_pr, mm_ln_pr, mm_gi_pr, mm_gl_pr, mm_sz_pr, mm_gr_pr, mm_kd_pa, mm_ln_pa, mm_gl_pa, mm_gr_pa, mm_sz_pa, mm_gi_pa, eq_false z1, eq_true z2]
      exact k
    · by_cases z3 : s = e
      · rw [if_neg z1, if_neg z2, if_pos z3] at k
        simp only [s_iadd, s_isub, s_imul, s_iand, s_ior, s_ixor, s_ishl, s_ishr, s_iushr, s_idiv, s_irem, s_ladd, s_lsub, s_lmul, s_ldiv, s_lrem, s_ineg, s_i2l, s_l2i, s_i2c, s_lcmp, s_ic, s_lc, s_nul, s_str, s_il, s_ll, s_al, s_dup, s_dup2, s_pop, s_ifne, s_icne, s_ifeq, s_iflt, s_ifge, s_ifgt, s_ifle, s_iceq, s_iclt, s_icge, s_icgt, s_icle, s_ifnull, s_ifnonnull, s_is, s_ls, s_as, s_ii, s_gi, s_gl, s_gr, s_pi, s_pz, s_pl, s_pr, s_iald, s_zald, s_lald, s_aald, s_alen, s_iast, s_zast, s_last, s_iret, s_zret, s_lret, s_aret, s_vret, s_sw, s_aast, mm_sw, mm_ld, mm_s1, mm_s2, mm_kl, Value.category, va_rf, List.nil_append, List.cons_append, Option.toList, true_and, and_true, and_self, true_or, or_true, eq_self, not_true_eq_false, false_implies, true_implies, not_false_eq_true, mm_10, mm_01, false_or, or_false, Nat.left_eq_add, Nat.add_eq_left, Nat.add_left_cancel_iff, Nat.reduceEqDiff, false_and, and_false, reduceIte, mm_kd_pi, mm_ln_pi, mm_gl_pi, mm_gr_pi, mm_sz_pi, mm_gi_pi, mm_kd_pl, mm_ln_pl, mm_gi_pl, mm_gr_pl, mm_sz_pl, mm_gl_pl, mm_kd_pr, mm_ln_pr, mm_gi_pr, mm_gl_pr, mm_sz_pr, mm_gr_pr, mm_kd_pa, mm_ln_pa, mm_gl_pa, mm_gr_pa, mm_sz_pa, mm_gi_pa, eq_false z1, eq_false z2, eq_true z3]
        refine t_X3_pick_31 _ _ _ ?_
        simp only [s_iadd, s_isub, s_imul, s_iand, s_ior, s_ixor, s_ishl, s_ishr, s_iushr, s_idiv, s_irem, s_ladd, s_lsub, s_lmul, s_ldiv, s_lrem, s_ineg, s_i2l, s_l2i, s_i2c, s_lcmp, s_ic, s_lc, s_nul, s_str, s_il, s_ll, s_al, s_dup, s_dup2, s_pop, s_ifne, s_icne, s_ifeq, s_iflt, s_ifge, s_ifgt, s_ifle, s_iceq, s_iclt, s_icge, s_icgt, s_icle, s_ifnull, s_ifnonnull, s_is, s_ls, s_as, s_ii, s_gi, s_gl, s_gr, s_pi, s_pz, s_pl, s_pr, s_iald, s_zald, s_lald, s_aald, s_alen, s_iast, s_zast, s_last, s_iret, s_zret, s_lret, s_aret, s_vret, s_sw, s_aast, mm_sw, mm_ld, mm_s1, mm_s2, mm_kl, Value.category, va_rf, List.nil_append, List.cons_append, Option.toList, true_and, and_true, and_self, true_or, or_true, eq_self, not_true_eq_false, false_implies, true_implies, not_false_eq_true, mm_10, mm_01, false_or, or_false, Nat.left_eq_add, Nat.add_eq_left, Nat.add_left_cancel_iff, Nat.reduceEqDiff, false_and, and_false, reduceIte, mm_kd_pi, mm_ln_pi, mm_gl_pi, mm_gr_pi, mm_sz_pi, mm_gi_pi, mm_kd_pl, mm_ln_pl, mm_gi_pl, mm_gr_pl, mm_sz_pl, mm_gl_pl, mm_kd_pr, mm_ln_pr, mm_gi_pr, mm_gl_pr, mm_sz_pr, mm_gr_pr, mm_kd_pa, mm_ln_pa, mm_gl_pa, mm_gr_pa, mm_sz_pa, mm_gi_pa]
        exact k
      · rw [if_neg z1, if_neg z2, if_neg z3] at k
        simp only [s_iadd, s_isub, s_imul, s_iand, s_ior, s_ixor, s_ishl, s_ishr, s_iushr, s_idiv, s_irem, s_ladd, s_lsub, s_lmul, s_ldiv, s_lrem, s_ineg, s_i2l, s_l2i, s_i2c, s_lcmp, s_ic, s_lc, s_nul, s_str, s_il, s_ll, s_al, s_dup, s_dup2, s_pop, s_ifne, s_icne, s_ifeq, s_iflt, s_ifge, s_ifgt, s_ifle, s_iceq, s_iclt, s_icge, s_icgt, s_icle, s_ifnull, s_ifnonnull, s_is, s_ls, s_as, s_ii, s_gi, s_gl, s_gr, s_pi, s_pz, s_pl, s_pr, s_iald, s_zald, s_lald, s_aald, s_alen, s_iast, s_zast, s_last, s_iret, s_zret, s_lret, s_aret, s_vret, s_sw, s_aast, mm_sw, mm_ld, mm_s1, mm_s2, mm_kl, Value.category, va_rf, List.nil_append, List.cons_append, Option.toList, true_and, and_true, and_self, true_or, or_true, eq_self, not_true_eq_false, false_implies, true_implies, not_false_eq_true, mm_10, mm_01, false_or, or_false, Nat.left_eq_add, Nat.add_eq_left, Nat.add_left_cancel_iff, Nat.reduceEqDiff, false_and, and_false, reduceIte, mm_kd_pi, mm_ln_pi, mm_gl_pi, mm_gr_pi, mm_sz_pi, mm_gi_pi, mm_kd_pl, mm_ln_pl, mm_gi_pl, mm_gr_pl, mm_sz_pl, mm_gl_pl, mm_kd_pr, mm_ln_pr, mm_gi_pr, mm_gl_pr, mm_sz_pr, mm_gr_pr, mm_kd_pa, mm_ln_pa, mm_gl_pa, mm_gr_pa, mm_sz_pa, mm_gi_pa, eq_false z1, eq_false z2, eq_false z3]
        refine t_X3_pick_31 _ _ _ ?_
        simp only [s_iadd, s_isub, s_imul, s_iand, s_ior, s_ixor, s_ishl, s_ishr, s_iushr, s_idiv, s_irem, s_ladd, s_lsub, s_lmul, s_ldiv, s_lrem, s_ineg, s_i2l, s_l2i, s_i2c, s_lcmp, s_ic, s_lc, s_nul, s_str, s_il, s_ll, s_al, s_dup, s_dup2, s_pop, s_ifne, s_icne, s_ifeq, s_iflt, s_ifge, s_ifgt, s_ifle, s_iceq, s_iclt, s_icge, s_icgt, s_icle, s_ifnull, s_ifnonnull, s_is, s_ls, s_as, s_ii, s_gi, s_gl, s_gr, s_pi, s_pz, s_pl, s_pr, s_iald, s_zald, s_lald, s_aald, s_alen, s_iast, s_zast, s_last, s_iret, s_zret, s_lret, s_aret, s_vret, s_sw, s_aast, mm_sw, mm_ld, mm_s1, mm_s2, mm_kl, Value.category, va_rf, List.nil_append, List.cons_append, Option.toList, true_and, and_true, and_self, true_or, or_true, eq_self, not_true_eq_false, false_implies, true_implies, not_false_eq_true, mm_10, mm_01, false_or, or_false, Nat.left_eq_add, Nat.add_eq_left, Nat.add_left_cancel_iff, Nat.reduceEqDiff, false_and, and_false, reduceIte, mm_kd_pi, mm_ln_pi, mm_gl_pi, mm_gr_pi, mm_sz_pi, mm_gi_pi, mm_kd_pl, mm_ln_pl, mm_gi_pl, mm_gr_pl, mm_sz_pl, mm_gl_pl, mm_kd_pr, mm_ln_pr, mm_gi_pr, mm_gl_pr, mm_sz_pr, mm_gr_pr, mm_kd_pa, mm_ln_pa, mm_gl_pa, mm_gr_pa, mm_sz_pa, mm_gi_pa]
        exact k
end
