/-! the model's reader: its state, and small things -/
abbrev jM : Type := Nat → Nat × Int32
def ju (J : jM) (z : Nat) (x : Nat × Int32) : jM := fun i => if i = z then x else J i
theorem ju_eq {J : jM} {z : Nat} {x : Nat × Int32} : ju J z x z = x := if_pos rfl
theorem ju_ne {J : jM} {z i : Nat} {x : Nat × Int32} (h : i ≠ z) : ju J z x i = J i := if_neg h
def bnd (op : Nat) : Nat := if 31 ≤ op then 0 else if op = 30 then 1 else if op = 29 then 2 else if op = 28 then 3 else if 25 ≤ op then 4 else if 22 ≤ op then 6 else 5
/-- what is left on the pile is laid down -/
def sE : List (Nat × Nat) → jM → Nat → jM × Nat
  | [], J, y => (J, y)
  | x :: r, J, y => if x.1 = 29 ∨ x.1 = 30 then sE r (ju J x.2 ((J x.2).1, nI y)) y else sE r (ju J y (x.1, 0)) (y + 1)
def sT (l : Nat) : List (Nat × Nat) → jM → Nat → List (Nat × Nat) × jM × Nat
  | [], J, y => ([], J, y)
  | x :: r, J, y => if l ≤ bnd x.1 then (if x.1 = 29 ∨ x.1 = 30 then sT l r (ju J x.2 ((J x.2).1, nI y)) y else sT l r (ju J y (x.1, 0)) (y + 1)) else (x :: r, J, y)
def tpb : List (Nat × Nat) → Nat
  | [] => 0
  | x :: _ => bnd x.1
def nb : List (Nat × Nat) → Nat
  | [] => 0
  | x :: r => (if 31 ≤ x.1 then 1 else 0) + nb r
def inn : List (Nat × Nat) → Nat
  | [] => 0
  | x :: r => if 31 ≤ x.1 then x.1 else inn r
theorem sT_app {l : Nat} : ∀ (E base : List (Nat × Nat)) (J : jM) (y : Nat), (∀ x, x ∈ E → l ≤ bnd x.1) → tpb base < l → sT l (E ++ base) J y = (base, sE E J y)
  | [], [], J, y, _, _ => rfl
  | [], b :: r, J, y, _, h => by
    have : ¬ l ≤ bnd b.1 := by
      have : bnd b.1 < l := h
      omega
    show sT l (b :: r) J y = (b :: r, J, y)
    rw [sT, if_neg this]
  | x :: E, base, J, y, hE, h => by
    rw [List.cons_append, sT, if_pos (hE x (by simp)), sE]
    split
    · exact sT_app E base _ _ (fun z hz => hE z (by simp [hz])) h
    · exact sT_app E base _ _ (fun z hz => hE z (by simp [hz])) h
theorem sE_app : ∀ (E F : List (Nat × Nat)) (J : jM) (y : Nat), sE (E ++ F) J y = sE F (sE E J y).1 (sE E J y).2
  | [], F, J, y => rfl
  | x :: E, F, J, y => by
    rw [List.cons_append, sE, sE]
    split
    · exact sE_app E F _ _
    · exact sE_app E F _ _
def dec (o : Bool) (x : Nat × Int32) : Nat × Nat := if x.1 = 0 then (0, x.2.toNatClampNeg) else if x.1 < 20 then (1, if o = true ∧ x.1 = 5 then 4 + x.2.toNatClampNeg else if o = true ∧ x.1 = 6 then 10 + x.2.toNatClampNeg else x.1 - 1) else if x.1 = 28 then (2, 0) else if x.1 = 30 then (3, x.2.toNatClampNeg) else if x.1 = 29 then (4, x.2.toNatClampNeg) else (x.1 - 15, 0)
def wfe (o : Bool) (x : Nat × Int32) : Prop := mde o (nI x.1) x.2 (dec o x)
theorem dec_num {o : Bool} {v : Nat} (hv : v < 2 ^ 31) : dec o (0, nI v) = (0, v) := by
  unfold dec
  rw [if_pos rfl]
  show (0, (nI v).toNatClampNeg) = (0, v)
  rw [nI_clamp hv]
theorem wf_num {o : Bool} {v : Nat} (hv : v < 2 ^ 31) : wfe o (0, nI v) := by
  unfold wfe
  rw [dec_num hv]
  exact ⟨fun _ => ⟨rfl, rfl⟩, fun z => absurd z (by show ¬ (0 : Nat) = 1; decide), fun z => absurd z (by show ¬ (2 : Nat) ≤ 0; decide), fun z => absurd z (by show ¬ ((0 : Nat) = 3 ∨ (0 : Nat) = 4); decide)⟩
theorem dec_word {o : Bool} {j : Nat} (hj : j < 10) (ho : o = false ∨ j < 4) : dec o (j + 1, 0) = (1, j) := by
  unfold dec
  rw [if_neg (show ¬ j + 1 = 0 by omega), if_pos (show j + 1 < 20 by omega), if_neg (show ¬ (o = true ∧ j + 1 = 5) from fun z => by rcases ho with q | q; rw [q] at z; exact absurd z.1 (by decide); omega), if_neg (show ¬ (o = true ∧ j + 1 = 6) from fun z => by rcases ho with q | q; rw [q] at z; exact absurd z.1 (by decide); omega)]
  rfl
theorem wf_word {o : Bool} {j : Nat} (hj : j < 10) (ho : o = false ∨ j < 4) : wfe o (j + 1, 0) := by
  unfold wfe
  rw [dec_word hj ho]
  refine ⟨fun z => absurd z (by show ¬ (1 : Nat) = 0; decide), fun _ => ?_, fun z => absurd z (by show ¬ (2 : Nat) ≤ 1; decide), fun z => absurd z (by show ¬ ((1 : Nat) = 3 ∨ (1 : Nat) = 4); decide)⟩
  cases o with
  | false => exact ⟨hj, rfl⟩
  | true => exact Or.inl ⟨by rcases ho with q | q; cases q; exact q, rfl⟩
theorem dec_k {j v : Nat} (hj : j = 4 ∨ j = 5) (hv : v ≤ 5) : dec true (j + 1, nI v) = (1, (if j = 4 then 4 else 10) + v) := by
  unfold dec
  rcases hj with rfl | rfl
  · show (1, 4 + (nI v).toNatClampNeg) = _
    rw [nI_clamp (by omega)]
    rfl
  · show (1, 10 + (nI v).toNatClampNeg) = _
    rw [nI_clamp (by omega)]
    rfl
theorem wf_k {j v : Nat} (hj : j = 4 ∨ j = 5) (hv : v ≤ 5) : wfe true (j + 1, nI v) := by
  unfold wfe
  rw [dec_k hj hv]
  refine ⟨fun z => absurd z (by show ¬ (1 : Nat) = 0; decide), fun _ => ?_, fun z => absurd z (by show ¬ (2 : Nat) ≤ 1; decide), fun z => absurd z (by show ¬ ((1 : Nat) = 3 ∨ (1 : Nat) = 4); decide)⟩
  rcases hj with rfl | rfl
  · refine Or.inr (Or.inl ⟨by show 4 ≤ 4 + v; omega, by show 4 + v < 10; omega, rfl, ?_⟩)
    show nI v = nI (4 + v - 4)
    rw [Nat.add_sub_cancel_left]
  · refine Or.inr (Or.inr ⟨by show 10 ≤ 10 + v; omega, by show 10 + v < 16; omega, rfl, ?_⟩)
    show nI v = nI (10 + v - 10)
    rw [Nat.add_sub_cancel_left]
theorem dec_op {o : Bool} {q : Nat} (hq : q < 8) : dec o (20 + q, 0) = (5 + q, 0) := by
  unfold dec
  rw [if_neg (show ¬ 20 + q = 0 by omega), if_neg (show ¬ 20 + q < 20 by omega), if_neg (show ¬ 20 + q = 28 by omega), if_neg (show ¬ 20 + q = 30 by omega), if_neg (show ¬ 20 + q = 29 by omega)]
  show (20 + q - 15, 0) = (5 + q, 0)
  rw [show 20 + q - 15 = 5 + q by omega]
theorem wf_op {o : Bool} {q : Nat} (hq : q < 8) : wfe o (20 + q, 0) := by
  unfold wfe
  rw [dec_op hq]
  refine ⟨fun z => absurd z (by show ¬ 5 + q = 0; omega), fun z => absurd z (by show ¬ 5 + q = 1; omega), fun _ _ => ?_, fun z => absurd z (by show ¬ (5 + q = 3 ∨ 5 + q = 4); omega)⟩
  show nI (20 + q) = nI (mst (5 + q))
  unfold mst
  rw [if_neg (by omega), if_neg (by omega), if_neg (by omega), show 15 + (5 + q) = 20 + q by omega]
theorem wf_not {o : Bool} : wfe o (28, 0) := ⟨fun z => absurd z (by show ¬ (2 : Nat) = 0; decide), fun z => absurd z (by show ¬ (2 : Nat) = 1; decide), fun _ _ => rfl, fun z => absurd z (by show ¬ ((2 : Nat) = 3 ∨ (2 : Nat) = 4); decide)⟩
theorem dec_ao {o : Bool} {l r : Nat} (hl : l = 0 ∨ l = 1) (hr : r < 2 ^ 31) : dec o (30 - l, nI r) = (kD l 0, r) := by
  unfold dec
  rcases hl with rfl | rfl
  · show (3, (nI r).toNatClampNeg) = (3, r)
    rw [nI_clamp hr]
  · show (4, (nI r).toNatClampNeg) = (4, r)
    rw [nI_clamp hr]
theorem wf_ao {o : Bool} {l r : Nat} (hl : l = 0 ∨ l = 1) (hr : r < 2 ^ 31) : wfe o (30 - l, nI r) := by
  unfold wfe
  rw [dec_ao hl hr]
  rcases hl with rfl | rfl
  · exact ⟨fun z => absurd z (by show ¬ (3 : Nat) = 0; decide), fun z => absurd z (by show ¬ (3 : Nat) = 1; decide), fun _ _ => rfl, fun _ => rfl⟩
  · exact ⟨fun z => absurd z (by show ¬ (4 : Nat) = 0; decide), fun z => absurd z (by show ¬ (4 : Nat) = 1; decide), fun _ _ => rfl, fun _ => rfl⟩
def WJ (o : Bool) (y : Nat) (J : jM) : Prop := ∀ i, i < y → wfe o (J i)
theorem WJ_ju {o : Bool} {y z : Nat} {J : jM} {x : Nat × Int32} (H : WJ o y J) (hx : wfe o x) : WJ o y (ju J z x) := by
  intro i hi
  by_cases e : i = z
  · subst e; rw [ju_eq]; exact hx
  · rw [ju_ne e]; exact H i hi
theorem WJ_s {o : Bool} {y : Nat} {J : jM} {x : Nat × Int32} (H : WJ o y J) (hx : wfe o x) : WJ o (y + 1) (ju J y x) := by
  intro i hi
  by_cases e : i = y
  · subst e; rw [ju_eq]; exact hx
  · rw [ju_ne e]; exact H i (by omega)
/-! the state -/
def PLe (f a : Nat → Int32) : List (Nat × Nat) → Prop
  | [] => True
  | x :: r => (f r.length = nI x.1 ∧ a r.length = nI x.2) ∧ PLe f a r
theorem PLe_cg {f a f' a' : Nat → Int32} : ∀ {l : List (Nat × Nat)}, (∀ k, k < l.length → f' k = f k ∧ a' k = a k) → PLe f a l → PLe f' a' l
  | [], _, _ => trivial
  | x :: r, e, h => ⟨⟨(e r.length (by simp)).1.trans h.1.1, (e r.length (by simp)).2.trans h.1.2⟩, PLe_cg (fun k hk => e k (by simp; omega)) h.2⟩
def KW (h : mmH) : Prop := (∀ k, k < 10 → mm_gl h 106 k = [3417476, 408572082, 21562676, 12009203, 2262611, 7945966, 8902245, 643389604, 4153, 441828].getD k 0) ∧ (∀ k, k < 6 → mm_gl h 107 k = [4153, 146885, 404362868, 508078, 12009203, 7945966].getD k 0) ∧ (∀ k, k < 4 → mm_gl h 108 k = [24627848, 20207059, 6328499, 67155].getD k 0) ∧ (∀ k, k < 4 → mm_gl h 118 k = [594980, 48880818, 409189, 525939].getD k 0) ∧ (∀ k, k < 3 → mm_gl h 119 k = [655, 89, 486].getD k 0)
def xMd (c j : Nat) : Prop := (c = 91 ∧ (j = 14 ∨ j = 15 ∨ j = 16 ∨ j = 18 ∨ j = 19 ∨ j = 23 ∨ j = 26 ∨ j = 29 ∨ j = 30)) ∨ c = 102 ∨ c = 103 ∨ c = 104 ∨ c = 105
def yMd (c : Nat) : Prop := c = 91
def MS (o : Bool) (n : Nat) (t : Nat → Nat) (h : mmH) (p c : Nat) (pl : List (Nat × Nat)) (y : Nat) (J : jM) : Prop := (WS h ∧ TPM h n t ∧ TKm h n t p ∧ KW h) ∧ (p ≤ n ∧ (mm_gi h 91 19 = 0 → mm_gi h 91 18 = -1) ∧ c ≤ 50 ∧ y + pl.length ≤ 400 ∧ nb pl ≤ 8) ∧ (mm_gi h 91 20 = bI o ∧ mm_gi h 91 23 = nI y ∧ mm_gi h 91 26 = nI c ∧ mm_gi h 91 29 = nI pl.length ∧ mm_gi h 91 30 = nI (nb pl)) ∧ (PLe (mm_gi h 104) (mm_gi h 105) pl ∧ ∀ x, x ∈ pl → 20 ≤ x.1 ∧ x.1 ≤ 32 ∧ x.2 < 400) ∧ ∀ i, i < y → mm_gi h 102 i = nI (J i).1 ∧ mm_gi h 103 i = (J i).2
section
variable {d : Nat} {h g : mmH} {K : Option Value → mmH → Prop} {o : Bool} {n : Nat} {t : Nat → Nat} {p c y p' c' y' : Nat} {pl pl' : List (Nat × Nat)} {J J' : jM}
theorem fl_cg (e19 : mm_gi g 91 19 = mm_gi h 91 19) (e18 : mm_gi g 91 18 = mm_gi h 91 18) (b : mm_gi h 91 19 = 0 → mm_gi h 91 18 = -1) : mm_gi g 91 19 = 0 → mm_gi g 91 18 = -1 := fun q => e18.trans (b (e19.symm.trans q))
theorem KW_fx (F : fx xMd yMd h g) (H : KW h) : KW g := by
  unfold KW at H ⊢
  rw [F.2.2.1 106 (by unfold yMd; decide), F.2.2.1 107 (by unfold yMd; decide), F.2.2.1 108 (by unfold yMd; decide), F.2.2.1 118 (by unfold yMd; decide), F.2.2.1 119 (by unfold yMd; decide)]
  exact H
theorem md_T : ∀ j, ¬ xMd 91 13 ∧ ¬ xMd 100 j := fun j => ⟨by unfold xMd; omega, by unfold xMd; omega⟩
theorem MS_of (M : MS o n t h p c pl y J) (F : fx xMd yMd h g) (a : TKm g n t p') (b : p' ≤ n ∧ (mm_gi g 91 19 = 0 → mm_gi g 91 18 = -1) ∧ c' ≤ 50 ∧ y' + pl'.length ≤ 400 ∧ nb pl' ≤ 8) (e : mm_gi g 91 23 = nI y' ∧ mm_gi g 91 26 = nI c' ∧ mm_gi g 91 29 = nI pl'.length ∧ mm_gi g 91 30 = nI (nb pl')) (q : PLe (mm_gi g 104) (mm_gi g 105) pl' ∧ ∀ x, x ∈ pl' → 20 ≤ x.1 ∧ x.1 ≤ 32 ∧ x.2 < 400) (r : ∀ i, i < y' → mm_gi g 102 i = nI (J' i).1 ∧ mm_gi g 103 i = (J' i).2) : MS o n t g p' c' pl' y' J' :=
  ⟨⟨fx_WS F M.1.1, TPM_fx md_T F M.1.2.1, a, KW_fx F M.1.2.2.2⟩, b, ⟨(F.2.1 91 20 (by unfold xMd; omega)).trans M.2.2.1.1, e⟩, q, r⟩
theorem TKm_cg (e : ∀ j, j = 14 ∨ j = 15 ∨ j = 16 → mm_gi g 91 j = mm_gi h 91 j) (l : mm_gl g 91 17 = mm_gl h 91 17) (H : TKm h n t p) : TKm g n t p := by
  unfold TKm at H ⊢
  rw [e 14 (by omega), e 15 (by omega), e 16 (by omega), l]
  exact H
theorem ms_next (M : MS o n t h p c pl y J) (k : ∀ g, fx xMd yMd h g → mm_gi g 91 19 = mm_gi h 91 19 → mm_gi g 91 18 = mm_gi h 91 18 → MS o n t g (tkb n t p) c pl y J → K none g) : mm_MV q_X10_next (d + 1) (0, 0) [.ref 91] h K := by
  have b := M.2.1
  have bl := tkb_le (t := t) b.1
  have sl := tks_le (t := t) b.1
  refine sp_next M.1.1 M.1.2.1 bl.2.1 M.1.2.2.1.1.2.1 (fun g F T => ?_)
  have F' : fx xMd yMd h g := fx_mo (fun c j z => by unfold xtm at z; unfold xMd; omega) (fun c z => z) F
  have e : ∀ c j, ¬ (c = 91 ∧ (j = 14 ∨ j = 15 ∨ j = 16)) → mm_gi g c j = mm_gi h c j := fun c j z => F.2.1 c j z
  refine k g F' (e 91 19 (by omega)) (e 91 18 (by omega)) (MS_of M F' T ⟨bl.2.1, fl_cg (e 91 19 (by omega)) (e 91 18 (by omega)) b.2.1, b.2.2⟩ ?_ ⟨PLe_cg (fun k _ => ⟨e 104 k (by omega), e 105 k (by omega)⟩) M.2.2.2.1.1, M.2.2.2.1.2⟩ (fun i hi => ?_))
  · rw [e 91 23 (by omega), e 91 26 (by omega), e 91 29 (by omega), e 91 30 (by omega)]
    exact M.2.2.1.2
  · rw [e 102 i (by omega), e 103 i (by omega)]
    exact M.2.2.2.2 i hi
theorem wvN_lt {s : Nat} : ∀ k, (∀ j, j < k → 97 ≤ t (s + j) ∧ t (s + j) ≤ 122) → wvN t s k < 32 ^ k
  | 0, _ => by show 0 < 32 ^ 0; decide
  | k + 1, h => by
    have a := wvN_lt k (fun j hj => h j (by omega))
    have b := h k (by omega)
    rw [wvN, Nat.pow_succ]
    omega
theorem lN_inj {a b : Nat} (ha : a < 2 ^ 63) (hb : b < 2 ^ 63) (e : lN a = lN b) : a = b := by
  have := congrArg Int64.toInt e
  rw [show (lN a).toInt = (a : Int) from Int64.toInt_ofNat_of_lt ha, show (lN b).toInt = (b : Int) from Int64.toInt_ofNat_of_lt hb] at this
  omega
theorem wN_ge {w : Nat} (M : MS o n t h p c pl y J) (e : wN n t p = w) (hw : 27 ≤ w) : p + 2 ≤ tkb n t p := by
  have sl := tks_le (t := t) M.2.1.1
  have bl := tkb_le (t := t) M.2.1.1
  unfold wN at e
  split at e
  · next z =>
    have lt := tk_let z.1
    by_cases q : tkb n t p - tks n t p < 2
    · exfalso
      have : tkb n t p - tks n t p = 0 ∨ tkb n t p - tks n t p = 1 := by omega
      rcases this with u | u
      · rw [u] at e
        have : wvN t (tks n t p) 0 = 0 := rfl
        omega
      · have := lt 0 (by omega)
        rw [u] at e
        have e2 : wvN t (tks n t p) 1 = 0 * 32 + t (tks n t p + 0) - 96 := rfl
        omega
    · omega
  · omega
theorem ms_word {w : Nat} (M : MS o n t h p c pl y J) (hw : 0 < w ∧ w < 2 ^ 31) (k1 : wN n t p = w → K (some (.int 1)) h) (k0 : wN n t p ≠ w → K (some (.int 0)) h) : mm_MV q_X10_isWord d (0, 0) [.ref 91, .long (lN w)] h K := by
  have H := M.1.1
  obtain ⟨⟨T1, T2, T3⟩, T4, T5, T6, T7⟩ := M.1.2.2.1
  have kl := tkk_le (n := n) (t := t) (p := p)
  have no : wN n t p ≠ w → mm_V q_X10_isWord d (0, 0) K 21 [some (.ref 91), some (.long (lN w)), none] [] h := by
    intro z
    refine t_X10_isWord_21 _ _ _ ?_
    simp only [s_iadd, s_isub, s_imul, s_iand, s_ior, s_ixor, s_ishl, s_ishr, s_iushr, s_idiv, s_irem, s_ladd, s_lsub, s_lmul, s_ldiv, s_lrem, s_ineg, s_i2l, s_l2i, s_i2c, s_lcmp, s_ic, s_lc, s_nul, s_str, s_il, s_ll, s_al, s_dup, s_dup2, s_pop, s_ifne, s_icne, s_ifeq, s_iflt, s_ifge, s_ifgt, s_ifle, s_iceq, s_iclt, s_icge, s_icgt, s_icle, s_ifnull, s_ifnonnull, s_is, s_ls, s_as, s_ii, s_gi, s_gl, s_gr, s_pi, s_pz, s_pl, s_pr, s_iald, s_zald, s_lald, s_aald, s_alen, s_iast, s_zast, s_last, s_iret, s_zret, s_lret, s_aret, s_vret, s_sw, s_aast, mm_sw, mm_ld, mm_s1, mm_s2, mm_kl, Value.category, va_rf, List.nil_append, List.cons_append, Option.toList, true_and, and_true, and_self, true_or, or_true, eq_self, not_true_eq_false, false_implies, true_implies, not_false_eq_true, mm_10, mm_01, false_or, or_false, Nat.left_eq_add, Nat.add_eq_left, Nat.add_left_cancel_iff, Nat.reduceEqDiff, false_and, and_false, reduceIte, mm_kd_pi, mm_ln_pi, mm_gl_pi, mm_gr_pi, mm_sz_pi, mm_gi_pi, mm_kd_pl, mm_ln_pl, mm_gi_pl, mm_gr_pl, mm_sz_pl, mm_gl_pl, mm_kd_pr, mm_ln_pr, mm_gi_pr, mm_gl_pr, mm_sz_pr, mm_gr_pr, mm_kd_pa, mm_ln_pa, mm_gl_pa, mm_gr_pa, mm_sz_pa, mm_gi_pa]
    refine t_X10_isWord_22 _ _ _ ?_
    simp only [s_iadd, s_isub, s_imul, s_iand, s_ior, s_ixor, s_ishl, s_ishr, s_iushr, s_idiv, s_irem, s_ladd, s_lsub, s_lmul, s_ldiv, s_lrem, s_ineg, s_i2l, s_l2i, s_i2c, s_lcmp, s_ic, s_lc, s_nul, s_str, s_il, s_ll, s_al, s_dup, s_dup2, s_pop, s_ifne, s_icne, s_ifeq, s_iflt, s_ifge, s_ifgt, s_ifle, s_iceq, s_iclt, s_icge, s_icgt, s_icle, s_ifnull, s_ifnonnull, s_is, s_ls, s_as, s_ii, s_gi, s_gl, s_gr, s_pi, s_pz, s_pl, s_pr, s_iald, s_zald, s_lald, s_aald, s_alen, s_iast, s_zast, s_last, s_iret, s_zret, s_lret, s_aret, s_vret, s_sw, s_aast, mm_sw, mm_ld, mm_s1, mm_s2, mm_kl, Value.category, va_rf, List.nil_append, List.cons_append, Option.toList, true_and, and_true, and_self, true_or, or_true, eq_self, not_true_eq_false, false_implies, true_implies, not_false_eq_true, mm_10, mm_01, false_or, or_false, Nat.left_eq_add, Nat.add_eq_left, Nat.add_left_cancel_iff, Nat.reduceEqDiff, false_and, and_false, reduceIte, mm_kd_pi, mm_ln_pi, mm_gl_pi, mm_gr_pi, mm_sz_pi, mm_gi_pi, mm_kd_pl, mm_ln_pl, mm_gi_pl, mm_gr_pl, mm_sz_pl, mm_gl_pl, mm_kd_pr, mm_ln_pr, mm_gi_pr, mm_gl_pr, mm_sz_pr, mm_gr_pr, mm_kd_pa, mm_ln_pa, mm_gl_pa, mm_gr_pa, mm_sz_pa, mm_gi_pa]
    exact k0 z
  refine e_X10_isWord (t_X10_isWord_0 _ _ _ ?_)
  by_cases z : tkk n t p = 1
  · have e7 := T5 z
    by_cases q : tkb n t p - tks n t p ≤ 10
    · have lt := wvN_lt _ (tk_let z)
      have p10 : 32 ^ (tkb n t p - tks n t p) ≤ 32 ^ 10 := Nat.pow_le_pow_right (by decide) q
      have ew : wN n t p = wvN t (tks n t p) (tkb n t p - tks n t p) := by rw [wN, if_pos ⟨z, q⟩]
      rw [wW, if_pos q, ← ew] at e7
      rw [← ew] at lt
      have b50 : (32 : Nat) ^ 10 = 1125899906842624 := by decide
      by_cases u : wN n t p = w
      · simp only [s_iadd, s_isub, s_imul, s_iand, s_ior, s_ixor, s_ishl, s_ishr, s_iushr, s_idiv, s_irem, s_ladd, s_lsub, s_lmul, s_ldiv, s_lrem, s_ineg, s_i2l, s_l2i, s_i2c, s_lcmp, s_ic, s_lc, s_nul, s_str, s_il, s_ll, s_al, s_dup, s_dup2, s_pop, s_ifne, s_icne, s_ifeq, s_iflt, s_ifge, s_ifgt, s_ifle, s_iceq, s_iclt, s_icge, s_icgt, s_icle, s_ifnull, s_ifnonnull, s_is, s_ls, s_as, s_ii, s_gi, s_gl, s_gr, s_pi, s_pz, s_pl, s_pr, s_iald, s_zald, s_lald, s_aald, s_alen, s_iast, s_zast, s_last, s_iret, s_zret, s_lret, s_aret, s_vret, s_sw, s_aast, mm_sw, mm_ld, mm_s1, mm_s2, mm_kl, Value.category, va_rf, List.nil_append, List.cons_append, Option.toList, true_and, and_true, and_self, true_or, or_true, eq_self, not_true_eq_false, false_implies, true_implies, not_false_eq_true, mm_10, mm_01, false_or, or_false, Nat.left_eq_add, Nat.add_eq_left, Nat.add_left_cancel_iff, Nat.reduceEqDiff, false_and, and_false, reduceIte, mm_kd_pi, mm_ln_pi, mm_gl_pi, mm_gr_pi, mm_sz_pi, mm_gi_pi, mm_kd_pl, mm_ln_pl, mm_gi_pl, mm_gr_pl, mm_sz_pl, mm_gl_pl, mm_kd_pr, mm_ln_pr, mm_gi_pr, mm_gl_pr, mm_sz_pr, mm_gr_pr, mm_kd_pa, mm_ln_pa, mm_gl_pa, mm_gr_pa, mm_sz_pa, mm_gi_pa, W_kd_91 H, W_s_91 H, W_gr_91_2 H, W_gr_91_3 H, W_gr_91_4 H, W_gr_91_5 H, W_gr_91_6 H, W_gr_91_7 H, W_gr_91_9 H, W_gr_91_10 H, W_gr_91_12 H, W_gr_91_22 H, W_gr_91_24 H, W_gr_91_25 H, W_gr_91_27 H, W_gr_91_28 H, W_gr_91_31 H, W_gr_91_32 H, W_gr_91_33 H, W_gr_91_35 H, W_gr_91_36 H, W_gr_91_37 H, W_gr_91_41 H, W_gr_91_42 H, W_gr_91_43 H, W_gr_91_44 H, W_gr_91_45 H, W_gr_91_46 H, W_gr_91_47 H, W_gr_91_48 H, W_gr_91_49 H, W_gr_91_55 H, T3, z, show (nI 1 = 1) = True by decide, e7, u, lgc_eq]
        refine t_X10_isWord_22 _ _ _ ?_
        simp only [s_iadd, s_isub, s_imul, s_iand, s_ior, s_ixor, s_ishl, s_ishr, s_iushr, s_idiv, s_irem, s_ladd, s_lsub, s_lmul, s_ldiv, s_lrem, s_ineg, s_i2l, s_l2i, s_i2c, s_lcmp, s_ic, s_lc, s_nul, s_str, s_il, s_ll, s_al, s_dup, s_dup2, s_pop, s_ifne, s_icne, s_ifeq, s_iflt, s_ifge, s_ifgt, s_ifle, s_iceq, s_iclt, s_icge, s_icgt, s_icle, s_ifnull, s_ifnonnull, s_is, s_ls, s_as, s_ii, s_gi, s_gl, s_gr, s_pi, s_pz, s_pl, s_pr, s_iald, s_zald, s_lald, s_aald, s_alen, s_iast, s_zast, s_last, s_iret, s_zret, s_lret, s_aret, s_vret, s_sw, s_aast, mm_sw, mm_ld, mm_s1, mm_s2, mm_kl, Value.category, va_rf, List.nil_append, List.cons_append, Option.toList, true_and, and_true, and_self, true_or, or_true, eq_self, not_true_eq_false, false_implies, true_implies, not_false_eq_true, mm_10, mm_01, false_or, or_false, Nat.left_eq_add, Nat.add_eq_left, Nat.add_left_cancel_iff, Nat.reduceEqDiff, false_and, and_false, reduceIte, mm_kd_pi, mm_ln_pi, mm_gl_pi, mm_gr_pi, mm_sz_pi, mm_gi_pi, mm_kd_pl, mm_ln_pl, mm_gi_pl, mm_gr_pl, mm_sz_pl, mm_gl_pl, mm_kd_pr, mm_ln_pr, mm_gi_pr, mm_gl_pr, mm_sz_pr, mm_gr_pr, mm_kd_pa, mm_ln_pa, mm_gl_pa, mm_gr_pa, mm_sz_pa, mm_gi_pa]
        exact k1 u
      · simp only [s_iadd, s_isub, s_imul, s_iand, s_ior, s_ixor, s_ishl, s_ishr, s_iushr, s_idiv, s_irem, s_ladd, s_lsub, s_lmul, s_ldiv, s_lrem, s_ineg, s_i2l, s_l2i, s_i2c, s_lcmp, s_ic, s_lc, s_nul, s_str, s_il, s_ll, s_al, s_dup, s_dup2, s_pop, s_ifne, s_icne, s_ifeq, s_iflt, s_ifge, s_ifgt, s_ifle, s_iceq, s_iclt, s_icge, s_icgt, s_icle, s_ifnull, s_ifnonnull, s_is, s_ls, s_as, s_ii, s_gi, s_gl, s_gr, s_pi, s_pz, s_pl, s_pr, s_iald, s_zald, s_lald, s_aald, s_alen, s_iast, s_zast, s_last, s_iret, s_zret, s_lret, s_aret, s_vret, s_sw, s_aast, mm_sw, mm_ld, mm_s1, mm_s2, mm_kl, Value.category, va_rf, List.nil_append, List.cons_append, Option.toList, true_and, and_true, and_self, true_or, or_true, eq_self, not_true_eq_false, false_implies, true_implies, not_false_eq_true, mm_10, mm_01, false_or, or_false, Nat.left_eq_add, Nat.add_eq_left, Nat.add_left_cancel_iff, Nat.reduceEqDiff, false_and, and_false, reduceIte, mm_kd_pi, mm_ln_pi, mm_gl_pi, mm_gr_pi, mm_sz_pi, mm_gi_pi, mm_kd_pl, mm_ln_pl, mm_gi_pl, mm_gr_pl, mm_sz_pl, mm_gl_pl, mm_kd_pr, mm_ln_pr, mm_gi_pr, mm_gl_pr, mm_sz_pr, mm_gr_pr, mm_kd_pa, mm_ln_pa, mm_gl_pa, mm_gr_pa, mm_sz_pa, mm_gi_pa, W_kd_91 H, W_s_91 H, W_gr_91_2 H, W_gr_91_3 H, W_gr_91_4 H, W_gr_91_5 H, W_gr_91_6 H, W_gr_91_7 H, W_gr_91_9 H, W_gr_91_10 H, W_gr_91_12 H, W_gr_91_22 H, W_gr_91_24 H, W_gr_91_25 H, W_gr_91_27 H, W_gr_91_28 H, W_gr_91_31 H, W_gr_91_32 H, W_gr_91_33 H, W_gr_91_35 H, W_gr_91_36 H, W_gr_91_37 H, W_gr_91_41 H, W_gr_91_42 H, W_gr_91_43 H, W_gr_91_44 H, W_gr_91_45 H, W_gr_91_46 H, W_gr_91_47 H, W_gr_91_48 H, W_gr_91_49 H, W_gr_91_55 H, T3, z, show (nI 1 = 1) = True by decide, e7, lgc_eq, show (lN (wN n t p) = lN w) = False from eq_false (fun v => u (lN_inj (by omega) (by omega) v))]
        exact no u
    · rw [wW, if_neg q] at e7
      simp only [s_iadd, s_isub, s_imul, s_iand, s_ior, s_ixor, s_ishl, s_ishr, s_iushr, s_idiv, s_irem, s_ladd, s_lsub, s_lmul, s_ldiv, s_lrem, s_ineg, s_i2l, s_l2i, s_i2c, s_lcmp, s_ic, s_lc, s_nul, s_str, s_il, s_ll, s_al, s_dup, s_dup2, s_pop, s_ifne, s_icne, s_ifeq, s_iflt, s_ifge, s_ifgt, s_ifle, s_iceq, s_iclt, s_icge, s_icgt, s_icle, s_ifnull, s_ifnonnull, s_is, s_ls, s_as, s_ii, s_gi, s_gl, s_gr, s_pi, s_pz, s_pl, s_pr, s_iald, s_zald, s_lald, s_aald, s_alen, s_iast, s_zast, s_last, s_iret, s_zret, s_lret, s_aret, s_vret, s_sw, s_aast, mm_sw, mm_ld, mm_s1, mm_s2, mm_kl, Value.category, va_rf, List.nil_append, List.cons_append, Option.toList, true_and, and_true, and_self, true_or, or_true, eq_self, not_true_eq_false, false_implies, true_implies, not_false_eq_true, mm_10, mm_01, false_or, or_false, Nat.left_eq_add, Nat.add_eq_left, Nat.add_left_cancel_iff, Nat.reduceEqDiff, false_and, and_false, reduceIte, mm_kd_pi, mm_ln_pi, mm_gl_pi, mm_gr_pi, mm_sz_pi, mm_gi_pi, mm_kd_pl, mm_ln_pl, mm_gi_pl, mm_gr_pl, mm_sz_pl, mm_gl_pl, mm_kd_pr, mm_ln_pr, mm_gi_pr, mm_gl_pr, mm_sz_pr, mm_gr_pr, mm_kd_pa, mm_ln_pa, mm_gl_pa, mm_gr_pa, mm_sz_pa, mm_gi_pa, W_kd_91 H, W_s_91 H, W_gr_91_2 H, W_gr_91_3 H, W_gr_91_4 H, W_gr_91_5 H, W_gr_91_6 H, W_gr_91_7 H, W_gr_91_9 H, W_gr_91_10 H, W_gr_91_12 H, W_gr_91_22 H, W_gr_91_24 H, W_gr_91_25 H, W_gr_91_27 H, W_gr_91_28 H, W_gr_91_31 H, W_gr_91_32 H, W_gr_91_33 H, W_gr_91_35 H, W_gr_91_36 H, W_gr_91_37 H, W_gr_91_41 H, W_gr_91_42 H, W_gr_91_43 H, W_gr_91_44 H, W_gr_91_45 H, W_gr_91_46 H, W_gr_91_47 H, W_gr_91_48 H, W_gr_91_49 H, W_gr_91_55 H, T3, z, show (nI 1 = 1) = True by decide, e7, lgc_eq, show ((-1 : Int64) = lN w) = False from eq_false (fun v => by
        have := congrArg Int64.toInt v
        rw [lN_toInt hw.2, show (-1 : Int64).toInt = -1 by decide] at this
        omega)]
      exact no (by rw [wN, if_neg (fun v => q v.2)]; omega)
  · simp only [s_iadd, s_isub, s_imul, s_iand, s_ior, s_ixor, s_ishl, s_ishr, s_iushr, s_idiv, s_irem, s_ladd, s_lsub, s_lmul, s_ldiv, s_lrem, s_ineg, s_i2l, s_l2i, s_i2c, s_lcmp, s_ic, s_lc, s_nul, s_str, s_il, s_ll, s_al, s_dup, s_dup2, s_pop, s_ifne, s_icne, s_ifeq, s_iflt, s_ifge, s_ifgt, s_ifle, s_iceq, s_iclt, s_icge, s_icgt, s_icle, s_ifnull, s_ifnonnull, s_is, s_ls, s_as, s_ii, s_gi, s_gl, s_gr, s_pi, s_pz, s_pl, s_pr, s_iald, s_zald, s_lald, s_aald, s_alen, s_iast, s_zast, s_last, s_iret, s_zret, s_lret, s_aret, s_vret, s_sw, s_aast, mm_sw, mm_ld, mm_s1, mm_s2, mm_kl, Value.category, va_rf, List.nil_append, List.cons_append, Option.toList, true_and, and_true, and_self, true_or, or_true, eq_self, not_true_eq_false, false_implies, true_implies, not_false_eq_true, mm_10, mm_01, false_or, or_false, Nat.left_eq_add, Nat.add_eq_left, Nat.add_left_cancel_iff, Nat.reduceEqDiff, false_and, and_false, reduceIte, mm_kd_pi, mm_ln_pi, mm_gl_pi, mm_gr_pi, mm_sz_pi, mm_gi_pi, mm_kd_pl, mm_ln_pl, mm_gi_pl, mm_gr_pl, mm_sz_pl, mm_gl_pl, mm_kd_pr, mm_ln_pr, mm_gi_pr, mm_gl_pr, mm_sz_pr, mm_gr_pr, mm_kd_pa, mm_ln_pa, mm_gl_pa, mm_gr_pa, mm_sz_pa, mm_gi_pa, W_kd_91 H, W_s_91 H, W_gr_91_2 H, W_gr_91_3 H, W_gr_91_4 H, W_gr_91_5 H, W_gr_91_6 H, W_gr_91_7 H, W_gr_91_9 H, W_gr_91_10 H, W_gr_91_12 H, W_gr_91_22 H, W_gr_91_24 H, W_gr_91_25 H, W_gr_91_27 H, W_gr_91_28 H, W_gr_91_31 H, W_gr_91_32 H, W_gr_91_33 H, W_gr_91_35 H, W_gr_91_36 H, W_gr_91_37 H, W_gr_91_41 H, W_gr_91_42 H, W_gr_91_43 H, W_gr_91_44 H, W_gr_91_45 H, W_gr_91_46 H, W_gr_91_47 H, W_gr_91_48 H, W_gr_91_49 H, W_gr_91_55 H, T3, show (nI (tkk n t p) = 1) = False from eq_false (fun v => z ((nI_eq (b := 1) (by omega) (by decide)).mp v))]
    exact no (by rw [wN, if_neg (fun v => z v.1)]; omega)
theorem ms_sign {x : Nat} (M : MS o n t h p c pl y J) (hx : x < 256) (k1 : isS n t x p → K (some (.int 1)) h) (k0 : ¬ isS n t x p → K (some (.int 0)) h) : mm_MV q_X10_isSign d (0, 0) [.ref 91, .int (nI x)] h K := by
  have H := M.1.1
  obtain ⟨⟨T1, T2, T3⟩, T4, T5, T6, T7⟩ := M.1.2.2.1
  have kl := tkk_le (n := n) (t := t) (p := p)
  have no : ¬ isS n t x p → mm_V q_X10_isSign d (0, 0) K 22 [some (.ref 91), some (.int (nI x))] [] h := by
    intro z
    refine t_X10_isSign_22 _ _ _ ?_
    simp only [s_iadd, s_isub, s_imul, s_iand, s_ior, s_ixor, s_ishl, s_ishr, s_iushr, s_idiv, s_irem, s_ladd, s_lsub, s_lmul, s_ldiv, s_lrem, s_ineg, s_i2l, s_l2i, s_i2c, s_lcmp, s_ic, s_lc, s_nul, s_str, s_il, s_ll, s_al, s_dup, s_dup2, s_pop, s_ifne, s_icne, s_ifeq, s_iflt, s_ifge, s_ifgt, s_ifle, s_iceq, s_iclt, s_icge, s_icgt, s_icle, s_ifnull, s_ifnonnull, s_is, s_ls, s_as, s_ii, s_gi, s_gl, s_gr, s_pi, s_pz, s_pl, s_pr, s_iald, s_zald, s_lald, s_aald, s_alen, s_iast, s_zast, s_last, s_iret, s_zret, s_lret, s_aret, s_vret, s_sw, s_aast, mm_sw, mm_ld, mm_s1, mm_s2, mm_kl, Value.category, va_rf, List.nil_append, List.cons_append, Option.toList, true_and, and_true, and_self, true_or, or_true, eq_self, not_true_eq_false, false_implies, true_implies, not_false_eq_true, mm_10, mm_01, false_or, or_false, Nat.left_eq_add, Nat.add_eq_left, Nat.add_left_cancel_iff, Nat.reduceEqDiff, false_and, and_false, reduceIte, mm_kd_pi, mm_ln_pi, mm_gl_pi, mm_gr_pi, mm_sz_pi, mm_gi_pi, mm_kd_pl, mm_ln_pl, mm_gi_pl, mm_gr_pl, mm_sz_pl, mm_gl_pl, mm_kd_pr, mm_ln_pr, mm_gi_pr, mm_gl_pr, mm_sz_pr, mm_gr_pr, mm_kd_pa, mm_ln_pa, mm_gl_pa, mm_gr_pa, mm_sz_pa, mm_gi_pa]
    refine t_X10_isSign_23 _ _ _ ?_
    simp only [s_iadd, s_isub, s_imul, s_iand, s_ior, s_ixor, s_ishl, s_ishr, s_iushr, s_idiv, s_irem, s_ladd, s_lsub, s_lmul, s_ldiv, s_lrem, s_ineg, s_i2l, s_l2i, s_i2c, s_lcmp, s_ic, s_lc, s_nul, s_str, s_il, s_ll, s_al, s_dup, s_dup2, s_pop, s_ifne, s_icne, s_ifeq, s_iflt, s_ifge, s_ifgt, s_ifle, s_iceq, s_iclt, s_icge, s_icgt, s_icle, s_ifnull, s_ifnonnull, s_is, s_ls, s_as, s_ii, s_gi, s_gl, s_gr, s_pi, s_pz, s_pl, s_pr, s_iald, s_zald, s_lald, s_aald, s_alen, s_iast, s_zast, s_last, s_iret, s_zret, s_lret, s_aret, s_vret, s_sw, s_aast, mm_sw, mm_ld, mm_s1, mm_s2, mm_kl, Value.category, va_rf, List.nil_append, List.cons_append, Option.toList, true_and, and_true, and_self, true_or, or_true, eq_self, not_true_eq_false, false_implies, true_implies, not_false_eq_true, mm_10, mm_01, false_or, or_false, Nat.left_eq_add, Nat.add_eq_left, Nat.add_left_cancel_iff, Nat.reduceEqDiff, false_and, and_false, reduceIte, mm_kd_pi, mm_ln_pi, mm_gl_pi, mm_gr_pi, mm_sz_pi, mm_gi_pi, mm_kd_pl, mm_ln_pl, mm_gi_pl, mm_gr_pl, mm_sz_pl, mm_gl_pl, mm_kd_pr, mm_ln_pr, mm_gi_pr, mm_gl_pr, mm_sz_pr, mm_gr_pr, mm_kd_pa, mm_ln_pa, mm_gl_pa, mm_gr_pa, mm_sz_pa, mm_gi_pa]
    exact k0 z
  refine e_X10_isSign (t_X10_isSign_0 _ _ _ ?_)
  by_cases z : tkk n t p = 3
  · have z0 : tks n t p < n := by
      have := tkk_0 (n := n) (t := t) (p := p)
      omega
    have v2 : tkv n t p < 256 := by
      unfold tkv tkr
      rw [if_neg (by omega), if_pos z]
      exact (M.1.2.1.2.2 _ z0).1
    by_cases u : tkv n t p = x
    · simp only [s_iadd, s_isub, s_imul, s_iand, s_ior, s_ixor, s_ishl, s_ishr, s_iushr, s_idiv, s_irem, s_ladd, s_lsub, s_lmul, s_ldiv, s_lrem, s_ineg, s_i2l, s_l2i, s_i2c, s_lcmp, s_ic, s_lc, s_nul, s_str, s_il, s_ll, s_al, s_dup, s_dup2, s_pop, s_ifne, s_icne, s_ifeq, s_iflt, s_ifge, s_ifgt, s_ifle, s_iceq, s_iclt, s_icge, s_icgt, s_icle, s_ifnull, s_ifnonnull, s_is, s_ls, s_as, s_ii, s_gi, s_gl, s_gr, s_pi, s_pz, s_pl, s_pr, s_iald, s_zald, s_lald, s_aald, s_alen, s_iast, s_zast, s_last, s_iret, s_zret, s_lret, s_aret, s_vret, s_sw, s_aast, mm_sw, mm_ld, mm_s1, mm_s2, mm_kl, Value.category, va_rf, List.nil_append, List.cons_append, Option.toList, true_and, and_true, and_self, true_or, or_true, eq_self, not_true_eq_false, false_implies, true_implies, not_false_eq_true, mm_10, mm_01, false_or, or_false, Nat.left_eq_add, Nat.add_eq_left, Nat.add_left_cancel_iff, Nat.reduceEqDiff, false_and, and_false, reduceIte, mm_kd_pi, mm_ln_pi, mm_gl_pi, mm_gr_pi, mm_sz_pi, mm_gi_pi, mm_kd_pl, mm_ln_pl, mm_gi_pl, mm_gr_pl, mm_sz_pl, mm_gl_pl, mm_kd_pr, mm_ln_pr, mm_gi_pr, mm_gl_pr, mm_sz_pr, mm_gr_pr, mm_kd_pa, mm_ln_pa, mm_gl_pa, mm_gr_pa, mm_sz_pa, mm_gi_pa, W_kd_91 H, W_s_91 H, W_gr_91_2 H, W_gr_91_3 H, W_gr_91_4 H, W_gr_91_5 H, W_gr_91_6 H, W_gr_91_7 H, W_gr_91_9 H, W_gr_91_10 H, W_gr_91_12 H, W_gr_91_22 H, W_gr_91_24 H, W_gr_91_25 H, W_gr_91_27 H, W_gr_91_28 H, W_gr_91_31 H, W_gr_91_32 H, W_gr_91_33 H, W_gr_91_35 H, W_gr_91_36 H, W_gr_91_37 H, W_gr_91_41 H, W_gr_91_42 H, W_gr_91_43 H, W_gr_91_44 H, W_gr_91_45 H, W_gr_91_46 H, W_gr_91_47 H, W_gr_91_48 H, W_gr_91_49 H, W_gr_91_55 H, T3, z, show (nI 3 = 3) = True by decide, T7 z, nI_l (show x < 2 ^ 31 by omega), u, lgc_eq]
      refine t_X10_isSign_23 _ _ _ ?_
      simp only [s_iadd, s_isub, s_imul, s_iand, s_ior, s_ixor, s_ishl, s_ishr, s_iushr, s_idiv, s_irem, s_ladd, s_lsub, s_lmul, s_ldiv, s_lrem, s_ineg, s_i2l, s_l2i, s_i2c, s_lcmp, s_ic, s_lc, s_nul, s_str, s_il, s_ll, s_al, s_dup, s_dup2, s_pop, s_ifne, s_icne, s_ifeq, s_iflt, s_ifge, s_ifgt, s_ifle, s_iceq, s_iclt, s_icge, s_icgt, s_icle, s_ifnull, s_ifnonnull, s_is, s_ls, s_as, s_ii, s_gi, s_gl, s_gr, s_pi, s_pz, s_pl, s_pr, s_iald, s_zald, s_lald, s_aald, s_alen, s_iast, s_zast, s_last, s_iret, s_zret, s_lret, s_aret, s_vret, s_sw, s_aast, mm_sw, mm_ld, mm_s1, mm_s2, mm_kl, Value.category, va_rf, List.nil_append, List.cons_append, Option.toList, true_and, and_true, and_self, true_or, or_true, eq_self, not_true_eq_false, false_implies, true_implies, not_false_eq_true, mm_10, mm_01, false_or, or_false, Nat.left_eq_add, Nat.add_eq_left, Nat.add_left_cancel_iff, Nat.reduceEqDiff, false_and, and_false, reduceIte, mm_kd_pi, mm_ln_pi, mm_gl_pi, mm_gr_pi, mm_sz_pi, mm_gi_pi, mm_kd_pl, mm_ln_pl, mm_gi_pl, mm_gr_pl, mm_sz_pl, mm_gl_pl, mm_kd_pr, mm_ln_pr, mm_gi_pr, mm_gl_pr, mm_sz_pr, mm_gr_pr, mm_kd_pa, mm_ln_pa, mm_gl_pa, mm_gr_pa, mm_sz_pa, mm_gi_pa]
      exact k1 ⟨z, u⟩
    · simp only [s_iadd, s_isub, s_imul, s_iand, s_ior, s_ixor, s_ishl, s_ishr, s_iushr, s_idiv, s_irem, s_ladd, s_lsub, s_lmul, s_ldiv, s_lrem, s_ineg, s_i2l, s_l2i, s_i2c, s_lcmp, s_ic, s_lc, s_nul, s_str, s_il, s_ll, s_al, s_dup, s_dup2, s_pop, s_ifne, s_icne, s_ifeq, s_iflt, s_ifge, s_ifgt, s_ifle, s_iceq, s_iclt, s_icge, s_icgt, s_icle, s_ifnull, s_ifnonnull, s_is, s_ls, s_as, s_ii, s_gi, s_gl, s_gr, s_pi, s_pz, s_pl, s_pr, s_iald, s_zald, s_lald, s_aald, s_alen, s_iast, s_zast, s_last, s_iret, s_zret, s_lret, s_aret, s_vret, s_sw, s_aast, mm_sw, mm_ld, mm_s1, mm_s2, mm_kl, Value.category, va_rf, List.nil_append, List.cons_append, Option.toList, true_and, and_true, and_self, true_or, or_true, eq_self, not_true_eq_false, false_implies, true_implies, not_false_eq_true, mm_10, mm_01, false_or, or_false, Nat.left_eq_add, Nat.add_eq_left, Nat.add_left_cancel_iff, Nat.reduceEqDiff, false_and, and_false, reduceIte, mm_kd_pi, mm_ln_pi, mm_gl_pi, mm_gr_pi, mm_sz_pi, mm_gi_pi, mm_kd_pl, mm_ln_pl, mm_gi_pl, mm_gr_pl, mm_sz_pl, mm_gl_pl, mm_kd_pr, mm_ln_pr, mm_gi_pr, mm_gl_pr, mm_sz_pr, mm_gr_pr, mm_kd_pa, mm_ln_pa, mm_gl_pa, mm_gr_pa, mm_sz_pa, mm_gi_pa, W_kd_91 H, W_s_91 H, W_gr_91_2 H, W_gr_91_3 H, W_gr_91_4 H, W_gr_91_5 H, W_gr_91_6 H, W_gr_91_7 H, W_gr_91_9 H, W_gr_91_10 H, W_gr_91_12 H, W_gr_91_22 H, W_gr_91_24 H, W_gr_91_25 H, W_gr_91_27 H, W_gr_91_28 H, W_gr_91_31 H, W_gr_91_32 H, W_gr_91_33 H, W_gr_91_35 H, W_gr_91_36 H, W_gr_91_37 H, W_gr_91_41 H, W_gr_91_42 H, W_gr_91_43 H, W_gr_91_44 H, W_gr_91_45 H, W_gr_91_46 H, W_gr_91_47 H, W_gr_91_48 H, W_gr_91_49 H, W_gr_91_55 H, T3, z, show (nI 3 = 3) = True by decide, T7 z, nI_l (show x < 2 ^ 31 by omega), lgc_eq, show (lN (tkv n t p) = lN x) = False from eq_false (fun v => u (lN_inj (by omega) (by omega) v))]
      exact no (fun v => u v.2)
  · simp only [s_iadd, s_isub, s_imul, s_iand, s_ior, s_ixor, s_ishl, s_ishr, s_iushr, s_idiv, s_irem, s_ladd, s_lsub, s_lmul, s_ldiv, s_lrem, s_ineg, s_i2l, s_l2i, s_i2c, s_lcmp, s_ic, s_lc, s_nul, s_str, s_il, s_ll, s_al, s_dup, s_dup2, s_pop, s_ifne, s_icne, s_ifeq, s_iflt, s_ifge, s_ifgt, s_ifle, s_iceq, s_iclt, s_icge, s_icgt, s_icle, s_ifnull, s_ifnonnull, s_is, s_ls, s_as, s_ii, s_gi, s_gl, s_gr, s_pi, s_pz, s_pl, s_pr, s_iald, s_zald, s_lald, s_aald, s_alen, s_iast, s_zast, s_last, s_iret, s_zret, s_lret, s_aret, s_vret, s_sw, s_aast, mm_sw, mm_ld, mm_s1, mm_s2, mm_kl, Value.category, va_rf, List.nil_append, List.cons_append, Option.toList, true_and, and_true, and_self, true_or, or_true, eq_self, not_true_eq_false, false_implies, true_implies, not_false_eq_true, mm_10, mm_01, false_or, or_false, Nat.left_eq_add, Nat.add_eq_left, Nat.add_left_cancel_iff, Nat.reduceEqDiff, false_and, and_false, reduceIte, mm_kd_pi, mm_ln_pi, mm_gl_pi, mm_gr_pi, mm_sz_pi, mm_gi_pi, mm_kd_pl, mm_ln_pl, mm_gi_pl, mm_gr_pl, mm_sz_pl, mm_gl_pl, mm_kd_pr, mm_ln_pr, mm_gi_pr, mm_gl_pr, mm_sz_pr, mm_gr_pr, mm_kd_pa, mm_ln_pa, mm_gl_pa, mm_gr_pa, mm_sz_pa, mm_gi_pa, W_kd_91 H, W_s_91 H, W_gr_91_2 H, W_gr_91_3 H, W_gr_91_4 H, W_gr_91_5 H, W_gr_91_6 H, W_gr_91_7 H, W_gr_91_9 H, W_gr_91_10 H, W_gr_91_12 H, W_gr_91_22 H, W_gr_91_24 H, W_gr_91_25 H, W_gr_91_27 H, W_gr_91_28 H, W_gr_91_31 H, W_gr_91_32 H, W_gr_91_33 H, W_gr_91_35 H, W_gr_91_36 H, W_gr_91_37 H, W_gr_91_41 H, W_gr_91_42 H, W_gr_91_43 H, W_gr_91_44 H, W_gr_91_45 H, W_gr_91_46 H, W_gr_91_47 H, W_gr_91_48 H, W_gr_91_49 H, W_gr_91_55 H, T3, show (nI (tkk n t p) = 3) = False from eq_false (fun v => z ((nI_eq (b := 3) (by omega) (by decide)).mp v))]
    exact no (fun v => z v.1)
theorem ms_must {x : Int32} (M : MS o n t h p c pl y J) (hb : mm_gi h 91 19 = 0) (k1 : ¬ x = 0 → ∀ g, fx xMd yMd h g → mm_gi g 91 19 = 0 → MS o n t g (tkb n t p) c pl y J → K none g) (k0 : x = 0 → ∀ g, fx xMd yMd h g → mm_gi g 91 19 = 1 → mm_gi g 91 18 = nI (tks n t p) → MS o n t g p c pl y J → K none g) : mm_MV q_X10_must (d + 2) (0, 0) [.ref 91, .int x] h K := by
  have H := M.1.1
  refine e_X10_must (t_X10_must_0 _ _ _ ?_)
  by_cases z : x = 0
  · obtain ⟨g1, eg1⟩ : ∃ g1 : mmH, g1 = mm_pi h 91 19 1 := ⟨_, rfl⟩
    obtain ⟨g2, eg2⟩ : ∃ g2 : mmH, g2 = mm_pi g1 91 18 (nI (tks n t p)) := ⟨_, rfl⟩
    have F1 : fx xMd yMd h g1 := by rw [eg1]; exact fx_pi (by unfold xMd; omega) fx_rf
    have F2 : fx xMd yMd h g2 := by rw [eg2]; exact fx_pi (by unfold xMd; omega) F1
    have H1 := fx_WS F1 H
    have H2 := fx_WS F2 H
    have e14 : mm_gi g1 91 14 = nI (tks n t p) := by rw [eg1, mm_gi_pi, if_neg (by omega)]; exact M.1.2.2.1.1.1
    have e19 : mm_gi g2 91 19 = 1 := by rw [eg2, mm_gi_pi, if_neg (by omega), eg1, mm_gi_pi, if_pos ⟨rfl, rfl⟩]
    simp only [s_iadd, s_isub, s_imul, s_iand, s_ior, s_ixor, s_ishl, s_ishr, s_iushr, s_idiv, s_irem, s_ladd, s_lsub, s_lmul, s_ldiv, s_lrem, s_ineg, s_i2l, s_l2i, s_i2c, s_lcmp, s_ic, s_lc, s_nul, s_str, s_il, s_ll, s_al, s_dup, s_dup2, s_pop, s_ifne, s_icne, s_ifeq, s_iflt, s_ifge, s_ifgt, s_ifle, s_iceq, s_iclt, s_icge, s_icgt, s_icle, s_ifnull, s_ifnonnull, s_is, s_ls, s_as, s_ii, s_gi, s_gl, s_gr, s_pi, s_pz, s_pl, s_pr, s_iald, s_zald, s_lald, s_aald, s_alen, s_iast, s_zast, s_last, s_iret, s_zret, s_lret, s_aret, s_vret, s_sw, s_aast, mm_sw, mm_ld, mm_s1, mm_s2, mm_kl, Value.category, va_rf, List.nil_append, List.cons_append, Option.toList, true_and, and_true, and_self, true_or, or_true, eq_self, not_true_eq_false, false_implies, true_implies, not_false_eq_true, mm_10, mm_01, false_or, or_false, Nat.left_eq_add, Nat.add_eq_left, Nat.add_left_cancel_iff, Nat.reduceEqDiff, false_and, and_false, reduceIte, mm_kd_pi, mm_ln_pi, mm_gl_pi, mm_gr_pi, mm_sz_pi, mm_gi_pi, mm_kd_pl, mm_ln_pl, mm_gi_pl, mm_gr_pl, mm_sz_pl, mm_gl_pl, mm_kd_pr, mm_ln_pr, mm_gi_pr, mm_gl_pr, mm_sz_pr, mm_gr_pr, mm_kd_pa, mm_ln_pa, mm_gl_pa, mm_gr_pa, mm_sz_pa, mm_gi_pa, W_kd_91 H, W_s_91 H, W_gr_91_2 H, W_gr_91_3 H, W_gr_91_4 H, W_gr_91_5 H, W_gr_91_6 H, W_gr_91_7 H, W_gr_91_9 H, W_gr_91_10 H, W_gr_91_12 H, W_gr_91_22 H, W_gr_91_24 H, W_gr_91_25 H, W_gr_91_27 H, W_gr_91_28 H, W_gr_91_31 H, W_gr_91_32 H, W_gr_91_33 H, W_gr_91_35 H, W_gr_91_36 H, W_gr_91_37 H, W_gr_91_41 H, W_gr_91_42 H, W_gr_91_43 H, W_gr_91_44 H, W_gr_91_45 H, W_gr_91_46 H, W_gr_91_47 H, W_gr_91_48 H, W_gr_91_49 H, W_gr_91_55 H, hb, eq_true z, show ((1 : Int32) = 0) = False by decide, ← eg1, W_kd_91 H1, W_s_91 H1, W_gr_91_2 H1, W_gr_91_3 H1, W_gr_91_4 H1, W_gr_91_5 H1, W_gr_91_6 H1, W_gr_91_7 H1, W_gr_91_9 H1, W_gr_91_10 H1, W_gr_91_12 H1, W_gr_91_22 H1, W_gr_91_24 H1, W_gr_91_25 H1, W_gr_91_27 H1, W_gr_91_28 H1, W_gr_91_31 H1, W_gr_91_32 H1, W_gr_91_33 H1, W_gr_91_35 H1, W_gr_91_36 H1, W_gr_91_37 H1, W_gr_91_41 H1, W_gr_91_42 H1, W_gr_91_43 H1, W_gr_91_44 H1, W_gr_91_45 H1, W_gr_91_46 H1, W_gr_91_47 H1, W_gr_91_48 H1, W_gr_91_49 H1, W_gr_91_55 H1, e14, ← eg2]
    refine t_X10_must_24 _ _ _ ?_
    simp only [s_iadd, s_isub, s_imul, s_iand, s_ior, s_ixor, s_ishl, s_ishr, s_iushr, s_idiv, s_irem, s_ladd, s_lsub, s_lmul, s_ldiv, s_lrem, s_ineg, s_i2l, s_l2i, s_i2c, s_lcmp, s_ic, s_lc, s_nul, s_str, s_il, s_ll, s_al, s_dup, s_dup2, s_pop, s_ifne, s_icne, s_ifeq, s_iflt, s_ifge, s_ifgt, s_ifle, s_iceq, s_iclt, s_icge, s_icgt, s_icle, s_ifnull, s_ifnonnull, s_is, s_ls, s_as, s_ii, s_gi, s_gl, s_gr, s_pi, s_pz, s_pl, s_pr, s_iald, s_zald, s_lald, s_aald, s_alen, s_iast, s_zast, s_last, s_iret, s_zret, s_lret, s_aret, s_vret, s_sw, s_aast, mm_sw, mm_ld, mm_s1, mm_s2, mm_kl, Value.category, va_rf, List.nil_append, List.cons_append, Option.toList, true_and, and_true, and_self, true_or, or_true, eq_self, not_true_eq_false, false_implies, true_implies, not_false_eq_true, mm_10, mm_01, false_or, or_false, Nat.left_eq_add, Nat.add_eq_left, Nat.add_left_cancel_iff, Nat.reduceEqDiff, false_and, and_false, reduceIte, mm_kd_pi, mm_ln_pi, mm_gl_pi, mm_gr_pi, mm_sz_pi, mm_gi_pi, mm_kd_pl, mm_ln_pl, mm_gi_pl, mm_gr_pl, mm_sz_pl, mm_gl_pl, mm_kd_pr, mm_ln_pr, mm_gi_pr, mm_gl_pr, mm_sz_pr, mm_gr_pr, mm_kd_pa, mm_ln_pa, mm_gl_pa, mm_gr_pa, mm_sz_pa, mm_gi_pa, W_kd_91 H2, W_s_91 H2, W_gr_91_2 H2, W_gr_91_3 H2, W_gr_91_4 H2, W_gr_91_5 H2, W_gr_91_6 H2, W_gr_91_7 H2, W_gr_91_9 H2, W_gr_91_10 H2, W_gr_91_12 H2, W_gr_91_22 H2, W_gr_91_24 H2, W_gr_91_25 H2, W_gr_91_27 H2, W_gr_91_28 H2, W_gr_91_31 H2, W_gr_91_32 H2, W_gr_91_33 H2, W_gr_91_35 H2, W_gr_91_36 H2, W_gr_91_37 H2, W_gr_91_41 H2, W_gr_91_42 H2, W_gr_91_43 H2, W_gr_91_44 H2, W_gr_91_45 H2, W_gr_91_46 H2, W_gr_91_47 H2, W_gr_91_48 H2, W_gr_91_49 H2, W_gr_91_55 H2, e19, show ((1 : Int32) = 0) = False by decide]
    refine t_X10_must_35 _ _ _ ?_
    simp only [s_iadd, s_isub, s_imul, s_iand, s_ior, s_ixor, s_ishl, s_ishr, s_iushr, s_idiv, s_irem, s_ladd, s_lsub, s_lmul, s_ldiv, s_lrem, s_ineg, s_i2l, s_l2i, s_i2c, s_lcmp, s_ic, s_lc, s_nul, s_str, s_il, s_ll, s_al, s_dup, s_dup2, s_pop, s_ifne, s_icne, s_ifeq, s_iflt, s_ifge, s_ifgt, s_ifle, s_iceq, s_iclt, s_icge, s_icgt, s_icle, s_ifnull, s_ifnonnull, s_is, s_ls, s_as, s_ii, s_gi, s_gl, s_gr, s_pi, s_pz, s_pl, s_pr, s_iald, s_zald, s_lald, s_aald, s_alen, s_iast, s_zast, s_last, s_iret, s_zret, s_lret, s_aret, s_vret, s_sw, s_aast, mm_sw, mm_ld, mm_s1, mm_s2, mm_kl, Value.category, va_rf, List.nil_append, List.cons_append, Option.toList, true_and, and_true, and_self, true_or, or_true, eq_self, not_true_eq_false, false_implies, true_implies, not_false_eq_true, mm_10, mm_01, false_or, or_false, Nat.left_eq_add, Nat.add_eq_left, Nat.add_left_cancel_iff, Nat.reduceEqDiff, false_and, and_false, reduceIte, mm_kd_pi, mm_ln_pi, mm_gl_pi, mm_gr_pi, mm_sz_pi, mm_gi_pi, mm_kd_pl, mm_ln_pl, mm_gi_pl, mm_gr_pl, mm_sz_pl, mm_gl_pl, mm_kd_pr, mm_ln_pr, mm_gi_pr, mm_gl_pr, mm_sz_pr, mm_gr_pr, mm_kd_pa, mm_ln_pa, mm_gl_pa, mm_gr_pa, mm_sz_pa, mm_gi_pa]
    have e : ∀ c j, ¬ (c = 91 ∧ (j = 18 ∨ j = 19)) → mm_gi g2 c j = mm_gi h c j := fun c j q => by rw [eg2, mm_gi_pi, if_neg (by omega), eg1, mm_gi_pi, if_neg (by omega)]
    refine k0 z g2 F2 e19 (by rw [eg2, mm_gi_pi, if_pos ⟨rfl, rfl⟩]) (MS_of M F2 (TKm_cg (fun j hj => e 91 j (by omega)) (by rw [eg2, mm_gl_pi, eg1, mm_gl_pi]) M.1.2.2.1) ⟨M.2.1.1, fun q => by rw [e19] at q; exact absurd q (by decide), M.2.1.2.2⟩ ?_ ⟨PLe_cg (fun k _ => ⟨e 104 k (by omega), e 105 k (by omega)⟩) M.2.2.2.1.1, M.2.2.2.1.2⟩ (fun i hi => ?_))
    · rw [e 91 23 (by omega), e 91 26 (by omega), e 91 29 (by omega), e 91 30 (by omega)]
      exact M.2.2.1.2
    · rw [e 102 i (by omega), e 103 i (by omega)]
      exact M.2.2.2.2 i hi
  · simp only [s_iadd, s_isub, s_imul, s_iand, s_ior, s_ixor, s_ishl, s_ishr, s_iushr, s_idiv, s_irem, s_ladd, s_lsub, s_lmul, s_ldiv, s_lrem, s_ineg, s_i2l, s_l2i, s_i2c, s_lcmp, s_ic, s_lc, s_nul, s_str, s_il, s_ll, s_al, s_dup, s_dup2, s_pop, s_ifne, s_icne, s_ifeq, s_iflt, s_ifge, s_ifgt, s_ifle, s_iceq, s_iclt, s_icge, s_icgt, s_icle, s_ifnull, s_ifnonnull, s_is, s_ls, s_as, s_ii, s_gi, s_gl, s_gr, s_pi, s_pz, s_pl, s_pr, s_iald, s_zald, s_lald, s_aald, s_alen, s_iast, s_zast, s_last, s_iret, s_zret, s_lret, s_aret, s_vret, s_sw, s_aast, mm_sw, mm_ld, mm_s1, mm_s2, mm_kl, Value.category, va_rf, List.nil_append, List.cons_append, Option.toList, true_and, and_true, and_self, true_or, or_true, eq_self, not_true_eq_false, false_implies, true_implies, not_false_eq_true, mm_10, mm_01, false_or, or_false, Nat.left_eq_add, Nat.add_eq_left, Nat.add_left_cancel_iff, Nat.reduceEqDiff, false_and, and_false, reduceIte, mm_kd_pi, mm_ln_pi, mm_gl_pi, mm_gr_pi, mm_sz_pi, mm_gi_pi, mm_kd_pl, mm_ln_pl, mm_gi_pl, mm_gr_pl, mm_sz_pl, mm_gl_pl, mm_kd_pr, mm_ln_pr, mm_gi_pr, mm_gl_pr, mm_sz_pr, mm_gr_pr, mm_kd_pa, mm_ln_pa, mm_gl_pa, mm_gr_pa, mm_sz_pa, mm_gi_pa, W_kd_91 H, W_s_91 H, W_gr_91_2 H, W_gr_91_3 H, W_gr_91_4 H, W_gr_91_5 H, W_gr_91_6 H, W_gr_91_7 H, W_gr_91_9 H, W_gr_91_10 H, W_gr_91_12 H, W_gr_91_22 H, W_gr_91_24 H, W_gr_91_25 H, W_gr_91_27 H, W_gr_91_28 H, W_gr_91_31 H, W_gr_91_32 H, W_gr_91_33 H, W_gr_91_35 H, W_gr_91_36 H, W_gr_91_37 H, W_gr_91_41 H, W_gr_91_42 H, W_gr_91_43 H, W_gr_91_44 H, W_gr_91_45 H, W_gr_91_46 H, W_gr_91_47 H, W_gr_91_48 H, W_gr_91_49 H, W_gr_91_55 H, hb, eq_false z]
    refine t_X10_must_24 _ _ _ ?_
    simp only [s_iadd, s_isub, s_imul, s_iand, s_ior, s_ixor, s_ishl, s_ishr, s_iushr, s_idiv, s_irem, s_ladd, s_lsub, s_lmul, s_ldiv, s_lrem, s_ineg, s_i2l, s_l2i, s_i2c, s_lcmp, s_ic, s_lc, s_nul, s_str, s_il, s_ll, s_al, s_dup, s_dup2, s_pop, s_ifne, s_icne, s_ifeq, s_iflt, s_ifge, s_ifgt, s_ifle, s_iceq, s_iclt, s_icge, s_icgt, s_icle, s_ifnull, s_ifnonnull, s_is, s_ls, s_as, s_ii, s_gi, s_gl, s_gr, s_pi, s_pz, s_pl, s_pr, s_iald, s_zald, s_lald, s_aald, s_alen, s_iast, s_zast, s_last, s_iret, s_zret, s_lret, s_aret, s_vret, s_sw, s_aast, mm_sw, mm_ld, mm_s1, mm_s2, mm_kl, Value.category, va_rf, List.nil_append, List.cons_append, Option.toList, true_and, and_true, and_self, true_or, or_true, eq_self, not_true_eq_false, false_implies, true_implies, not_false_eq_true, mm_10, mm_01, false_or, or_false, Nat.left_eq_add, Nat.add_eq_left, Nat.add_left_cancel_iff, Nat.reduceEqDiff, false_and, and_false, reduceIte, mm_kd_pi, mm_ln_pi, mm_gl_pi, mm_gr_pi, mm_sz_pi, mm_gi_pi, mm_kd_pl, mm_ln_pl, mm_gi_pl, mm_gr_pl, mm_sz_pl, mm_gl_pl, mm_kd_pr, mm_ln_pr, mm_gi_pr, mm_gl_pr, mm_sz_pr, mm_gr_pr, mm_kd_pa, mm_ln_pa, mm_gl_pa, mm_gr_pa, mm_sz_pa, mm_gi_pa, W_kd_91 H, W_s_91 H, W_gr_91_2 H, W_gr_91_3 H, W_gr_91_4 H, W_gr_91_5 H, W_gr_91_6 H, W_gr_91_7 H, W_gr_91_9 H, W_gr_91_10 H, W_gr_91_12 H, W_gr_91_22 H, W_gr_91_24 H, W_gr_91_25 H, W_gr_91_27 H, W_gr_91_28 H, W_gr_91_31 H, W_gr_91_32 H, W_gr_91_33 H, W_gr_91_35 H, W_gr_91_36 H, W_gr_91_37 H, W_gr_91_41 H, W_gr_91_42 H, W_gr_91_43 H, W_gr_91_44 H, W_gr_91_45 H, W_gr_91_46 H, W_gr_91_47 H, W_gr_91_48 H, W_gr_91_49 H, W_gr_91_55 H, hb]
    refine c_X10_must_32 (bb := (0, 0)) (b := (0, 0)) (Nat.le_of_ble_eq_true rfl) ⟨rfl, rfl⟩ (W_kd_91 H) (W_s_91 H) (ms_next M (fun g F eb ef M' => ?_))
    refine t_X10_must_35 _ _ _ ?_
    simp only [s_iadd, s_isub, s_imul, s_iand, s_ior, s_ixor, s_ishl, s_ishr, s_iushr, s_idiv, s_irem, s_ladd, s_lsub, s_lmul, s_ldiv, s_lrem, s_ineg, s_i2l, s_l2i, s_i2c, s_lcmp, s_ic, s_lc, s_nul, s_str, s_il, s_ll, s_al, s_dup, s_dup2, s_pop, s_ifne, s_icne, s_ifeq, s_iflt, s_ifge, s_ifgt, s_ifle, s_iceq, s_iclt, s_icge, s_icgt, s_icle, s_ifnull, s_ifnonnull, s_is, s_ls, s_as, s_ii, s_gi, s_gl, s_gr, s_pi, s_pz, s_pl, s_pr, s_iald, s_zald, s_lald, s_aald, s_alen, s_iast, s_zast, s_last, s_iret, s_zret, s_lret, s_aret, s_vret, s_sw, s_aast, mm_sw, mm_ld, mm_s1, mm_s2, mm_kl, Value.category, va_rf, List.nil_append, List.cons_append, Option.toList, true_and, and_true, and_self, true_or, or_true, eq_self, not_true_eq_false, false_implies, true_implies, not_false_eq_true, mm_10, mm_01, false_or, or_false, Nat.left_eq_add, Nat.add_eq_left, Nat.add_left_cancel_iff, Nat.reduceEqDiff, false_and, and_false, reduceIte, mm_kd_pi, mm_ln_pi, mm_gl_pi, mm_gr_pi, mm_sz_pi, mm_gi_pi, mm_kd_pl, mm_ln_pl, mm_gi_pl, mm_gr_pl, mm_sz_pl, mm_gl_pl, mm_kd_pr, mm_ln_pr, mm_gi_pr, mm_gl_pr, mm_sz_pr, mm_gr_pr, mm_kd_pa, mm_ln_pa, mm_gl_pa, mm_gr_pa, mm_sz_pa, mm_gi_pa]
    exact k1 z g F (eb.trans hb) M'
theorem ms_number {lo hi : Nat} (M : MS o n t h p c pl y J) (hb : mm_gi h 91 19 = 0) (hh : hi ≤ 1000) (hl : lo ≤ 1000) (k1 : isN n t lo hi p → ∀ g, fx xMd yMd h g → mm_gi g 91 19 = 0 → MS o n t g (tkb n t p) c pl y J → K (some (.int (nI (tkv n t p)))) g) (k0 : ¬ isN n t lo hi p → ∀ g v, fx xMd yMd h g → mm_gi g 91 19 = 1 → mm_gi g 91 18 = nI (tks n t p) → MS o n t g p c pl y J → K (some (.int v)) g) : mm_MV q_X10_number (d + 4) (0, 0) [.ref 91, .long (lN lo), .long (lN hi)] h K := by
  have H := M.1.1
  obtain ⟨⟨T1, T2, T3⟩, T4, T5, T6, T7⟩ := M.1.2.2.1
  have kl := tkk_le (n := n) (t := t) (p := p)
  have no : ∀ v, ¬ isN n t lo hi p → mm_V q_X10_number (d + 4) (0, 0) K 32 [some (.ref 91), some (.long (lN lo)), none, some (.long (lN hi)), none, some (.int v)] [.ref 91] h := by
    intro v z
    refine t_X10_number_32 _ _ _ ?_
    simp only [s_iadd, s_isub, s_imul, s_iand, s_ior, s_ixor, s_ishl, s_ishr, s_iushr, s_idiv, s_irem, s_ladd, s_lsub, s_lmul, s_ldiv, s_lrem, s_ineg, s_i2l, s_l2i, s_i2c, s_lcmp, s_ic, s_lc, s_nul, s_str, s_il, s_ll, s_al, s_dup, s_dup2, s_pop, s_ifne, s_icne, s_ifeq, s_iflt, s_ifge, s_ifgt, s_ifle, s_iceq, s_iclt, s_icge, s_icgt, s_icle, s_ifnull, s_ifnonnull, s_is, s_ls, s_as, s_ii, s_gi, s_gl, s_gr, s_pi, s_pz, s_pl, s_pr, s_iald, s_zald, s_lald, s_aald, s_alen, s_iast, s_zast, s_last, s_iret, s_zret, s_lret, s_aret, s_vret, s_sw, s_aast, mm_sw, mm_ld, mm_s1, mm_s2, mm_kl, Value.category, va_rf, List.nil_append, List.cons_append, Option.toList, true_and, and_true, and_self, true_or, or_true, eq_self, not_true_eq_false, false_implies, true_implies, not_false_eq_true, mm_10, mm_01, false_or, or_false, Nat.left_eq_add, Nat.add_eq_left, Nat.add_left_cancel_iff, Nat.reduceEqDiff, false_and, and_false, reduceIte, mm_kd_pi, mm_ln_pi, mm_gl_pi, mm_gr_pi, mm_sz_pi, mm_gi_pi, mm_kd_pl, mm_ln_pl, mm_gi_pl, mm_gr_pl, mm_sz_pl, mm_gl_pl, mm_kd_pr, mm_ln_pr, mm_gi_pr, mm_gl_pr, mm_sz_pr, mm_gr_pr, mm_kd_pa, mm_ln_pa, mm_gl_pa, mm_gr_pa, mm_sz_pa, mm_gi_pa]
    refine c_X10_number_33 (bb := (0, 0)) (b := (0, 0)) (Nat.le_of_ble_eq_true rfl) ⟨rfl, rfl⟩ (W_kd_91 H) (W_s_91 H) (ms_must M hb (fun q => absurd rfl q) (fun _ g F b f M' => ?_))
    refine t_X10_number_36 _ _ _ ?_
    simp only [s_iadd, s_isub, s_imul, s_iand, s_ior, s_ixor, s_ishl, s_ishr, s_iushr, s_idiv, s_irem, s_ladd, s_lsub, s_lmul, s_ldiv, s_lrem, s_ineg, s_i2l, s_l2i, s_i2c, s_lcmp, s_ic, s_lc, s_nul, s_str, s_il, s_ll, s_al, s_dup, s_dup2, s_pop, s_ifne, s_icne, s_ifeq, s_iflt, s_ifge, s_ifgt, s_ifle, s_iceq, s_iclt, s_icge, s_icgt, s_icle, s_ifnull, s_ifnonnull, s_is, s_ls, s_as, s_ii, s_gi, s_gl, s_gr, s_pi, s_pz, s_pl, s_pr, s_iald, s_zald, s_lald, s_aald, s_alen, s_iast, s_zast, s_last, s_iret, s_zret, s_lret, s_aret, s_vret, s_sw, s_aast, mm_sw, mm_ld, mm_s1, mm_s2, mm_kl, Value.category, va_rf, List.nil_append, List.cons_append, Option.toList, true_and, and_true, and_self, true_or, or_true, eq_self, not_true_eq_false, false_implies, true_implies, not_false_eq_true, mm_10, mm_01, false_or, or_false, Nat.left_eq_add, Nat.add_eq_left, Nat.add_left_cancel_iff, Nat.reduceEqDiff, false_and, and_false, reduceIte, mm_kd_pi, mm_ln_pi, mm_gl_pi, mm_gr_pi, mm_sz_pi, mm_gi_pi, mm_kd_pl, mm_ln_pl, mm_gi_pl, mm_gr_pl, mm_sz_pl, mm_gl_pl, mm_kd_pr, mm_ln_pr, mm_gi_pr, mm_gl_pr, mm_sz_pr, mm_gr_pr, mm_kd_pa, mm_ln_pa, mm_gl_pa, mm_gr_pa, mm_sz_pa, mm_gi_pa]
    exact k0 z g v F b f M'
  refine e_X10_number (t_X10_number_0 _ _ _ ?_)
  by_cases z : tkk n t p = 2
  · obtain ⟨w, e7, w8, ev⟩ := T6 z
    simp only [s_iadd, s_isub, s_imul, s_iand, s_ior, s_ixor, s_ishl, s_ishr, s_iushr, s_idiv, s_irem, s_ladd, s_lsub, s_lmul, s_ldiv, s_lrem, s_ineg, s_i2l, s_l2i, s_i2c, s_lcmp, s_ic, s_lc, s_nul, s_str, s_il, s_ll, s_al, s_dup, s_dup2, s_pop, s_ifne, s_icne, s_ifeq, s_iflt, s_ifge, s_ifgt, s_ifle, s_iceq, s_iclt, s_icge, s_icgt, s_icle, s_ifnull, s_ifnonnull, s_is, s_ls, s_as, s_ii, s_gi, s_gl, s_gr, s_pi, s_pz, s_pl, s_pr, s_iald, s_zald, s_lald, s_aald, s_alen, s_iast, s_zast, s_last, s_iret, s_zret, s_lret, s_aret, s_vret, s_sw, s_aast, mm_sw, mm_ld, mm_s1, mm_s2, mm_kl, Value.category, va_rf, List.nil_append, List.cons_append, Option.toList, true_and, and_true, and_self, true_or, or_true, eq_self, not_true_eq_false, false_implies, true_implies, not_false_eq_true, mm_10, mm_01, false_or, or_false, Nat.left_eq_add, Nat.add_eq_left, Nat.add_left_cancel_iff, Nat.reduceEqDiff, false_and, and_false, reduceIte, mm_kd_pi, mm_ln_pi, mm_gl_pi, mm_gr_pi, mm_sz_pi, mm_gi_pi, mm_kd_pl, mm_ln_pl, mm_gi_pl, mm_gr_pl, mm_sz_pl, mm_gl_pl, mm_kd_pr, mm_ln_pr, mm_gi_pr, mm_gl_pr, mm_sz_pr, mm_gr_pr, mm_kd_pa, mm_ln_pa, mm_gl_pa, mm_gr_pa, mm_sz_pa, mm_gi_pa, W_kd_91 H, W_s_91 H, W_gr_91_2 H, W_gr_91_3 H, W_gr_91_4 H, W_gr_91_5 H, W_gr_91_6 H, W_gr_91_7 H, W_gr_91_9 H, W_gr_91_10 H, W_gr_91_12 H, W_gr_91_22 H, W_gr_91_24 H, W_gr_91_25 H, W_gr_91_27 H, W_gr_91_28 H, W_gr_91_31 H, W_gr_91_32 H, W_gr_91_33 H, W_gr_91_35 H, W_gr_91_36 H, W_gr_91_37 H, W_gr_91_41 H, W_gr_91_42 H, W_gr_91_43 H, W_gr_91_44 H, W_gr_91_45 H, W_gr_91_46 H, W_gr_91_47 H, W_gr_91_48 H, W_gr_91_49 H, W_gr_91_55 H, T3, z, show (nI 2 = 2) = True by decide, e7, lN_i]
    refine c_X10_number_22 (bb := (0, 0)) (b := (0, 0)) (Nat.le_of_ble_eq_true rfl) ⟨rfl, rfl⟩ (sp_in (fun q1 q2 => ?_) (fun q => ?_)) <;> refine t_X10_number_25 _ _ _ ?_
    · rw [lN_toInt (by omega), lN_toInt (by omega)] at q1 q2
      have wv : tkv n t p = w := by omega
      simp only [s_iadd, s_isub, s_imul, s_iand, s_ior, s_ixor, s_ishl, s_ishr, s_iushr, s_idiv, s_irem, s_ladd, s_lsub, s_lmul, s_ldiv, s_lrem, s_ineg, s_i2l, s_l2i, s_i2c, s_lcmp, s_ic, s_lc, s_nul, s_str, s_il, s_ll, s_al, s_dup, s_dup2, s_pop, s_ifne, s_icne, s_ifeq, s_iflt, s_ifge, s_ifgt, s_ifle, s_iceq, s_iclt, s_icge, s_icgt, s_icle, s_ifnull, s_ifnonnull, s_is, s_ls, s_as, s_ii, s_gi, s_gl, s_gr, s_pi, s_pz, s_pl, s_pr, s_iald, s_zald, s_lald, s_aald, s_alen, s_iast, s_zast, s_last, s_iret, s_zret, s_lret, s_aret, s_vret, s_sw, s_aast, mm_sw, mm_ld, mm_s1, mm_s2, mm_kl, Value.category, va_rf, List.nil_append, List.cons_append, Option.toList, true_and, and_true, and_self, true_or, or_true, eq_self, not_true_eq_false, false_implies, true_implies, not_false_eq_true, mm_10, mm_01, false_or, or_false, Nat.left_eq_add, Nat.add_eq_left, Nat.add_left_cancel_iff, Nat.reduceEqDiff, false_and, and_false, reduceIte, mm_kd_pi, mm_ln_pi, mm_gl_pi, mm_gr_pi, mm_sz_pi, mm_gi_pi, mm_kd_pl, mm_ln_pl, mm_gi_pl, mm_gr_pl, mm_sz_pl, mm_gl_pl, mm_kd_pr, mm_ln_pr, mm_gi_pr, mm_gl_pr, mm_sz_pr, mm_gr_pr, mm_kd_pa, mm_ln_pa, mm_gl_pa, mm_gr_pa, mm_sz_pa, mm_gi_pa, show ((1 : Int32) = 0) = False by decide]
      refine c_X10_number_33 (bb := (0, 0)) (b := (0, 0)) (Nat.le_of_ble_eq_true rfl) ⟨rfl, rfl⟩ (W_kd_91 H) (W_s_91 H) (ms_must M hb (fun _ g F b M' => ?_) (fun q => absurd q (by decide)))
      refine t_X10_number_36 _ _ _ ?_
      simp only [s_iadd, s_isub, s_imul, s_iand, s_ior, s_ixor, s_ishl, s_ishr, s_iushr, s_idiv, s_irem, s_ladd, s_lsub, s_lmul, s_ldiv, s_lrem, s_ineg, s_i2l, s_l2i, s_i2c, s_lcmp, s_ic, s_lc, s_nul, s_str, s_il, s_ll, s_al, s_dup, s_dup2, s_pop, s_ifne, s_icne, s_ifeq, s_iflt, s_ifge, s_ifgt, s_ifle, s_iceq, s_iclt, s_icge, s_icgt, s_icle, s_ifnull, s_ifnonnull, s_is, s_ls, s_as, s_ii, s_gi, s_gl, s_gr, s_pi, s_pz, s_pl, s_pr, s_iald, s_zald, s_lald, s_aald, s_alen, s_iast, s_zast, s_last, s_iret, s_zret, s_lret, s_aret, s_vret, s_sw, s_aast, mm_sw, mm_ld, mm_s1, mm_s2, mm_kl, Value.category, va_rf, List.nil_append, List.cons_append, Option.toList, true_and, and_true, and_self, true_or, or_true, eq_self, not_true_eq_false, false_implies, true_implies, not_false_eq_true, mm_10, mm_01, false_or, or_false, Nat.left_eq_add, Nat.add_eq_left, Nat.add_left_cancel_iff, Nat.reduceEqDiff, false_and, and_false, reduceIte, mm_kd_pi, mm_ln_pi, mm_gl_pi, mm_gr_pi, mm_sz_pi, mm_gi_pi, mm_kd_pl, mm_ln_pl, mm_gi_pl, mm_gr_pl, mm_sz_pl, mm_gl_pl, mm_kd_pr, mm_ln_pr, mm_gi_pr, mm_gl_pr, mm_sz_pr, mm_gr_pr, mm_kd_pa, mm_ln_pa, mm_gl_pa, mm_gr_pa, mm_sz_pa, mm_gi_pa]
      have := k1 ⟨z, by omega, by omega⟩ g F b M'
      rw [wv] at this
      exact this
    · rw [lN_toInt (by omega), lN_toInt (by omega), lN_toInt (by omega)] at q
      simp only [s_iadd, s_isub, s_imul, s_iand, s_ior, s_ixor, s_ishl, s_ishr, s_iushr, s_idiv, s_irem, s_ladd, s_lsub, s_lmul, s_ldiv, s_lrem, s_ineg, s_i2l, s_l2i, s_i2c, s_lcmp, s_ic, s_lc, s_nul, s_str, s_il, s_ll, s_al, s_dup, s_dup2, s_pop, s_ifne, s_icne, s_ifeq, s_iflt, s_ifge, s_ifgt, s_ifle, s_iceq, s_iclt, s_icge, s_icgt, s_icle, s_ifnull, s_ifnonnull, s_is, s_ls, s_as, s_ii, s_gi, s_gl, s_gr, s_pi, s_pz, s_pl, s_pr, s_iald, s_zald, s_lald, s_aald, s_alen, s_iast, s_zast, s_last, s_iret, s_zret, s_lret, s_aret, s_vret, s_sw, s_aast, mm_sw, mm_ld, mm_s1, mm_s2, mm_kl, Value.category, va_rf, List.nil_append, List.cons_append, Option.toList, true_and, and_true, and_self, true_or, or_true, eq_self, not_true_eq_false, false_implies, true_implies, not_false_eq_true, mm_10, mm_01, false_or, or_false, Nat.left_eq_add, Nat.add_eq_left, Nat.add_left_cancel_iff, Nat.reduceEqDiff, false_and, and_false, reduceIte, mm_kd_pi, mm_ln_pi, mm_gl_pi, mm_gr_pi, mm_sz_pi, mm_gi_pi, mm_kd_pl, mm_ln_pl, mm_gi_pl, mm_gr_pl, mm_sz_pl, mm_gl_pl, mm_kd_pr, mm_ln_pr, mm_gi_pr, mm_gl_pr, mm_sz_pr, mm_gr_pr, mm_kd_pa, mm_ln_pa, mm_gl_pa, mm_gr_pa, mm_sz_pa, mm_gi_pa]
      exact no _ (fun v => q (by have := v.2; omega))
  · simp only [s_iadd, s_isub, s_imul, s_iand, s_ior, s_ixor, s_ishl, s_ishr, s_iushr, s_idiv, s_irem, s_ladd, s_lsub, s_lmul, s_ldiv, s_lrem, s_ineg, s_i2l, s_l2i, s_i2c, s_lcmp, s_ic, s_lc, s_nul, s_str, s_il, s_ll, s_al, s_dup, s_dup2, s_pop, s_ifne, s_icne, s_ifeq, s_iflt, s_ifge, s_ifgt, s_ifle, s_iceq, s_iclt, s_icge, s_icgt, s_icle, s_ifnull, s_ifnonnull, s_is, s_ls, s_as, s_ii, s_gi, s_gl, s_gr, s_pi, s_pz, s_pl, s_pr, s_iald, s_zald, s_lald, s_aald, s_alen, s_iast, s_zast, s_last, s_iret, s_zret, s_lret, s_aret, s_vret, s_sw, s_aast, mm_sw, mm_ld, mm_s1, mm_s2, mm_kl, Value.category, va_rf, List.nil_append, List.cons_append, Option.toList, true_and, and_true, and_self, true_or, or_true, eq_self, not_true_eq_false, false_implies, true_implies, not_false_eq_true, mm_10, mm_01, false_or, or_false, Nat.left_eq_add, Nat.add_eq_left, Nat.add_left_cancel_iff, Nat.reduceEqDiff, false_and, and_false, reduceIte, mm_kd_pi, mm_ln_pi, mm_gl_pi, mm_gr_pi, mm_sz_pi, mm_gi_pi, mm_kd_pl, mm_ln_pl, mm_gi_pl, mm_gr_pl, mm_sz_pl, mm_gl_pl, mm_kd_pr, mm_ln_pr, mm_gi_pr, mm_gl_pr, mm_sz_pr, mm_gr_pr, mm_kd_pa, mm_ln_pa, mm_gl_pa, mm_gr_pa, mm_sz_pa, mm_gi_pa, W_kd_91 H, W_s_91 H, W_gr_91_2 H, W_gr_91_3 H, W_gr_91_4 H, W_gr_91_5 H, W_gr_91_6 H, W_gr_91_7 H, W_gr_91_9 H, W_gr_91_10 H, W_gr_91_12 H, W_gr_91_22 H, W_gr_91_24 H, W_gr_91_25 H, W_gr_91_27 H, W_gr_91_28 H, W_gr_91_31 H, W_gr_91_32 H, W_gr_91_33 H, W_gr_91_35 H, W_gr_91_36 H, W_gr_91_37 H, W_gr_91_41 H, W_gr_91_42 H, W_gr_91_43 H, W_gr_91_44 H, W_gr_91_45 H, W_gr_91_46 H, W_gr_91_47 H, W_gr_91_48 H, W_gr_91_49 H, W_gr_91_55 H, T3, show (nI (tkk n t p) = 2) = False from eq_false (fun v => z ((nI_eq (b := 2) (by omega) (by decide)).mp v))]
    exact no _ (fun v => z v.1)
theorem ms_emit {op : Nat} {a : Int32} (M : MS o n t h p c pl y J) (hy : y + pl.length < 400) (k : ∀ g, fx xMd yMd h g → mm_gi g 91 19 = mm_gi h 91 19 → mm_gi g 91 18 = mm_gi h 91 18 → MS o n t g p c pl (y + 1) (ju J y (op, a)) → K none g) : mm_MV q_X10_emit d (0, 0) [.ref 91, .int (nI op), .int a] h K := by
  have H := M.1.1
  have C4 := M.2.2.1.2.1
  obtain ⟨g1, eg1⟩ : ∃ g1 : mmH, g1 = mm_pi h 102 y (nI op) := ⟨_, rfl⟩
  obtain ⟨g2, eg2⟩ : ∃ g2 : mmH, g2 = mm_pi g1 103 y a := ⟨_, rfl⟩
  have F1 : fx xMd yMd h g1 := by rw [eg1]; exact fx_pi (by unfold xMd; omega) fx_rf
  have F2 : fx xMd yMd h g2 := by rw [eg2]; exact fx_pi (by unfold xMd; omega) F1
  have H1 := fx_WS F1 H
  have H2 := fx_WS F2 H
  have C41 : mm_gi g1 91 23 = nI y := by rw [eg1, mm_gi_pi, if_neg (by omega)]; exact C4
  have C42 : mm_gi g2 91 23 = nI y := by rw [eg2, mm_gi_pi, if_neg (by omega)]; exact C41
  refine e_X10_emit (t_X10_emit_0 _ _ _ ?_)
  simp only [s_iadd, s_isub, s_imul, s_iand, s_ior, s_ixor, s_ishl, s_ishr, s_iushr, s_idiv, s_irem, s_ladd, s_lsub, s_lmul, s_ldiv, s_lrem, s_ineg, s_i2l, s_l2i, s_i2c, s_lcmp, s_ic, s_lc, s_nul, s_str, s_il, s_ll, s_al, s_dup, s_dup2, s_pop, s_ifne, s_icne, s_ifeq, s_iflt, s_ifge, s_ifgt, s_ifle, s_iceq, s_iclt, s_icge, s_icgt, s_icle, s_ifnull, s_ifnonnull, s_is, s_ls, s_as, s_ii, s_gi, s_gl, s_gr, s_pi, s_pz, s_pl, s_pr, s_iald, s_zald, s_lald, s_aald, s_alen, s_iast, s_zast, s_last, s_iret, s_zret, s_lret, s_aret, s_vret, s_sw, s_aast, mm_sw, mm_ld, mm_s1, mm_s2, mm_kl, Value.category, va_rf, List.nil_append, List.cons_append, Option.toList, true_and, and_true, and_self, true_or, or_true, eq_self, not_true_eq_false, false_implies, true_implies, not_false_eq_true, mm_10, mm_01, false_or, or_false, Nat.left_eq_add, Nat.add_eq_left, Nat.add_left_cancel_iff, Nat.reduceEqDiff, false_and, and_false, reduceIte, mm_kd_pi, mm_ln_pi, mm_gl_pi, mm_gr_pi, mm_sz_pi, mm_gi_pi, mm_kd_pl, mm_ln_pl, mm_gi_pl, mm_gr_pl, mm_sz_pl, mm_gl_pl, mm_kd_pr, mm_ln_pr, mm_gi_pr, mm_gl_pr, mm_sz_pr, mm_gr_pr, mm_kd_pa, mm_ln_pa, mm_gl_pa, mm_gr_pa, mm_sz_pa, mm_gi_pa, W_kd_91 H, W_s_91 H, W_gr_91_2 H, W_gr_91_3 H, W_gr_91_4 H, W_gr_91_5 H, W_gr_91_6 H, W_gr_91_7 H, W_gr_91_9 H, W_gr_91_10 H, W_gr_91_12 H, W_gr_91_22 H, W_gr_91_24 H, W_gr_91_25 H, W_gr_91_27 H, W_gr_91_28 H, W_gr_91_31 H, W_gr_91_32 H, W_gr_91_33 H, W_gr_91_35 H, W_gr_91_36 H, W_gr_91_37 H, W_gr_91_41 H, W_gr_91_42 H, W_gr_91_43 H, W_gr_91_44 H, W_gr_91_45 H, W_gr_91_46 H, W_gr_91_47 H, W_gr_91_48 H, W_gr_91_49 H, W_gr_91_55 H, W_kd_102 H, W_s_102 H, W_ln_102 H, C4, nI_clamp (show y < 2 ^ 31 by omega), vp_in_nI (show y < 400 by omega) (show 400 < 2 ^ 31 by decide), ← eg1, C41, W_kd_91 H1, W_s_91 H1, W_gr_91_2 H1, W_gr_91_3 H1, W_gr_91_4 H1, W_gr_91_5 H1, W_gr_91_6 H1, W_gr_91_7 H1, W_gr_91_9 H1, W_gr_91_10 H1, W_gr_91_12 H1, W_gr_91_22 H1, W_gr_91_24 H1, W_gr_91_25 H1, W_gr_91_27 H1, W_gr_91_28 H1, W_gr_91_31 H1, W_gr_91_32 H1, W_gr_91_33 H1, W_gr_91_35 H1, W_gr_91_36 H1, W_gr_91_37 H1, W_gr_91_41 H1, W_gr_91_42 H1, W_gr_91_43 H1, W_gr_91_44 H1, W_gr_91_45 H1, W_gr_91_46 H1, W_gr_91_47 H1, W_gr_91_48 H1, W_gr_91_49 H1, W_gr_91_55 H1, W_kd_103 H1, W_s_103 H1, W_ln_103 H1, ← eg2, C42, W_kd_91 H2, W_s_91 H2, W_gr_91_2 H2, W_gr_91_3 H2, W_gr_91_4 H2, W_gr_91_5 H2, W_gr_91_6 H2, W_gr_91_7 H2, W_gr_91_9 H2, W_gr_91_10 H2, W_gr_91_12 H2, W_gr_91_22 H2, W_gr_91_24 H2, W_gr_91_25 H2, W_gr_91_27 H2, W_gr_91_28 H2, W_gr_91_31 H2, W_gr_91_32 H2, W_gr_91_33 H2, W_gr_91_35 H2, W_gr_91_36 H2, W_gr_91_37 H2, W_gr_91_41 H2, W_gr_91_42 H2, W_gr_91_43 H2, W_gr_91_44 H2, W_gr_91_45 H2, W_gr_91_46 H2, W_gr_91_47 H2, W_gr_91_48 H2, W_gr_91_49 H2, W_gr_91_55 H2, nI_1]
  have F3 : fx xMd yMd h (mm_pi g2 91 23 (nI (y + 1))) := fx_pi (by unfold xMd; omega) F2
  have e : ∀ c j, ¬ (c = 102 ∨ c = 103 ∨ (c = 91 ∧ j = 23)) → mm_gi (mm_pi g2 91 23 (nI (y + 1))) c j = mm_gi h c j := fun c j q => by rw [mm_gi_pi, if_neg (by omega), eg2, mm_gi_pi, if_neg (by omega), eg1, mm_gi_pi, if_neg (by omega)]
  refine k _ F3 (e 91 19 (by omega)) (e 91 18 (by omega)) (MS_of M F3 (TKm_cg (fun j hj => e 91 j (by omega)) (by rw [mm_gl_pi, eg2, mm_gl_pi, eg1, mm_gl_pi]) M.1.2.2.1) ⟨M.2.1.1, fl_cg (e 91 19 (by omega)) (e 91 18 (by omega)) M.2.1.2.1, M.2.1.2.2.1, by omega, M.2.1.2.2.2.2⟩ ⟨by rw [mm_gi_pi, if_pos ⟨rfl, rfl⟩], ?_⟩ ⟨PLe_cg (fun k _ => ⟨e 104 k (by omega), e 105 k (by omega)⟩) M.2.2.2.1.1, M.2.2.2.1.2⟩ (fun i hi => ?_))
  · rw [e 91 26 (by omega), e 91 29 (by omega), e 91 30 (by omega)]
    exact M.2.2.1.2.2
  · by_cases q : i = y
    · subst q
      rw [ju_eq, mm_gi_pi, if_neg (by omega), eg2, mm_gi_pi, if_neg (by omega), eg1, mm_gi_pi, if_pos ⟨rfl, rfl⟩, mm_gi_pi, if_neg (by omega), mm_gi_pi, if_pos ⟨rfl, rfl⟩]
      exact ⟨rfl, rfl⟩
    · rw [ju_ne q, mm_gi_pi, if_neg (by omega), eg2, mm_gi_pi, if_neg (by omega), eg1, mm_gi_pi, if_neg (by omega), mm_gi_pi, if_neg (by omega), mm_gi_pi, if_neg (by omega), mm_gi_pi, if_neg (by omega)]
      exact M.2.2.2.2 i (by omega)
/-- a push, as it is written -/
theorem sp_push {L : Nat} {op at' : Int32} (H : WS h) (hL : L < 400) (eL : mm_gi h 91 29 = nI L) (k : K none (mm_pi (mm_pi (mm_pi h 104 L op) 105 L at') 91 29 (nI (L + 1)))) : mm_MV q_X10_push d (0, 0) [.ref 91, .int op, .int at'] h K := by
  obtain ⟨g1, eg1⟩ : ∃ g1 : mmH, g1 = mm_pi h 104 L op := ⟨_, rfl⟩
  obtain ⟨g2, eg2⟩ : ∃ g2 : mmH, g2 = mm_pi g1 105 L at' := ⟨_, rfl⟩
  have F1 : fx xMd yMd h g1 := by rw [eg1]; exact fx_pi (by unfold xMd; omega) fx_rf
  have F2 : fx xMd yMd h g2 := by rw [eg2]; exact fx_pi (by unfold xMd; omega) F1
  have H1 := fx_WS F1 H
  have H2 := fx_WS F2 H
  have C41 : mm_gi g1 91 29 = nI L := by rw [eg1, mm_gi_pi, if_neg (by omega)]; exact eL
  have C42 : mm_gi g2 91 29 = nI L := by rw [eg2, mm_gi_pi, if_neg (by omega)]; exact C41
  refine e_X10_push (t_X10_push_0 _ _ _ ?_)
  simp only [s_iadd, s_isub, s_imul, s_iand, s_ior, s_ixor, s_ishl, s_ishr, s_iushr, s_idiv, s_irem, s_ladd, s_lsub, s_lmul, s_ldiv, s_lrem, s_ineg, s_i2l, s_l2i, s_i2c, s_lcmp, s_ic, s_lc, s_nul, s_str, s_il, s_ll, s_al, s_dup, s_dup2, s_pop, s_ifne, s_icne, s_ifeq, s_iflt, s_ifge, s_ifgt, s_ifle, s_iceq, s_iclt, s_icge, s_icgt, s_icle, s_ifnull, s_ifnonnull, s_is, s_ls, s_as, s_ii, s_gi, s_gl, s_gr, s_pi, s_pz, s_pl, s_pr, s_iald, s_zald, s_lald, s_aald, s_alen, s_iast, s_zast, s_last, s_iret, s_zret, s_lret, s_aret, s_vret, s_sw, s_aast, mm_sw, mm_ld, mm_s1, mm_s2, mm_kl, Value.category, va_rf, List.nil_append, List.cons_append, Option.toList, true_and, and_true, and_self, true_or, or_true, eq_self, not_true_eq_false, false_implies, true_implies, not_false_eq_true, mm_10, mm_01, false_or, or_false, Nat.left_eq_add, Nat.add_eq_left, Nat.add_left_cancel_iff, Nat.reduceEqDiff, false_and, and_false, reduceIte, mm_kd_pi, mm_ln_pi, mm_gl_pi, mm_gr_pi, mm_sz_pi, mm_gi_pi, mm_kd_pl, mm_ln_pl, mm_gi_pl, mm_gr_pl, mm_sz_pl, mm_gl_pl, mm_kd_pr, mm_ln_pr, mm_gi_pr, mm_gl_pr, mm_sz_pr, mm_gr_pr, mm_kd_pa, mm_ln_pa, mm_gl_pa, mm_gr_pa, mm_sz_pa, mm_gi_pa, W_kd_91 H, W_s_91 H, W_gr_91_2 H, W_gr_91_3 H, W_gr_91_4 H, W_gr_91_5 H, W_gr_91_6 H, W_gr_91_7 H, W_gr_91_9 H, W_gr_91_10 H, W_gr_91_12 H, W_gr_91_22 H, W_gr_91_24 H, W_gr_91_25 H, W_gr_91_27 H, W_gr_91_28 H, W_gr_91_31 H, W_gr_91_32 H, W_gr_91_33 H, W_gr_91_35 H, W_gr_91_36 H, W_gr_91_37 H, W_gr_91_41 H, W_gr_91_42 H, W_gr_91_43 H, W_gr_91_44 H, W_gr_91_45 H, W_gr_91_46 H, W_gr_91_47 H, W_gr_91_48 H, W_gr_91_49 H, W_gr_91_55 H, W_kd_104 H, W_s_104 H, W_ln_104 H, eL, nI_clamp (show L < 2 ^ 31 by omega), vp_in_nI hL (show 400 < 2 ^ 31 by decide), ← eg1, C41, W_kd_91 H1, W_s_91 H1, W_gr_91_2 H1, W_gr_91_3 H1, W_gr_91_4 H1, W_gr_91_5 H1, W_gr_91_6 H1, W_gr_91_7 H1, W_gr_91_9 H1, W_gr_91_10 H1, W_gr_91_12 H1, W_gr_91_22 H1, W_gr_91_24 H1, W_gr_91_25 H1, W_gr_91_27 H1, W_gr_91_28 H1, W_gr_91_31 H1, W_gr_91_32 H1, W_gr_91_33 H1, W_gr_91_35 H1, W_gr_91_36 H1, W_gr_91_37 H1, W_gr_91_41 H1, W_gr_91_42 H1, W_gr_91_43 H1, W_gr_91_44 H1, W_gr_91_45 H1, W_gr_91_46 H1, W_gr_91_47 H1, W_gr_91_48 H1, W_gr_91_49 H1, W_gr_91_55 H1, W_kd_105 H1, W_s_105 H1, W_ln_105 H1, ← eg2, C42, W_kd_91 H2, W_s_91 H2, W_gr_91_2 H2, W_gr_91_3 H2, W_gr_91_4 H2, W_gr_91_5 H2, W_gr_91_6 H2, W_gr_91_7 H2, W_gr_91_9 H2, W_gr_91_10 H2, W_gr_91_12 H2, W_gr_91_22 H2, W_gr_91_24 H2, W_gr_91_25 H2, W_gr_91_27 H2, W_gr_91_28 H2, W_gr_91_31 H2, W_gr_91_32 H2, W_gr_91_33 H2, W_gr_91_35 H2, W_gr_91_36 H2, W_gr_91_37 H2, W_gr_91_41 H2, W_gr_91_42 H2, W_gr_91_43 H2, W_gr_91_44 H2, W_gr_91_45 H2, W_gr_91_46 H2, W_gr_91_47 H2, W_gr_91_48 H2, W_gr_91_49 H2, W_gr_91_55 H2, nI_1]
  rw [← eg1, ← eg2] at k
  exact k
theorem ms_push {op a : Nat} (M : MS o n t h p c pl y J) (hy : y + pl.length < 400) (ho : 20 ≤ op ∧ op ≤ 30) (ha : a < 400) (k : ∀ g, fx xMd yMd h g → mm_gi g 91 19 = mm_gi h 91 19 → mm_gi g 91 18 = mm_gi h 91 18 → MS o n t g p c ((op, a) :: pl) y J → K none g) : mm_MV q_X10_push d (0, 0) [.ref 91, .int (nI op), .int (nI a)] h K := by
  have H := M.1.1
  refine sp_push H (show pl.length < 400 by omega) M.2.2.1.2.2.2.1 ?_
  have F : fx xMd yMd h (mm_pi (mm_pi (mm_pi h 104 pl.length (nI op)) 105 pl.length (nI a)) 91 29 (nI (pl.length + 1))) := fx_pi (by unfold xMd; omega) (fx_pi (by unfold xMd; omega) (fx_pi (by unfold xMd; omega) fx_rf))
  have e : ∀ c j, ¬ (c = 104 ∧ j = pl.length) → ¬ (c = 105 ∧ j = pl.length) → ¬ (c = 91 ∧ j = 29) → mm_gi (mm_pi (mm_pi (mm_pi h 104 pl.length (nI op)) 105 pl.length (nI a)) 91 29 (nI (pl.length + 1))) c j = mm_gi h c j := fun c j q1 q2 q3 => by rw [mm_gi_pi, if_neg (by omega), mm_gi_pi, if_neg (by omega), mm_gi_pi, if_neg (by omega)]
  have b := M.2.1
  refine k _ F (e 91 19 (by omega) (by omega) (by omega)) (e 91 18 (by omega) (by omega) (by omega)) (MS_of M F (TKm_cg (fun j hj => e 91 j (by omega) (by omega) (by omega)) (by rw [mm_gl_pi, mm_gl_pi, mm_gl_pi]) M.1.2.2.1) ⟨b.1, fl_cg (e 91 19 (by omega) (by omega) (by omega)) (e 91 18 (by omega) (by omega) (by omega)) b.2.1, b.2.2.1, by rw [List.length_cons]; omega, ?_⟩ ⟨?_, ?_, ?_, ?_⟩ ⟨⟨⟨?_, ?_⟩, PLe_cg (fun k hk => ⟨e 104 k (by omega) (by omega) (by omega), e 105 k (by omega) (by omega) (by omega)⟩) M.2.2.2.1.1⟩, fun x hx => ?_⟩ (fun i hi => ?_))
  · show (if 31 ≤ op then 1 else 0) + nb pl ≤ 8
    rw [if_neg (by omega)]
    omega
  · rw [e 91 23 (by omega) (by omega) (by omega)]; exact M.2.2.1.2.1
  · rw [e 91 26 (by omega) (by omega) (by omega)]; exact M.2.2.1.2.2.1
  · rw [mm_gi_pi, if_pos ⟨rfl, rfl⟩]; rfl
  · rw [e 91 30 (by omega) (by omega) (by omega), M.2.2.1.2.2.2.2]
    show nI (nb pl) = nI ((if 31 ≤ op then 1 else 0) + nb pl)
    rw [if_neg (by omega), Nat.zero_add]
  · rw [mm_gi_pi, if_neg (by omega), mm_gi_pi, if_neg (by omega), mm_gi_pi, if_pos ⟨rfl, rfl⟩]
  · rw [mm_gi_pi, if_neg (by omega), mm_gi_pi, if_pos ⟨rfl, rfl⟩]
  · rcases List.mem_cons.mp hx with rfl | hx
    · exact ⟨ho.1, by show op ≤ 32; omega, ha⟩
    · exact M.2.2.2.1.2 x hx
  · rw [e 102 i (by omega) (by omega) (by omega), e 103 i (by omega) (by omega) (by omega)]
    exact M.2.2.2.2 i hi
end
