/-! law: the class, and both together -/
/-- what a text may move in the heap's old cells -/
def xTx (W c j : Nat) : Prop := xRt c j ∨ (c = 54 ∧ j = 1) ∨ (c = 4 ∧ j = 14) ∨ (c = 0 ∧ (j = 12 ∨ j = 13)) ∨ xLw W c j ∨ (c = 91 ∧ (j = 1 ∨ j = 52)) ∨ c = 90 ∨ c = 92
/-- the heap may have grown; the row of laws may hold one more -/
def GR (W : Nat) (h g : mmH) : Prop := mm_sz h ≤ mm_sz g ∧ (∀ c, c < mm_sz h → mm_kd g c = mm_kd h c ∧ mm_ln g c = mm_ln h c) ∧ (∀ c j, c < mm_sz h → ¬ (c = 14 ∧ j = W) → mm_gr g c j = mm_gr h c j) ∧ (∀ c j, c < mm_sz h → ¬ xTx W c j → mm_gi g c j = mm_gi h c j) ∧ ∀ c, c < mm_sz h → c ≠ 91 → ∀ j, mm_gl g c j = mm_gl h c j
section
variable {d : Nat} {h g k : mmH} {K : Option Value → mmH → Prop} {n : Nat} {t : Nat → Nat} {W : Nat}
theorem GR_tr (a : GR W h g) (b : GR W g k) : GR W h k := by
  obtain ⟨a1, a2, a3, a4, a5⟩ := a
  obtain ⟨b1, b2, b3, b4, b5⟩ := b
  exact ⟨by omega, fun c hc => ⟨(b2 c (by omega)).1.trans (a2 c hc).1, (b2 c (by omega)).2.trans (a2 c hc).2⟩, fun c j hc q => (b3 c j (by omega) q).trans (a3 c j hc q), fun c j hc q => (b4 c j (by omega) q).trans (a4 c j hc q), fun c hc q j => (b5 c (by omega) q j).trans (a5 c hc q j)⟩
theorem GR_fx {X : Nat → Nat → Prop} {Y : Nat → Prop} (F : fx X Y h g) (hX : ∀ c j, X c j → xTx W c j) (hY : ∀ c, Y c → c = 91) : GR W h g := by
  obtain ⟨⟨f1, f2, f3, f4⟩, f5, f6, f7⟩ := F
  refine ⟨by rw [f4]; exact Nat.le_refl _, fun c _ => by rw [f1, f2]; exact ⟨rfl, rfl⟩, fun c j _ _ => by rw [f3], fun c j _ q => f5 c j (fun z => q (hX c j z)), fun c _ q j => by rw [f6 c (fun z => q (hY c z))]⟩
theorem GR_WS (a : GR W h g) (H : WS h) : WS g := by
  obtain ⟨a1, a2, a3, a4, a5⟩ := a
  refine ⟨Nat.le_trans H.1 a1, fun i hi => ?_, fun q hq => ?_⟩
  · rw [(a2 i (Nat.lt_of_lt_of_le hi H.1)).1, (a2 i (Nat.lt_of_lt_of_le hi H.1)).2]
    exact H.2.1 i hi
  · have lt : ∀ q ∈ rT, q.1 < 122 ∧ q.1 ≠ 14 := by decide +kernel
    have := lt q hq
    rw [a3 q.1 q.2.1 (Nat.lt_of_lt_of_le this.1 H.1) (fun z => this.2 z.1)]
    exact H.2.2 q hq
theorem Inv_grow {S' : HSt} (hI : Inv LRw h) (a : GR W h g) (hmisc : I_misc g) (htape : I_tape g) (e20 : mm_gi g 91 20 = 0) (v : HV S') (hc : HC g 4 S') (hm : HM (mm_gi g 93) 0 S') (hl : HLw LRw g 4 (mm_gi g 93) 0 (S' 0 3)) (ht : I_trail g S') : Inv LRw g := by
  obtain ⟨hw, -, -, -, i0, i1, sc, ⟨lr1, lr2⟩, c1, c2, c3, c4, c5, c6⟩ := hI
  have Hg := GR_WS a hw
  obtain ⟨a1, a2, a3, a4, a5⟩ := a
  have lt : ∀ c, c < 122 → c < mm_sz h := fun c hc => Nat.lt_of_lt_of_le hc hw.1
  have big : ∀ c, 122 ≤ c → c < mm_sz h → mm_kd g c = mm_kd h c ∧ mm_ln g c = mm_ln h c ∧ (∀ j, mm_gi g c j = mm_gi h c j) ∧ ∀ j, mm_gr g c j = mm_gr h c j := fun c c1 c2 => ⟨(a2 c c2).1, (a2 c c2).2, fun j => a4 c j c2 (by unfold xTx xRt xLw xMw xMt xMd xRw; omega), fun j => a3 c j c2 (by omega)⟩
  have ei : ∀ c j, c < 122 → ¬ xTx W c j → mm_gi g c j = mm_gi h c j := fun c j hc q => a4 c j (lt c hc) q
  have ref : ∀ b, b + 10 < 122 → b + 10 ≠ 14 → (∀ w, w < 6 → ∀ t, mm_gr h (b + 10) w = some t → 122 ≤ t ∧ mm_kd h t = 6 ∧ t < mm_sz h) → ∀ w, w < 6 → ∀ t, mm_gr g (b + 10) w = some t → 122 ≤ t ∧ mm_kd g t = 6 ∧ t < mm_sz g := by
    intro b b1 b2 H w hw6 t ht
    rw [a3 _ _ (lt _ b1) (fun z => b2 z.1)] at ht
    obtain ⟨q1, q2, q3⟩ := H w hw6 t ht
    exact ⟨q1, by rw [(a2 t q3).1]; exact q2, by omega⟩
  have img : ∀ k b, b = 27 ∨ b = 38 → I_img LRw h k b → I_img LRw g k b := by
    intro k b hb H
    refine ⟨ref b (by omega) (by omega) H.1, ?_⟩
    rw [ei 49 k (by decide) (by unfold xTx xRt xLw xMw xMt xMd xRw; omega), ei 95 k (by decide) (by unfold xTx xRt xLw xMw xMt xMd xRw; omega)]
    rcases H.2 with z | ⟨z1, z2, S, v, c, m, lw⟩
    · exact Or.inl z
    · have ef : mm_gi g 94 = mm_gi h 94 := funext fun j => ei 94 j (by decide) (by unfold xTx xRt xLw xMw xMt xMd xRw; omega)
      refine Or.inr ⟨z1, z2, S, v, HC_cg (fun c j q1 q2 => ei c j (by omega) (by unfold xTx xRt xLw xMw xMt xMd xRw; omega)) c, by rw [ef]; exact m, ?_⟩
      exact HLw_cp FRw v.1.2.2.2.1 big a1 (fun w _ => a3 _ _ (lt _ (by omega)) (by omega)) (fun j _ _ => by rw [ef]) lw
  refine ⟨Hg, hmisc, htape, ⟨S', v, hc, hm, hl, ht⟩, img 0 27 (Or.inl rfl) i0, img 1 38 (Or.inr rfl) i1, ?_, ⟨ref 15 (by decide) (by decide) lr1, ref 79 (by decide) (by decide) lr2⟩, ?_, ?_, ?_, ?_, ?_, e20⟩
  · obtain ⟨c, q1, q2, q3, q4⟩ := sc
    refine ⟨c, q1, (ei 79 6 (by decide) (by unfold xTx xRt xLw xMw xMt xMd xRw; omega)).trans q2, ?_, fun i hi => ?_⟩
    · rw [ei 91 56 (by decide) (by unfold xTx xRt xLw xMw xMt xMd xRw; omega)]; exact q3
    · rw [ei 83 i (by decide) (by unfold xTx xRt xLw xMw xMt xMd xRw; omega), ei 85 i (by decide) (by unfold xTx xRt xLw xMw xMt xMd xRw; omega), ei 121 i (by decide) (by unfold xTx xRt xLw xMw xMt xMd xRw; omega), ei 121 (6 + i) (by decide) (by unfold xTx xRt xLw xMw xMt xMd xRw; omega)]
      exact q4 i hi
  · intro k hk; rw [a5 106 (lt _ (by decide)) (by decide)]; exact c1 k hk
  · intro k hk; rw [a5 107 (lt _ (by decide)) (by decide)]; exact c2 k hk
  · intro k hk; rw [a5 108 (lt _ (by decide)) (by decide)]; exact c3 k hk
  · intro k hk; rw [a5 118 (lt _ (by decide)) (by decide)]; exact c4 k hk
  · intro k hk; rw [a5 119 (lt _ (by decide)) (by decide)]; exact c5 k hk
/-- the tape of both -/
theorem tape_of (H : I_tape h) : ∃ n t, TPE h n t ∧ TPM h n t := by
  obtain ⟨n, n4, e1, e2, D⟩ := H
  refine ⟨n, fun i => (mm_gi h 55 i).toNatClampNeg, ⟨n4, e1, fun i hi => ?_⟩, ⟨n4, e2, fun i hi => ?_⟩⟩
  · obtain ⟨v, v2, q1, q2⟩ := D i hi
    show (mm_gi h 55 i).toNatClampNeg < 256 ∧ _ = nI (mm_gi h 55 i).toNatClampNeg
    rw [q1, nI_clamp (by omega)]
    exact ⟨v2, rfl⟩
  · obtain ⟨v, v2, q1, q2⟩ := D i hi
    show (mm_gi h 55 i).toNatClampNeg < 256 ∧ mm_gi h 100 i = nI (mm_gi h 55 i).toNatClampNeg
    rw [q1, nI_clamp (by omega)]
    exact ⟨v2, q2⟩
theorem KW_of (H : consts h) : KW h := ⟨H.1, H.2.1, H.2.2.1, H.2.2.2.1, H.2.2.2.2.1⟩
/-- the class's text at a room of its own is the law -/
theorem clw_of {N z T : Nat} {I : xIn} {cl : Nat → cDt} {p c : Nat} (C : CTx false n t h p c z I N cl) (wf : ∀ j, j < N → (cl j).1 = 0 → ∃ D, (cl j).2.1 = some D) (hx : txS k T N z) (h4 : 4 ≤ T) (e0 : mm_gi k T 0 = nI N) (e6 : mm_gi k T 6 = nI z) (ec : ∀ i, i < 7 → ∀ j, j < lnT N z i → mm_gi k (T + 1 + i) j = mm_gi h (59 + i) j) : CLW k T (lwOf N cl) ∧ ∀ i, i < N → xT 10 ((lwOf N cl).2.2.1 i) := by
  obtain ⟨⟨_, _, ⟨_, _, _, z4⟩, _, _, _, _, D⟩, _, ⟨_, N12⟩, Q⟩ := C
  have w : ∀ i, i < 5 → ∀ j, j < N → mm_gi k (T + 1 + i) j = mm_gi h (59 + i) j := fun i hi j hj => ec i (by omega) j (by unfold lnT; rw [if_pos hi]; exact hj)
  have w1 : ∀ j, j < N → mm_gi k (T + 1) j = mm_gi h 59 j := fun j hj => w 0 (by decide) j hj
  have w2 : ∀ j, j < N → mm_gi k (T + 2) j = mm_gi h 60 j := fun j hj => w 1 (by decide) j hj
  have w5 : ∀ j, j < N → mm_gi k (T + 5) j = mm_gi h 63 j := fun j hj => w 4 (by decide) j hj
  have w6 : ∀ j, j < z → mm_gi k (T + 6) j = mm_gi h 64 j := fun j hj => ec 5 (by decide) j (by unfold lnT; rw [if_neg (by decide)]; exact hj)
  have w7 : ∀ j, j < z → mm_gi k (T + 7) j = mm_gi h 65 j := fun j hj => ec 6 (by decide) j (by unfold lnT; rw [if_neg (by decide)]; exact hj)
  refine ⟨⟨N, z, z, I, ⟨hx, h4, e6, Nat.le_refl _, z4, fun i hi => ?_⟩, e0, Nat.le_refl _, N12, fun i hi => ?_⟩, fun i hi => ?_⟩
  · have := D i hi
    unfold cde at this ⊢
    rw [w6 i hi, w7 i hi]
    exact this
  · have hi : i < N := hi
    obtain ⟨q1, q2, q3, q4, q5, q6⟩ := Q i hi
    rw [w1 i hi, w2 i hi, w5 i hi]
    refine ⟨q1, ?_, fun zz => ?_⟩
    · show (_ ∧ (match (cl i).2.2.2.2 with | none => fun _ => some 1 | some D => D) = _) ∨ cEx 10 z I _ (match (cl i).2.2.2.2 with | none => fun _ => some 1 | some D => D)
      cases e : (cl i).2.2.2.2 with
      | none => exact Or.inl ⟨q5 e, rfl⟩
      | some D => exact Or.inr (q6 D e).1
    · obtain ⟨D, e⟩ := wf i hi zz
      show cEx 10 z I _ (match (cl i).2.1 with | none => fun _ => none | some D => D)
      rw [e]
      exact q2 D e
  · obtain ⟨q1, q2, q3, q4, q5, q6⟩ := Q i hi
    show xT 10 (match (cl i).2.2.2.2 with | none => fun _ => some 1 | some D => D)
    cases e : (cl i).2.2.2.2 with
    | none =>
      intro E hE x hx
      cases hx
      exact Or.inr rfl
    | some D => exact (q6 D e).2
end
