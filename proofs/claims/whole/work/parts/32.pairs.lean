theorem mm_pi_id (h : mmH) (a k : Nat) : mm_pi h a k (mm_gi h a k) = h := by
  rw [mm_pi_pa]
  have : upd (mm_gi h a) k (mm_gi h a k) = mm_gi h a := by funext j; by_cases hj : j = k <;> simp [upd, hj]
  rw [this, mm_pa_id]
def upS (S : HSt) (i j v : Nat) : HSt := fun a b => if a = i ∧ b = j then v else S a b
section
variable {LR : mmH → Nat → (Nat → Int32) → Nat → Prop}
/-- a refusal on both sides -/
theorem Inv_rf (FR : LRf LR) {h : mmH} {r : Int32} {p p' : Nat} (hp : (p, p') ∈ [(0, 1), (1, 2), (2, 3), (3, 5), (4, 6)]) (hI : Inv LR h) : Inv LR (tlH (mm_pi (rfH h r p) 91 0 0) r p') := by
  refine Inv_m (h := h) FR ⟨rfl, rfl, rfl, rfl, rfl⟩ hI ?_ (fun c j c1 c2 c3 c4 => ?_)
  · obtain ⟨⟨a1, a2, a3, a4⟩, a5, a6, a7, a8, a9⟩ := hI.2.1
    simp only [List.mem_cons, Prod.mk.injEq, List.not_mem_nil, or_false] at hp
    rcases hp with ⟨rfl, rfl⟩ | ⟨rfl, rfl⟩ | ⟨rfl, rfl⟩ | ⟨rfl, rfl⟩ | ⟨rfl, rfl⟩ <;> simp [I_misc, tlH, rfH, mm_gi_pi, a1, a2, a3, a4, a5, a6, a7, a8, a9]
  · unfold tlH rfH
    rw [mm_gi_pi, if_neg (fun z => c3 z.1), mm_gi_pi, if_neg (fun z => (c4 z.1).2 z.2), mm_gi_pi, if_neg (fun z => (c4 z.1).1 z.2), mm_gi_pi, if_neg (fun z => c2 z.1), mm_gi_pi, if_neg (fun z => c1 z.1)]
theorem no_pr {h : mmH} {q : mmM} {as : List Value} {r : Int32} {g : mmH} (H : WS g) (k : mm_MV q 1000 (0, 0) as g (fun v' h2 => v' = some (.int r) ∧ Inv LR h2)) : (mm_kd g 91 = 10 ∧ 91 < mm_sz g) ∧ mm_MV q 1000 (0, 0) as g (fun v' h2 => (∃ r' : Int32, some (Value.int r) = some (Value.int r') ∧ v' = some (.int r')) ∧ Inv LR h2) := ⟨⟨W_kd_91 H, W_s_91 H⟩, mm_MV.mono (fun v' h2 z => ⟨⟨r, rfl, z.1⟩, z.2⟩) k⟩
def LetFx (h g : mmH) (L : Nat) (j1 j2 j3 : Nat) : Prop := same5 h g ∧ (∀ c j, c ≠ 0 → c ≠ 4 → c ≠ 5 → c ≠ 6 → c ≠ 7 → c ≠ 50 → c ≠ 91 → c ≠ 93 → mm_gi g c j = mm_gi h c j) ∧ (∀ j, j ≠ 0 → j ≠ 1 → j ≠ 8 → mm_gi g 91 j = mm_gi h 91 j) ∧ (∀ j, mm_gi g 93 j = if j = 0 then nI (L + 1) else if j = 20 + L then 0 else if j = 44 + L then nI j3 else if j = 36 + L then nI j2 else if j = 28 + L then nI j1 else mm_gi h 93 j) ∧ (I_misc h → I_misc g) ∧ (∀ j, j ≠ 1 → mm_gi g 4 j = mm_gi h 4 j) ∧ mm_gi g 4 1 = nI (L + 1) ∧ (∀ j, mm_gi g 5 j = if j = L then nI j1 else mm_gi h 5 j) ∧ (∀ j, mm_gi g 6 j = if j = L then nI j2 else mm_gi h 6 j) ∧ (∀ j, mm_gi g 7 j = if j = L then nI j3 else mm_gi h 7 j) ∧ mm_gi g 50 1 = nI 0 ∧ mm_gi g 91 8 = nI 0
theorem letFx (h : mmH) (L j1 j2 j3 : Nat) : LetFx h (mm_pi (mm_pi (comeH (mm_pi (acH (addL (mm_pi h 50 1 0) 4 L (nI j1) (nI j2) (nI j3))) 91 0 0) L (nI j1) (nI j2) (nI j3)) 91 8 0) 91 1 0) L j1 j2 j3 := by
  refine ⟨?_, ?_, ?_, ?_, ?_, ?_, ?_, ?_, ?_, ?_, ?_, ?_⟩
  · refine ⟨?_, ?_, ?_, ?_, ?_⟩ <;> simp only [comeH, acH, addL, mm_kd_pi, mm_ln_pi, mm_gl_pi, mm_gr_pi, mm_sz_pi]
  · intro c j a1 a2 a3 a4 a5 a6 a7 a8
    simp only [comeH, acH, addL, mm_gi_pi, a1, a2, a3, a4, a5, a6, a7, a8, false_and, if_false]
  · intro j a1 a2 a3
    simp [comeH, acH, addL, mm_gi_pi, a1, a2, a3]
  · intro j
    simp [comeH, acH, addL, mm_gi_pi]
  · rintro ⟨⟨a1, a2, a3, a4⟩, a5, a6, a7, a8, a9⟩
    simp [I_misc, comeH, acH, addL, mm_gi_pi, a2, a3, a4, a5, a6, a7, a8, a9]
  · intro j a1
    simp [comeH, acH, addL, mm_gi_pi, a1]
  · simp [comeH, acH, addL, mm_gi_pi]
  · intro j; simp [comeH, acH, addL, mm_gi_pi]
  · intro j; simp [comeH, acH, addL, mm_gi_pi]
  · intro j; simp [comeH, acH, addL, mm_gi_pi]
  · simp [comeH, acH, addL, mm_gi_pi]; rfl
  · simp [mm_gi_pi]; rfl
theorem Inv_let (FR : LRf LR) {h g : mmH} (hI : Inv LR h) {S : HSt} (v : HV S) (hc : HC h 4 S) (hm : HM (mm_gi h 93) 0 S) (hl : HLw LR h 4 (mm_gi h 93) 0 (S 0 3)) (hL : S 0 0 < 8) {j1 j2 j3 : Nat} (h1 : j1 < 256) (h2 : j2 < 256) (h3 : j3 < 10) (fx : LetFx h g (S 0 0) j1 j2 j3) : Inv LR g := by
  obtain ⟨h5, eo, e91, e93, em0, ec4, ec41, ec5, ec6, ec7, e50, e918⟩ := fx
  have em := em0 hI.2.1
  obtain ⟨⟨v1, v2, v3, v4, v5, v6⟩, w1, w2, w3, w4⟩ := v
  obtain ⟨⟨c1, c2, c3, c4, c5, c6⟩, d1, d2, d3, d4⟩ := hc
  obtain ⟨⟨m1, m2, m3, m4, m5⟩, n1, n2, n3, n4⟩ := hm
  refine Inv_i FR h5 hI em (I_tape_cg (eo 54 1 (by decide) (by decide) (by decide) (by decide) (by decide) (by decide) (by decide) (by decide)) (e91 13 (by decide) (by decide) (by decide)) (fun j => eo 55 j (by decide) (by decide) (by decide) (by decide) (by decide) (by decide) (by decide) (by decide)) (fun j => eo 100 j (by decide) (by decide) (by decide) (by decide) (by decide) (by decide) (by decide) (by decide)) hI.2.2.1)
    ⟨upS (upS (upS (upS S 0 0 (S 0 0 + 1)) 4 (S 0 0) j1) 5 (S 0 0) j2) 6 (S 0 0) j3, ?_, ?_, ?_, ?_, I_trail_0 e50 e918⟩ (fun c j hc => eo c j (by omega) (by omega) (by omega) (by omega) (by omega) (by omega) (by omega) (by omega)) ⟨eo 79 6 (by decide) (by decide) (by decide) (by decide) (by decide) (by decide) (by decide) (by decide), e91 56 (by decide) (by decide) (by decide), fun c j hc => eo c j (by omega) (by omega) (by omega) (by omega) (by omega) (by omega) (by omega) (by omega)⟩ (e91 20 (by decide) (by decide) (by decide))
  · refine ⟨?_, ?_, fun l hl => ?_, ?_, ?_⟩
    · simp [upS]
      refine ⟨by omega, v2, v3, v4, ?_, v6⟩
      rw [Nat.pow_succ]; omega
    · simpa [upS] using w1
    · simp [upS] at hl ⊢
      by_cases z : l = S 0 0
      · simp [z]; omega
      · simp [z]; exact w2 l (by omega)
    · simpa [upS] using w3
    · simpa [upS] using w4
  · refine ⟨?_, ?_, fun l hl => ?_, ?_, ?_⟩
    · simp [upS]
      rw [ec41, ec4 6 (by decide), ec4 10 (by decide), ec4 14 (by decide), ec4 5 (by decide), ec4 16 (by decide)]
      exact ⟨rfl, c2, c3, c4, c5, c6⟩
    · intro c hc
      simp [upS] at hc ⊢
      rw [eo 8 c (by decide) (by decide) (by decide) (by decide) (by decide) (by decide) (by decide) (by decide), eo 10 c (by decide) (by decide) (by decide) (by decide) (by decide) (by decide) (by decide) (by decide), eo 9 c (by decide) (by decide) (by decide) (by decide) (by decide) (by decide) (by decide) (by decide)]
      exact d1 c hc
    · simp [upS] at hl ⊢
      rw [ec5, ec6, ec7]
      by_cases z : l = S 0 0
      · simp [z]
      · simp [z]; exact d2 l (by omega)
    · intro t ht
      simp [upS] at ht ⊢
      rw [eo 11 t (by decide) (by decide) (by decide) (by decide) (by decide) (by decide) (by decide) (by decide), eo 12 t (by decide) (by decide) (by decide) (by decide) (by decide) (by decide) (by decide) (by decide)]
      exact d3 t ht
    · intro k hk
      simp [upS]
      rw [eo 13 k (by decide) (by decide) (by decide) (by decide) (by decide) (by decide) (by decide) (by decide)]
      exact d4 k hk
  · simp only [Nat.zero_add] at m1 m2 m3 m4 m5 n1 n2 n3 n4
    have far : ∀ j, j ≠ 0 → j ≠ 20 + S 0 0 → j ≠ 44 + S 0 0 → j ≠ 36 + S 0 0 → j ≠ 28 + S 0 0 → mm_gi g 93 j = mm_gi h 93 j := fun j b1 b2 b3 b4 b5 => by rw [e93, if_neg b1, if_neg b2, if_neg b3, if_neg b4, if_neg b5]
    refine ⟨?_, ?_, fun l hl => ?_, ?_, ?_⟩
    · simp [upS]
      rw [far 1 (by decide) (by omega) (by omega) (by omega) (by omega), far 2 (by decide) (by omega) (by omega) (by omega) (by omega), far 3 (by decide) (by omega) (by omega) (by omega) (by omega), far 4 (by decide) (by omega) (by omega) (by omega) (by omega)]
      exact ⟨by rw [e93, if_pos rfl], m2, m3, m4, m5⟩
    · intro c hc
      simp [upS] at hc ⊢
      rw [far (8 + c) (by omega) (by omega) (by omega) (by omega) (by omega), far (14 + c) (by omega) (by omega) (by omega) (by omega) (by omega), far (52 + c) (by omega) (by omega) (by omega) (by omega) (by omega)]
      exact n1 c hc
    · simp [upS] at hl ⊢
      by_cases z : l = S 0 0
      · subst z
        have b0 : S 0 4 / 2 ^ S 0 0 % 2 = 0 := by rw [Nat.div_eq_of_lt v5]
        refine ⟨?_, ?_, ?_, ?_⟩
        · rw [e93, if_neg (by omega), if_neg (by omega), if_neg (by omega), if_neg (by omega), if_pos rfl]; simp
        · rw [e93, if_neg (by omega), if_neg (by omega), if_neg (by omega), if_pos rfl]; simp
        · rw [e93, if_neg (by omega), if_neg (by omega), if_pos rfl]; simp
        · rw [e93, if_neg (by omega), if_pos rfl, b0]; rfl
      · have hl2 : l < S 0 0 := by omega
        simp [z]
        rw [far (28 + l) (by omega) (by omega) (by omega) (by omega) (by omega), far (36 + l) (by omega) (by omega) (by omega) (by omega) (by omega), far (44 + l) (by omega) (by omega) (by omega) (by omega) (by omega), far (20 + l) (by omega) (by omega) (by omega) (by omega) (by omega)]
        exact n2 l hl2
    · intro t ht
      simp [upS] at ht ⊢
      rw [far (58 + 2 * t) (by omega) (by omega) (by omega) (by omega) (by omega), far (58 + 2 * t + 1) (by omega) (by omega) (by omega) (by omega) (by omega)]
      exact n3 t ht
    · intro k hk
      simp [upS]
      rw [far (5 + k) (by omega) (by omega) (by omega) (by omega) (by omega)]
      exact n4 k hk
  · have := HLw_cg (h' := g) (f' := mm_gi g 93) FR v4 (same_t h5 (fun c j hc => eo c j (by omega) (by omega) (by omega) (by omega) (by omega) (by omega) (by omega) (by omega))) (by rw [h5.2.2.2.2]; exact Nat.le_refl _) (fun w => by rw [h5.2.2.2.1]) (fun j j1 j2 => by rw [e93, if_neg (by omega), if_neg (by omega), if_neg (by omega), if_neg (by omega), if_neg (by omega)]) hl
    simpa [upS] using this
theorem op_0 (FR : LRf LR) : OP_0 (Inv LR) := by
  intro x1 x2 x3 h hI
  obtain ⟨hw, _, _, ⟨S, v, hc, hm, hl, _⟩, _⟩ := id hI
  refine sp_letter hw hc.1.1 v.1.1 (fun c => ?_) (fun a1 a2 a3 c => ?_) (fun a1 a2 a3 c => ?_)
  · refine no_pr (h := h) (g := rfH h (-1) 0) hw (ms_letter (d := 997) (h := rfH h (-1) 0) (L := S 0 0) hw (by simpa [rfH, mm_gi_pi] using hm.1.1) v.1.1 (fun _ => ⟨rfl, ?_⟩) (fun b1 b2 b3 _ => absurd ⟨b1, b2, b3⟩ c) (fun b1 b2 b3 _ => absurd ⟨b1, b2, b3⟩ c))
    have e : mm_pi (mm_pi (rfH h (-1) 0) 91 0 0) 91 8 (mm_gi (rfH h (-1) 0) 91 8) = mm_pi (rfH h (-1) 0) 91 0 0 := by
      have := mm_pi_id (mm_pi (rfH h (-1) 0) 91 0 0) 91 8
      rwa [mm_gi_pi, if_neg (by omega)] at this
    rw [e]
    exact Inv_rf FR (by simp) hI
  · refine no_pr (h := h) (g := rfH h (-5) 3) hw (ms_letter (d := 997) (h := rfH h (-5) 3) (L := S 0 0) hw (by simpa [rfH, mm_gi_pi] using hm.1.1) v.1.1 (fun z => absurd ⟨a1, a2, a3⟩ z) (fun _ _ _ _ => ⟨rfl, ?_⟩) (fun _ _ _ z => by omega))
    have e : mm_pi (mm_pi (rfH h (-5) 3) 91 0 0) 91 8 (mm_gi (rfH h (-5) 3) 91 8) = mm_pi (rfH h (-5) 3) 91 0 0 := by
      have := mm_pi_id (mm_pi (rfH h (-5) 3) 91 0 0) 91 8
      rwa [mm_gi_pi, if_neg (by omega)] at this
    rw [e]
    exact Inv_rf FR (by simp) hI
  · obtain ⟨j1, g1, rfl⟩ := vp_in_of a1 (by decide)
    obtain ⟨j2, g2, rfl⟩ := vp_in_of a2 (by decide)
    obtain ⟨j3, g3, rfl⟩ := vp_in_of a3 (by decide)
    refine no_pr (h := h) (g := acH (addL (mm_pi h 50 1 0) 4 (S 0 0) (nI j1) (nI j2) (nI j3))) hw (ms_letter (d := 997) (h := acH (addL (mm_pi h 50 1 0) 4 (S 0 0) (nI j1) (nI j2) (nI j3))) (L := S 0 0) hw (by simpa [acH, addL, mm_gi_pi] using hm.1.1) v.1.1 (fun z => absurd ⟨a1, a2, a3⟩ z) (fun _ _ _ z => by omega) (fun _ _ _ _ => ⟨rfl, Inv_let FR hI v hc hm hl c g1 g2 g3 (letFx _ _ _ _ _)⟩))
end
