/-! more pairs: child, terms, end, force, told, forget -/
def kpc (c j : Nat) : Prop := (27 ≤ c ∧ c ≤ 49) ∨ c = 94 ∨ c = 95 ∨ 122 ≤ c ∨ c = 83 ∨ c = 85 ∨ c = 121 ∨ (c = 79 ∧ j = 6) ∨ (c = 91 ∧ (j = 56 ∨ j = 20))
theorem I_misc_ac {h g : mmH} (H : I_misc h) (e1 : mm_gi g 0 12 = mm_gi g 91 1) (e2 : ∀ j, j = 13 ∨ j = 14 → mm_gi g 0 j = mm_gi h 0 j) (e3 : ∀ j, j = 52 ∨ j = 11 ∨ j = 18 → mm_gi g 91 j = mm_gi h 91 j) (e4 : mm_gi g 56 4 = mm_gi h 56 4) (e5 : ∀ j, mm_gi g 90 j = mm_gi h 90 j) (e6 : ∀ j, mm_gi g 92 j = mm_gi h 92 j) : I_misc g := by
  obtain ⟨⟨a1, a2, a3, a4⟩, a5, a6, a7, a8, a9⟩ := H
  refine ⟨⟨e1, ?_, ?_, ?_⟩, ?_, ?_, ?_, ?_, ?_⟩
  · rw [e2 13 (by omega), e3 52 (by omega)]; exact a2
  · rw [e2 14 (by omega), e3 11 (by omega)]; exact a3
  · rw [e4, e3 18 (by omega)]; exact a4
  · rw [e5, e6]; exact a5
  · rw [e5, e6]; exact a6
  · rw [e5, e6]; exact a7
  · rw [e5, e6]; exact a8
  · rw [e5, e6]; exact a9
section
variable {LR : mmH → Nat → (Nat → Int32) → Nat → Prop}
theorem Inv_h (FR : LRf LR) {h g : mmH} {S S' : HSt} (hI : Inv LR h) (h5 : same5 h g) (hl : HLw LR h 4 (mm_gi h 93) 0 (S 0 3)) (em : I_misc g) (tp : I_tape g) (v' : HV S') (hc' : HC g 4 S') (hm' : HM (mm_gi g 93) 0 S') (e3 : S' 0 3 = S 0 3) (ht : I_trail g S') (ef : ∀ j, 75 ≤ j → mm_gi g 93 j = mm_gi h 93 j) (eo : ∀ c j, kpc c j → mm_gi g c j = mm_gi h c j) : Inv LR g := by
  refine Inv_i FR h5 hI em tp ⟨S', v', hc', hm', ?_, ht⟩ (fun c j hc => eo c j (by unfold kpc; omega)) ⟨eo 79 6 (by unfold kpc; omega), eo 91 56 (by unfold kpc; omega), fun c j hc => eo c j (by unfold kpc; omega)⟩ (eo 91 20 (by unfold kpc; omega))
  rw [e3]
  exact HLw_cg FR (by rw [← e3]; exact v'.1.2.2.2.1) (same_t h5 (fun c j hc => eo c j (by unfold kpc; omega))) (by rw [h5.2.2.2.2]; exact Nat.le_refl _) (fun w => by rw [h5.2.2.2.1]) (fun j j1 j2 => ef j (by omega)) hl
/-- forget -/
theorem op_22 (FR : LRf LR) : OP_22 (Inv LR) := by
  intro h hI
  obtain ⟨hw, hms, htp, ⟨S, v, hc, hm, hl, htr⟩, _⟩ := id hI
  refine sp_forget hw (no_pr (h := h) (g := mm_pi h 4 10 0) hw (ms_forget (h := mm_pi h 4 10 0) hw ⟨?_, ?_⟩))
  · rw [mm_gi_pi, if_neg (by omega), hm.1.2.2.1, hc.1.2.2.1]
  · have e : ∀ c j, mm_gi (mm_pi (mm_pi (mm_pi h 4 10 0) 91 0 0) 93 2 0) c j = if c = 93 ∧ j = 2 then 0 else if c = 91 ∧ j = 0 then 0 else if c = 4 ∧ j = 10 then 0 else mm_gi h c j := fun c j => by simp only [mm_gi_pi]
    have h5 : same5 h (mm_pi (mm_pi (mm_pi h 4 10 0) 91 0 0) 93 2 0) := ⟨rfl, rfl, rfl, rfl, rfl⟩
    revert e h5
    generalize mm_pi (mm_pi (mm_pi h 4 10 0) 91 0 0) 93 2 0 = g
    intro e h5
    have eo : ∀ c j, c ≠ 93 → c ≠ 91 → c ≠ 4 → mm_gi g c j = mm_gi h c j := fun c j a1 a2 a3 => by rw [e, if_neg (by omega), if_neg (by omega), if_neg (by omega)]
    have e91 : ∀ j, j ≠ 0 → mm_gi g 91 j = mm_gi h 91 j := fun j a => by rw [e, if_neg (by omega), if_neg (by omega), if_neg (by omega)]
    have e4 : ∀ j, j ≠ 10 → mm_gi g 4 j = mm_gi h 4 j := fun j a => by rw [e, if_neg (by omega), if_neg (by omega), if_neg (by omega)]
    have e93 : ∀ j, j ≠ 2 → mm_gi g 93 j = mm_gi h 93 j := fun j a => by rw [e, if_neg (by omega), if_neg (by omega), if_neg (by omega)]
    obtain ⟨⟨v1, v2, v3, v4, v5, v6⟩, w1, w2, w3, w4⟩ := v
    obtain ⟨⟨c1, c2, c3, c4, c5, c6⟩, d1, d2, d3, d4⟩ := hc
    obtain ⟨⟨m1, m2, m3, m4, m5⟩, n1, n2, n3, n4⟩ := hm
    refine Inv_h (S := S) (S' := upS S 0 2 0) FR hI h5 hl (I_misc_ac hms (by rw [eo 0 12 (by decide) (by decide) (by decide), e91 1 (by decide)]; exact hms.1.1) (fun j _ => eo 0 j (by decide) (by decide) (by decide)) (fun j hj => e91 j (by omega)) (eo 56 4 (by decide) (by decide) (by decide)) (fun j => eo 90 j (by decide) (by decide) (by decide)) (fun j => eo 92 j (by decide) (by decide) (by decide))) (I_tape_cg (eo 54 1 (by decide) (by decide) (by decide)) (e91 13 (by decide)) (fun j => eo 55 j (by decide) (by decide) (by decide)) (fun j => eo 100 j (by decide) (by decide) (by decide)) htp) ?_ ?_ ?_ rfl (I_trail_cg (S := S) (eo 50 1 (by decide) (by decide) (by decide)) (e91 8 (by decide)) (fun j => eo 51 j (by decide) (by decide) (by decide)) (fun j => eo 96 j (by decide) (by decide) (by decide)) (fun j => eo 97 j (by decide) (by decide) (by decide)) ⟨rfl, rfl, rfl, rfl⟩ htr) (fun j hj => e93 j (by omega)) (fun c j hk => ?_)
    · exact ⟨⟨v1, v2, by simp [upS], v4, v5, v6⟩, w1, w2, fun t ht => by simp [upS] at ht, w4⟩
    · refine ⟨⟨?_, ?_, ?_, ?_, ?_, ?_⟩, fun c hc => ?_, fun l hl => ?_, fun t ht => by simp [upS] at ht, fun k hk => ?_⟩
      · rw [e4 1 (by decide)]; exact c1
      · rw [e4 6 (by decide)]; exact c2
      · rw [e]; rfl
      · rw [e4 14 (by decide)]; exact c4
      · rw [e4 5 (by decide)]; exact c5
      · rw [e4 16 (by decide)]; exact c6
      · rw [eo 8 c (by decide) (by decide) (by decide), eo 10 c (by decide) (by decide) (by decide), eo 9 c (by decide) (by decide) (by decide)]; exact d1 c hc
      · rw [eo 5 l (by decide) (by decide) (by decide), eo 6 l (by decide) (by decide) (by decide), eo 7 l (by decide) (by decide) (by decide)]; exact d2 l hl
      · rw [eo 13 k (by decide) (by decide) (by decide)]; exact d4 k hk
    · refine ⟨⟨?_, ?_, ?_, ?_, ?_⟩, fun c hc => ?_, fun l hl => ?_, fun t ht => by simp [upS] at ht, fun k hk => ?_⟩
      · rw [e93 0 (by decide)]; exact m1
      · rw [e93 (0 + 1) (by decide)]; exact m2
      · rw [e]; rfl
      · rw [e93 (0 + 3) (by decide)]; exact m4
      · rw [e93 (0 + 4) (by decide)]; exact m5
      · rw [e93 (0 + 8 + c) (by omega), e93 (0 + 14 + c) (by omega), e93 (0 + 52 + c) (by omega)]; exact n1 c hc
      · rw [e93 (0 + 28 + l) (by omega), e93 (0 + 36 + l) (by omega), e93 (0 + 44 + l) (by omega), e93 (0 + 20 + l) (by omega)]; exact n2 l hl
      · rw [e93 (0 + 5 + k) (by omega)]; exact n4 k hk
    · unfold kpc at hk
      by_cases z : c = 91
      · subst z; exact e91 j (by omega)
      · exact eo c j (by omega) z (by omega)
end
