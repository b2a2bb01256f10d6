/-! pairs that change the house by a fixed list of writes (written by genpair.py) -/
section
variable {LR : mmH → Nat → (Nat → Int32) → Nat → Prop}
theorem Inv_child (FR : LRf LR) {h : mmH} (hI : Inv LR h) {S : HSt} (v : HV S) (hc : HC h 4 S) (hm : HM (mm_gi h 93) 0 S) (hl : HLw LR h 4 (mm_gi h 93) 0 (S 0 3)) (htr : I_trail h S) (hC : S 0 1 < 6) {j1 : Nat} (h1 : 1 ≤ j1) (h2 : j1 ≤ 8) : Inv LR (mm_pi (mm_pi (mchH (acH (addC (mm_pi h 50 1 0) 4 (S 0 1) (nI j1))) (S 0 1) (nI j1)) 91 8 0) 91 1 0) := by
  have e : ∀ c j, mm_gi (mm_pi (mm_pi (mchH (acH (addC (mm_pi h 50 1 0) 4 (S 0 1) (nI j1))) (S 0 1) (nI j1)) 91 8 0) 91 1 0) c j = if c = 91 ∧ j = 1 then 0 else if c = 91 ∧ j = 8 then 0 else if c = 93 ∧ j = 1 then nI (S 0 1 + 1) else if c = 93 ∧ j = 14 + S 0 1 then 0 else if c = 93 ∧ j = 8 + S 0 1 then 0 else if c = 93 ∧ j = 52 + S 0 1 then nI j1 else if c = 91 ∧ j = 0 then 0 else if c = 0 ∧ j = 12 then 0 else if c = 4 ∧ j = 6 then nI (S 0 1 + 1) else if c = 10 ∧ j = S 0 1 then 0 else if c = 8 ∧ j = S 0 1 then 0 else if c = 9 ∧ j = S 0 1 then nI j1 else if c = 50 ∧ j = 1 then 0 else mm_gi h c j := fun c j => by simp only [mchH, acH, addC, mm_gi_pi, Nat.reduceAdd]
  have h5 : same5 h (mm_pi (mm_pi (mchH (acH (addC (mm_pi h 50 1 0) 4 (S 0 1) (nI j1))) (S 0 1) (nI j1)) 91 8 0) 91 1 0) := by refine ⟨?_, ?_, ?_, ?_, ?_⟩ <;> simp only [mchH, acH, addC, mm_kd_pi, mm_ln_pi, mm_gl_pi, mm_gr_pi, mm_sz_pi]
  revert e h5
  generalize (mm_pi (mm_pi (mchH (acH (addC (mm_pi h 50 1 0) 4 (S 0 1) (nI j1))) (S 0 1) (nI j1)) 91 8 0) 91 1 0) = g
  intro e h5
  have eo : ∀ c j, c ≠ 91 → c ≠ 93 → c ≠ 0 → c ≠ 4 → c ≠ 10 → c ≠ 8 → c ≠ 9 → c ≠ 50 → mm_gi g c j = mm_gi h c j := fun c j a0 a1 a2 a3 a4 a5 a6 a7 => by rw [e, if_neg (by omega), if_neg (by omega), if_neg (by omega), if_neg (by omega), if_neg (by omega), if_neg (by omega), if_neg (by omega), if_neg (by omega), if_neg (by omega), if_neg (by omega), if_neg (by omega), if_neg (by omega), if_neg (by omega)]
  have e91 : ∀ j, j ≠ 1 → j ≠ 8 → j ≠ 0 → mm_gi g 91 j = mm_gi h 91 j := fun j a0 a1 a2 => by rw [e, if_neg (by omega), if_neg (by omega), if_neg (by omega), if_neg (by omega), if_neg (by omega), if_neg (by omega), if_neg (by omega), if_neg (by omega), if_neg (by omega), if_neg (by omega), if_neg (by omega), if_neg (by omega), if_neg (by omega)]
  have e93 : ∀ j, j ≠ 1 → j ≠ 14 + S 0 1 → j ≠ 8 + S 0 1 → j ≠ 52 + S 0 1 → mm_gi g 93 j = mm_gi h 93 j := fun j a0 a1 a2 a3 => by rw [e, if_neg (by omega), if_neg (by omega), if_neg (by omega), if_neg (by omega), if_neg (by omega), if_neg (by omega), if_neg (by omega), if_neg (by omega), if_neg (by omega), if_neg (by omega), if_neg (by omega), if_neg (by omega), if_neg (by omega)]
  have e0 : ∀ j, j ≠ 12 → mm_gi g 0 j = mm_gi h 0 j := fun j a0 => by rw [e, if_neg (by omega), if_neg (by omega), if_neg (by omega), if_neg (by omega), if_neg (by omega), if_neg (by omega), if_neg (by omega), if_neg (by omega), if_neg (by omega), if_neg (by omega), if_neg (by omega), if_neg (by omega), if_neg (by omega)]
  have e4 : ∀ j, j ≠ 6 → mm_gi g 4 j = mm_gi h 4 j := fun j a0 => by rw [e, if_neg (by omega), if_neg (by omega), if_neg (by omega), if_neg (by omega), if_neg (by omega), if_neg (by omega), if_neg (by omega), if_neg (by omega), if_neg (by omega), if_neg (by omega), if_neg (by omega), if_neg (by omega), if_neg (by omega)]
  have e10 : ∀ j, j ≠ S 0 1 → mm_gi g 10 j = mm_gi h 10 j := fun j a0 => by rw [e, if_neg (by omega), if_neg (by omega), if_neg (by omega), if_neg (by omega), if_neg (by omega), if_neg (by omega), if_neg (by omega), if_neg (by omega), if_neg (by omega), if_neg (by omega), if_neg (by omega), if_neg (by omega), if_neg (by omega)]
  have e8 : ∀ j, j ≠ S 0 1 → mm_gi g 8 j = mm_gi h 8 j := fun j a0 => by rw [e, if_neg (by omega), if_neg (by omega), if_neg (by omega), if_neg (by omega), if_neg (by omega), if_neg (by omega), if_neg (by omega), if_neg (by omega), if_neg (by omega), if_neg (by omega), if_neg (by omega), if_neg (by omega), if_neg (by omega)]
  have e9 : ∀ j, j ≠ S 0 1 → mm_gi g 9 j = mm_gi h 9 j := fun j a0 => by rw [e, if_neg (by omega), if_neg (by omega), if_neg (by omega), if_neg (by omega), if_neg (by omega), if_neg (by omega), if_neg (by omega), if_neg (by omega), if_neg (by omega), if_neg (by omega), if_neg (by omega), if_neg (by omega), if_neg (by omega)]
  have e50 : ∀ j, j ≠ 1 → mm_gi g 50 j = mm_gi h 50 j := fun j a0 => by rw [e, if_neg (by omega), if_neg (by omega), if_neg (by omega), if_neg (by omega), if_neg (by omega), if_neg (by omega), if_neg (by omega), if_neg (by omega), if_neg (by omega), if_neg (by omega), if_neg (by omega), if_neg (by omega), if_neg (by omega)]
  obtain ⟨hw, hms, htp, -⟩ := id hI
  obtain ⟨⟨v1, v2, v3, v4, v5, v6⟩, w1, w2, w3, w4⟩ := v
  obtain ⟨⟨c1, c2, c3, c4, c5, c6⟩, d1, d2, d3, d4⟩ := hc
  obtain ⟨⟨m1, m2, m3, m4, m5⟩, n1, n2, n3, n4⟩ := hm
  refine Inv_h (S := S) (S' := upS (upS (upS (upS S 0 1 (S 0 1 + 1)) 1 (S 0 1) 0) 2 (S 0 1) 0) 3 (S 0 1) j1) FR hI h5 hl (I_misc_ac hms (by rw [e, e]; simp) (fun j hj => e0 j (by omega)) (fun j hj => e91 j (by omega) (by omega) (by omega)) (eo 56 4 (by decide) (by decide) (by decide) (by decide) (by decide) (by decide) (by decide) (by decide)) (fun j => eo 90 j (by decide) (by decide) (by decide) (by decide) (by decide) (by decide) (by decide) (by decide)) (fun j => eo 92 j (by decide) (by decide) (by decide) (by decide) (by decide) (by decide) (by decide) (by decide))) (I_tape_cg (eo 54 1 (by decide) (by decide) (by decide) (by decide) (by decide) (by decide) (by decide) (by decide)) (e91 13 (by omega) (by omega) (by omega)) (fun j => eo 55 j (by decide) (by decide) (by decide) (by decide) (by decide) (by decide) (by decide) (by decide)) (fun j => eo 100 j (by decide) (by decide) (by decide) (by decide) (by decide) (by decide) (by decide) (by decide)) htp) ?_ ?_ ?_ rfl (I_trail_0 (by rw [e]; simp; rfl) (by rw [e]; simp; rfl)) (fun j hj => e93 j (by omega) (by omega) (by omega) (by omega)) (fun c j hk => ?_)
  · refine ⟨⟨v1, by simp [upS]; omega, v3, v4, v5, v6⟩, (fun c hc => by
      simp [upS] at hc ⊢
      by_cases z : c = S 0 1
      · simp [z]; omega
      · simp [z]; exact w1 c (by omega)), w2, w3, w4⟩
  · refine ⟨⟨?_, ?_, ?_, ?_, ?_, ?_⟩, fun c hc => ?_, fun l hl => ?_, fun t ht => ?_, fun k hk => ?_⟩
    · rw [e4 1 (by omega)]; exact c1
    · rw [e]; simp [upS]
    · rw [e4 10 (by omega)]; exact c3
    · rw [e4 14 (by omega)]; exact c4
    · rw [e4 5 (by omega)]; exact c5
    · rw [e4 16 (by omega)]; exact c6
    · simp [upS] at hc ⊢
      by_cases z : c = S 0 1
      · subst z; rw [e, e, e]; simp; rfl
      · rw [e8 c z, e10 c z, e9 c z]; simp [z]; exact d1 c (by omega)
    · rw [eo 5 l (by decide) (by decide) (by decide) (by decide) (by decide) (by decide) (by decide) (by decide), eo 6 l (by decide) (by decide) (by decide) (by decide) (by decide) (by decide) (by decide) (by decide), eo 7 l (by decide) (by decide) (by decide) (by decide) (by decide) (by decide) (by decide) (by decide)]; exact d2 l hl
    · rw [eo 11 t (by decide) (by decide) (by decide) (by decide) (by decide) (by decide) (by decide) (by decide), eo 12 t (by decide) (by decide) (by decide) (by decide) (by decide) (by decide) (by decide) (by decide)]; exact d3 t ht
    · rw [eo 13 k (by decide) (by decide) (by decide) (by decide) (by decide) (by decide) (by decide) (by decide)]; exact d4 k hk
  · refine ⟨⟨?_, ?_, ?_, ?_, ?_⟩, fun c hc => ?_, fun l hl => ?_, fun t ht => ?_, fun k hk => ?_⟩
    · rw [e93 0 (by omega) (by omega) (by omega) (by omega)]; exact m1
    · rw [e]; simp [upS]
    · rw [e93 (0 + 2) (by omega) (by omega) (by omega) (by omega)]; exact m3
    · rw [e93 (0 + 3) (by omega) (by omega) (by omega) (by omega)]; exact m4
    · rw [e93 (0 + 4) (by omega) (by omega) (by omega) (by omega)]; exact m5
    · simp [upS] at hc ⊢
      by_cases z : c = S 0 1
      · subst z; simp only [if_true, and_self, true_and]; refine ⟨?_, ?_, ?_⟩
        · rw [e, if_neg (by omega), if_neg (by omega), if_neg (by omega), if_neg (by omega), if_pos ⟨rfl, by omega⟩]; rfl
        · rw [e, if_neg (by omega), if_neg (by omega), if_neg (by omega), if_pos ⟨rfl, by omega⟩]; rfl
        · rw [e, if_neg (by omega), if_neg (by omega), if_neg (by omega), if_neg (by omega), if_neg (by omega), if_pos ⟨rfl, by omega⟩]
      · rw [e93 (8 + c) (by omega) (by omega) (by omega) (by omega), e93 (14 + c) (by omega) (by omega) (by omega) (by omega), e93 (52 + c) (by omega) (by omega) (by omega) (by omega)]; simp [z]; simpa using n1 c (by omega)
    · have hb : l < S 0 0 := hl; rw [e93 (0 + 28 + l) (by omega) (by omega) (by omega) (by omega), e93 (0 + 36 + l) (by omega) (by omega) (by omega) (by omega), e93 (0 + 44 + l) (by omega) (by omega) (by omega) (by omega), e93 (0 + 20 + l) (by omega) (by omega) (by omega) (by omega)]; exact n2 l hl
    · have hb : t < S 0 2 := ht; rw [e93 (0 + 58 + 2 * t) (by omega) (by omega) (by omega) (by omega), e93 (0 + 58 + 2 * t + 1) (by omega) (by omega) (by omega) (by omega)]; exact n3 t ht
    · have hb : k < 3 := hk; rw [e93 (0 + 5 + k) (by omega) (by omega) (by omega) (by omega)]; exact n4 k hk
  · unfold kpc at hk
    by_cases z : c = 91
    · subst z; exact e91 j (by omega) (by omega) (by omega)
    · exact eo c j z (by omega) (by omega) (by omega) (by omega) (by omega) (by omega) (by omega)
theorem Inv_told (FR : LRf LR) {h : mmH} (hI : Inv LR h) {S : HSt} (v : HV S) (hc : HC h 4 S) (hm : HM (mm_gi h 93) 0 S) (hl : HLw LR h 4 (mm_gi h 93) 0 (S 0 3)) (htr : I_trail h S) (hT : S 0 2 < 8) {j1 j2 : Nat} (h1 : j1 < 8) (h2 : j2 < 2) : Inv LR (mm_pi (mtoH (acH (addT h 4 (S 0 2) (nI j1) (nI j2))) (S 0 2) (nI j1) (nI j2)) 91 1 0) := by
  have e : ∀ c j, mm_gi (mm_pi (mtoH (acH (addT h 4 (S 0 2) (nI j1) (nI j2))) (S 0 2) (nI j1) (nI j2)) 91 1 0) c j = if c = 91 ∧ j = 1 then 0 else if c = 93 ∧ j = 2 then nI (S 0 2 + 1) else if c = 93 ∧ j = 58 + 2 * S 0 2 + 1 then nI j2 else if c = 93 ∧ j = 58 + 2 * S 0 2 then nI j1 else if c = 91 ∧ j = 0 then 0 else if c = 0 ∧ j = 12 then 0 else if c = 4 ∧ j = 10 then nI (S 0 2 + 1) else if c = 12 ∧ j = S 0 2 then nI j2 else if c = 11 ∧ j = S 0 2 then nI j1 else mm_gi h c j := fun c j => by simp only [mtoH, acH, addT, mm_gi_pi, Nat.reduceAdd]
  have h5 : same5 h (mm_pi (mtoH (acH (addT h 4 (S 0 2) (nI j1) (nI j2))) (S 0 2) (nI j1) (nI j2)) 91 1 0) := by refine ⟨?_, ?_, ?_, ?_, ?_⟩ <;> simp only [mtoH, acH, addT, mm_kd_pi, mm_ln_pi, mm_gl_pi, mm_gr_pi, mm_sz_pi]
  revert e h5
  generalize (mm_pi (mtoH (acH (addT h 4 (S 0 2) (nI j1) (nI j2))) (S 0 2) (nI j1) (nI j2)) 91 1 0) = g
  intro e h5
  have eo : ∀ c j, c ≠ 91 → c ≠ 93 → c ≠ 0 → c ≠ 4 → c ≠ 12 → c ≠ 11 → mm_gi g c j = mm_gi h c j := fun c j a0 a1 a2 a3 a4 a5 => by rw [e, if_neg (by omega), if_neg (by omega), if_neg (by omega), if_neg (by omega), if_neg (by omega), if_neg (by omega), if_neg (by omega), if_neg (by omega), if_neg (by omega)]
  have e91 : ∀ j, j ≠ 1 → j ≠ 0 → mm_gi g 91 j = mm_gi h 91 j := fun j a0 a1 => by rw [e, if_neg (by omega), if_neg (by omega), if_neg (by omega), if_neg (by omega), if_neg (by omega), if_neg (by omega), if_neg (by omega), if_neg (by omega), if_neg (by omega)]
  have e93 : ∀ j, j ≠ 2 → j ≠ 58 + 2 * S 0 2 + 1 → j ≠ 58 + 2 * S 0 2 → mm_gi g 93 j = mm_gi h 93 j := fun j a0 a1 a2 => by rw [e, if_neg (by omega), if_neg (by omega), if_neg (by omega), if_neg (by omega), if_neg (by omega), if_neg (by omega), if_neg (by omega), if_neg (by omega), if_neg (by omega)]
  have e0 : ∀ j, j ≠ 12 → mm_gi g 0 j = mm_gi h 0 j := fun j a0 => by rw [e, if_neg (by omega), if_neg (by omega), if_neg (by omega), if_neg (by omega), if_neg (by omega), if_neg (by omega), if_neg (by omega), if_neg (by omega), if_neg (by omega)]
  have e4 : ∀ j, j ≠ 10 → mm_gi g 4 j = mm_gi h 4 j := fun j a0 => by rw [e, if_neg (by omega), if_neg (by omega), if_neg (by omega), if_neg (by omega), if_neg (by omega), if_neg (by omega), if_neg (by omega), if_neg (by omega), if_neg (by omega)]
  have e12 : ∀ j, j ≠ S 0 2 → mm_gi g 12 j = mm_gi h 12 j := fun j a0 => by rw [e, if_neg (by omega), if_neg (by omega), if_neg (by omega), if_neg (by omega), if_neg (by omega), if_neg (by omega), if_neg (by omega), if_neg (by omega), if_neg (by omega)]
  have e11 : ∀ j, j ≠ S 0 2 → mm_gi g 11 j = mm_gi h 11 j := fun j a0 => by rw [e, if_neg (by omega), if_neg (by omega), if_neg (by omega), if_neg (by omega), if_neg (by omega), if_neg (by omega), if_neg (by omega), if_neg (by omega), if_neg (by omega)]
  obtain ⟨hw, hms, htp, -⟩ := id hI
  obtain ⟨⟨v1, v2, v3, v4, v5, v6⟩, w1, w2, w3, w4⟩ := v
  obtain ⟨⟨c1, c2, c3, c4, c5, c6⟩, d1, d2, d3, d4⟩ := hc
  obtain ⟨⟨m1, m2, m3, m4, m5⟩, n1, n2, n3, n4⟩ := hm
  refine Inv_h (S := S) (S' := upS (upS (upS S 0 2 (S 0 2 + 1)) 7 (S 0 2) j1) 8 (S 0 2) j2) FR hI h5 hl (I_misc_ac hms (by rw [e, e]; simp) (fun j hj => e0 j (by omega)) (fun j hj => e91 j (by omega) (by omega)) (eo 56 4 (by decide) (by decide) (by decide) (by decide) (by decide) (by decide)) (fun j => eo 90 j (by decide) (by decide) (by decide) (by decide) (by decide) (by decide)) (fun j => eo 92 j (by decide) (by decide) (by decide) (by decide) (by decide) (by decide))) (I_tape_cg (eo 54 1 (by decide) (by decide) (by decide) (by decide) (by decide) (by decide)) (e91 13 (by omega) (by omega)) (fun j => eo 55 j (by decide) (by decide) (by decide) (by decide) (by decide) (by decide)) (fun j => eo 100 j (by decide) (by decide) (by decide) (by decide) (by decide) (by decide)) htp) ?_ ?_ ?_ rfl (I_trail_cg (S := S) (eo 50 1 (by decide) (by decide) (by decide) (by decide) (by decide) (by decide)) (e91 8 (by omega) (by omega)) (fun j => eo 51 j (by decide) (by decide) (by decide) (by decide) (by decide) (by decide)) (fun j => eo 96 j (by decide) (by decide) (by decide) (by decide) (by decide) (by decide)) (fun j => eo 97 j (by decide) (by decide) (by decide) (by decide) (by decide) (by decide)) ⟨rfl, rfl, rfl, rfl⟩ htr) (fun j hj => e93 j (by omega) (by omega) (by omega)) (fun c j hk => ?_)
  · refine ⟨⟨v1, v2, by simp [upS]; omega, v4, v5, v6⟩, w1, w2, (fun t ht => by
      simp [upS] at ht ⊢
      by_cases z : t = S 0 2
      · simp [z]; omega
      · simp [z]; exact w3 t (by omega)), w4⟩
  · refine ⟨⟨?_, ?_, ?_, ?_, ?_, ?_⟩, fun c hc => ?_, fun l hl => ?_, fun t ht => ?_, fun k hk => ?_⟩
    · rw [e4 1 (by omega)]; exact c1
    · rw [e4 6 (by omega)]; exact c2
    · rw [e]; simp [upS]
    · rw [e4 14 (by omega)]; exact c4
    · rw [e4 5 (by omega)]; exact c5
    · rw [e4 16 (by omega)]; exact c6
    · rw [eo 8 c (by decide) (by decide) (by decide) (by decide) (by decide) (by decide), eo 10 c (by decide) (by decide) (by decide) (by decide) (by decide) (by decide), eo 9 c (by decide) (by decide) (by decide) (by decide) (by decide) (by decide)]; exact d1 c hc
    · rw [eo 5 l (by decide) (by decide) (by decide) (by decide) (by decide) (by decide), eo 6 l (by decide) (by decide) (by decide) (by decide) (by decide) (by decide), eo 7 l (by decide) (by decide) (by decide) (by decide) (by decide) (by decide)]; exact d2 l hl
    · simp [upS] at ht ⊢
      by_cases z : t = S 0 2
      · subst z; rw [e, e]; simp
      · rw [e11 t z, e12 t z]; simp [z]; exact d3 t (by omega)
    · rw [eo 13 k (by decide) (by decide) (by decide) (by decide) (by decide) (by decide)]; exact d4 k hk
  · refine ⟨⟨?_, ?_, ?_, ?_, ?_⟩, fun c hc => ?_, fun l hl => ?_, fun t ht => ?_, fun k hk => ?_⟩
    · rw [e93 0 (by omega) (by omega) (by omega)]; exact m1
    · rw [e93 (0 + 1) (by omega) (by omega) (by omega)]; exact m2
    · rw [e]; simp [upS]
    · rw [e93 (0 + 3) (by omega) (by omega) (by omega)]; exact m4
    · rw [e93 (0 + 4) (by omega) (by omega) (by omega)]; exact m5
    · have hb : c < S 0 1 := hc; rw [e93 (0 + 8 + c) (by omega) (by omega) (by omega), e93 (0 + 14 + c) (by omega) (by omega) (by omega), e93 (0 + 52 + c) (by omega) (by omega) (by omega)]; exact n1 c hc
    · have hb : l < S 0 0 := hl; rw [e93 (0 + 28 + l) (by omega) (by omega) (by omega), e93 (0 + 36 + l) (by omega) (by omega) (by omega), e93 (0 + 44 + l) (by omega) (by omega) (by omega), e93 (0 + 20 + l) (by omega) (by omega) (by omega)]; exact n2 l hl
    · simp [upS] at ht ⊢
      by_cases z : t = S 0 2
      · subst z; refine ⟨?_, ?_⟩
        · rw [e, if_neg (by omega), if_neg (by omega), if_neg (by omega), if_pos ⟨rfl, by omega⟩]; simp
        · rw [e, if_neg (by omega), if_neg (by omega), if_pos ⟨rfl, by omega⟩]; simp
      · rw [e93 (58 + 2 * t) (by omega) (by omega) (by omega), e93 (58 + 2 * t + 1) (by omega) (by omega) (by omega)]; simp [z]; simpa using n3 t (by omega)
    · have hb : k < 3 := hk; rw [e93 (0 + 5 + k) (by omega) (by omega) (by omega)]; exact n4 k hk
  · unfold kpc at hk
    by_cases z : c = 91
    · subst z; exact e91 j (by omega) (by omega)
    · exact eo c j z (by omega) (by omega) (by omega) (by omega) (by omega)
theorem Inv_force (FR : LRf LR) {h : mmH} (hI : Inv LR h) {S : HSt} (v : HV S) (hc : HC h 4 S) (hm : HM (mm_gi h 93) 0 S) (hl : HLw LR h 4 (mm_gi h 93) 0 (S 0 3)) (htr : I_trail h S) {m : Nat} (hmS : m ≤ S 0 3) : Inv LR (mm_pi (mm_pi (mm_pi (acH (mm_pi h 4 16 (fo m))) 91 0 0) 93 4 (fo m)) 91 1 0) := by
  have e : ∀ c j, mm_gi (mm_pi (mm_pi (mm_pi (acH (mm_pi h 4 16 (fo m))) 91 0 0) 93 4 (fo m)) 91 1 0) c j = if c = 91 ∧ j = 1 then 0 else if c = 93 ∧ j = 4 then fo m else if c = 91 ∧ j = 0 then 0 else if c = 0 ∧ j = 12 then 0 else if c = 4 ∧ j = 16 then fo m else mm_gi h c j := fun c j => by simp only [acH, mm_gi_pi, Nat.reduceAdd]
  have h5 : same5 h (mm_pi (mm_pi (mm_pi (acH (mm_pi h 4 16 (fo m))) 91 0 0) 93 4 (fo m)) 91 1 0) := by refine ⟨?_, ?_, ?_, ?_, ?_⟩ <;> simp only [acH, mm_kd_pi, mm_ln_pi, mm_gl_pi, mm_gr_pi, mm_sz_pi]
  revert e h5
  generalize (mm_pi (mm_pi (mm_pi (acH (mm_pi h 4 16 (fo m))) 91 0 0) 93 4 (fo m)) 91 1 0) = g
  intro e h5
  have eo : ∀ c j, c ≠ 91 → c ≠ 93 → c ≠ 0 → c ≠ 4 → mm_gi g c j = mm_gi h c j := fun c j a0 a1 a2 a3 => by rw [e, if_neg (by omega), if_neg (by omega), if_neg (by omega), if_neg (by omega), if_neg (by omega)]
  have e91 : ∀ j, j ≠ 1 → j ≠ 0 → mm_gi g 91 j = mm_gi h 91 j := fun j a0 a1 => by rw [e, if_neg (by omega), if_neg (by omega), if_neg (by omega), if_neg (by omega), if_neg (by omega)]
  have e93 : ∀ j, j ≠ 4 → mm_gi g 93 j = mm_gi h 93 j := fun j a0 => by rw [e, if_neg (by omega), if_neg (by omega), if_neg (by omega), if_neg (by omega), if_neg (by omega)]
  have e0 : ∀ j, j ≠ 12 → mm_gi g 0 j = mm_gi h 0 j := fun j a0 => by rw [e, if_neg (by omega), if_neg (by omega), if_neg (by omega), if_neg (by omega), if_neg (by omega)]
  have e4 : ∀ j, j ≠ 16 → mm_gi g 4 j = mm_gi h 4 j := fun j a0 => by rw [e, if_neg (by omega), if_neg (by omega), if_neg (by omega), if_neg (by omega), if_neg (by omega)]
  obtain ⟨hw, hms, htp, -⟩ := id hI
  obtain ⟨⟨v1, v2, v3, v4, v5, v6⟩, w1, w2, w3, w4⟩ := v
  obtain ⟨⟨c1, c2, c3, c4, c5, c6⟩, d1, d2, d3, d4⟩ := hc
  obtain ⟨⟨m1, m2, m3, m4, m5⟩, n1, n2, n3, n4⟩ := hm
  refine Inv_h (S := S) (S' := upS S 0 5 m) FR hI h5 hl (I_misc_ac hms (by rw [e, e]; simp) (fun j hj => e0 j (by omega)) (fun j hj => e91 j (by omega) (by omega)) (eo 56 4 (by decide) (by decide) (by decide) (by decide)) (fun j => eo 90 j (by decide) (by decide) (by decide) (by decide)) (fun j => eo 92 j (by decide) (by decide) (by decide) (by decide))) (I_tape_cg (eo 54 1 (by decide) (by decide) (by decide) (by decide)) (e91 13 (by omega) (by omega)) (fun j => eo 55 j (by decide) (by decide) (by decide) (by decide)) (fun j => eo 100 j (by decide) (by decide) (by decide) (by decide)) htp) ?_ ?_ ?_ rfl (I_trail_cg (S := S) (eo 50 1 (by decide) (by decide) (by decide) (by decide)) (e91 8 (by omega) (by omega)) (fun j => eo 51 j (by decide) (by decide) (by decide) (by decide)) (fun j => eo 96 j (by decide) (by decide) (by decide) (by decide)) (fun j => eo 97 j (by decide) (by decide) (by decide) (by decide)) ⟨rfl, rfl, rfl, rfl⟩ htr) (fun j hj => e93 j (by omega)) (fun c j hk => ?_)
  · refine ⟨⟨v1, v2, v3, v4, v5, (by simpa [upS] using hmS)⟩, w1, w2, w3, w4⟩
  · refine ⟨⟨?_, ?_, ?_, ?_, ?_, ?_⟩, fun c hc => ?_, fun l hl => ?_, fun t ht => ?_, fun k hk => ?_⟩
    · rw [e4 1 (by omega)]; exact c1
    · rw [e4 6 (by omega)]; exact c2
    · rw [e4 10 (by omega)]; exact c3
    · rw [e4 14 (by omega)]; exact c4
    · rw [e4 5 (by omega)]; exact c5
    · rw [e]; simp [upS]
    · rw [eo 8 c (by decide) (by decide) (by decide) (by decide), eo 10 c (by decide) (by decide) (by decide) (by decide), eo 9 c (by decide) (by decide) (by decide) (by decide)]; exact d1 c hc
    · rw [eo 5 l (by decide) (by decide) (by decide) (by decide), eo 6 l (by decide) (by decide) (by decide) (by decide), eo 7 l (by decide) (by decide) (by decide) (by decide)]; exact d2 l hl
    · rw [eo 11 t (by decide) (by decide) (by decide) (by decide), eo 12 t (by decide) (by decide) (by decide) (by decide)]; exact d3 t ht
    · rw [eo 13 k (by decide) (by decide) (by decide) (by decide)]; exact d4 k hk
  · refine ⟨⟨?_, ?_, ?_, ?_, ?_⟩, fun c hc => ?_, fun l hl => ?_, fun t ht => ?_, fun k hk => ?_⟩
    · rw [e93 0 (by omega)]; exact m1
    · rw [e93 (0 + 1) (by omega)]; exact m2
    · rw [e93 (0 + 2) (by omega)]; exact m3
    · rw [e93 (0 + 3) (by omega)]; exact m4
    · rw [e]; simp [upS]
    · have hb : c < S 0 1 := hc; rw [e93 (0 + 8 + c) (by omega), e93 (0 + 14 + c) (by omega), e93 (0 + 52 + c) (by omega)]; exact n1 c hc
    · have hb : l < S 0 0 := hl; rw [e93 (0 + 28 + l) (by omega), e93 (0 + 36 + l) (by omega), e93 (0 + 44 + l) (by omega), e93 (0 + 20 + l) (by omega)]; exact n2 l hl
    · have hb : t < S 0 2 := ht; rw [e93 (0 + 58 + 2 * t) (by omega), e93 (0 + 58 + 2 * t + 1) (by omega)]; exact n3 t ht
    · have hb : k < 3 := hk; rw [e93 (0 + 5 + k) (by omega)]; exact n4 k hk
  · unfold kpc at hk
    by_cases z : c = 91
    · subst z; exact e91 j (by omega) (by omega)
    · exact eo c j z (by omega) (by omega) (by omega)
theorem Inv_terms (FR : LRf LR) {h : mmH} (hI : Inv LR h) {S : HSt} (v : HV S) (hc : HC h 4 S) (hm : HM (mm_gi h 93) 0 S) (hl : HLw LR h 4 (mm_gi h 93) 0 (S 0 3)) (htr : I_trail h S) {u j1 : Nat} (hu : u < 3) (hj : j1 ≤ tmax u) : Inv LR (mm_pi (mm_pi (mm_pi (mm_pi (acH (mm_pi (mm_pi h 50 1 0) 13 u (nI j1))) 91 0 0) 91 8 0) 93 (5 + u) (nI j1)) 91 1 0) := by
  have e : ∀ c j, mm_gi (mm_pi (mm_pi (mm_pi (mm_pi (acH (mm_pi (mm_pi h 50 1 0) 13 u (nI j1))) 91 0 0) 91 8 0) 93 (5 + u) (nI j1)) 91 1 0) c j = if c = 91 ∧ j = 1 then 0 else if c = 93 ∧ j = 5 + u then nI j1 else if c = 91 ∧ j = 8 then 0 else if c = 91 ∧ j = 0 then 0 else if c = 0 ∧ j = 12 then 0 else if c = 13 ∧ j = u then nI j1 else if c = 50 ∧ j = 1 then 0 else mm_gi h c j := fun c j => by simp only [acH, mm_gi_pi, Nat.reduceAdd]
  have h5 : same5 h (mm_pi (mm_pi (mm_pi (mm_pi (acH (mm_pi (mm_pi h 50 1 0) 13 u (nI j1))) 91 0 0) 91 8 0) 93 (5 + u) (nI j1)) 91 1 0) := by refine ⟨?_, ?_, ?_, ?_, ?_⟩ <;> simp only [acH, mm_kd_pi, mm_ln_pi, mm_gl_pi, mm_gr_pi, mm_sz_pi]
  revert e h5
  generalize (mm_pi (mm_pi (mm_pi (mm_pi (acH (mm_pi (mm_pi h 50 1 0) 13 u (nI j1))) 91 0 0) 91 8 0) 93 (5 + u) (nI j1)) 91 1 0) = g
  intro e h5
  have eo : ∀ c j, c ≠ 91 → c ≠ 93 → c ≠ 0 → c ≠ 13 → c ≠ 50 → mm_gi g c j = mm_gi h c j := fun c j a0 a1 a2 a3 a4 => by rw [e, if_neg (by omega), if_neg (by omega), if_neg (by omega), if_neg (by omega), if_neg (by omega), if_neg (by omega), if_neg (by omega)]
  have e91 : ∀ j, j ≠ 1 → j ≠ 8 → j ≠ 0 → mm_gi g 91 j = mm_gi h 91 j := fun j a0 a1 a2 => by rw [e, if_neg (by omega), if_neg (by omega), if_neg (by omega), if_neg (by omega), if_neg (by omega), if_neg (by omega), if_neg (by omega)]
  have e93 : ∀ j, j ≠ 5 + u → mm_gi g 93 j = mm_gi h 93 j := fun j a0 => by rw [e, if_neg (by omega), if_neg (by omega), if_neg (by omega), if_neg (by omega), if_neg (by omega), if_neg (by omega), if_neg (by omega)]
  have e0 : ∀ j, j ≠ 12 → mm_gi g 0 j = mm_gi h 0 j := fun j a0 => by rw [e, if_neg (by omega), if_neg (by omega), if_neg (by omega), if_neg (by omega), if_neg (by omega), if_neg (by omega), if_neg (by omega)]
  have e13 : ∀ j, j ≠ u → mm_gi g 13 j = mm_gi h 13 j := fun j a0 => by rw [e, if_neg (by omega), if_neg (by omega), if_neg (by omega), if_neg (by omega), if_neg (by omega), if_neg (by omega), if_neg (by omega)]
  have e50 : ∀ j, j ≠ 1 → mm_gi g 50 j = mm_gi h 50 j := fun j a0 => by rw [e, if_neg (by omega), if_neg (by omega), if_neg (by omega), if_neg (by omega), if_neg (by omega), if_neg (by omega), if_neg (by omega)]
  obtain ⟨hw, hms, htp, -⟩ := id hI
  obtain ⟨⟨v1, v2, v3, v4, v5, v6⟩, w1, w2, w3, w4⟩ := v
  obtain ⟨⟨c1, c2, c3, c4, c5, c6⟩, d1, d2, d3, d4⟩ := hc
  obtain ⟨⟨m1, m2, m3, m4, m5⟩, n1, n2, n3, n4⟩ := hm
  refine Inv_h (S := S) (S' := upS S 9 u j1) FR hI h5 hl (I_misc_ac hms (by rw [e, e]; simp) (fun j hj => e0 j (by omega)) (fun j hj => e91 j (by omega) (by omega) (by omega)) (eo 56 4 (by decide) (by decide) (by decide) (by decide) (by decide)) (fun j => eo 90 j (by decide) (by decide) (by decide) (by decide) (by decide)) (fun j => eo 92 j (by decide) (by decide) (by decide) (by decide) (by decide))) (I_tape_cg (eo 54 1 (by decide) (by decide) (by decide) (by decide) (by decide)) (e91 13 (by omega) (by omega) (by omega)) (fun j => eo 55 j (by decide) (by decide) (by decide) (by decide) (by decide)) (fun j => eo 100 j (by decide) (by decide) (by decide) (by decide) (by decide)) htp) ?_ ?_ ?_ rfl (I_trail_0 (by rw [e]; simp; rfl) (by rw [e]; simp; rfl)) (fun j hj => e93 j (by omega)) (fun c j hk => ?_)
  · refine ⟨⟨v1, v2, v3, v4, v5, v6⟩, w1, w2, w3, (fun k hk => by
      simp [upS]
      by_cases z : k = u
      · simp [z]; exact hj
      · simp [z]; exact w4 k hk)⟩
  · refine ⟨⟨?_, ?_, ?_, ?_, ?_, ?_⟩, fun c hc => ?_, fun l hl => ?_, fun t ht => ?_, fun k hk => ?_⟩
    · rw [eo 4 1 (by decide) (by decide) (by decide) (by decide) (by decide)]; exact c1
    · rw [eo 4 6 (by decide) (by decide) (by decide) (by decide) (by decide)]; exact c2
    · rw [eo 4 10 (by decide) (by decide) (by decide) (by decide) (by decide)]; exact c3
    · rw [eo 4 14 (by decide) (by decide) (by decide) (by decide) (by decide)]; exact c4
    · rw [eo 4 5 (by decide) (by decide) (by decide) (by decide) (by decide)]; exact c5
    · rw [eo 4 16 (by decide) (by decide) (by decide) (by decide) (by decide)]; exact c6
    · rw [eo 8 c (by decide) (by decide) (by decide) (by decide) (by decide), eo 10 c (by decide) (by decide) (by decide) (by decide) (by decide), eo 9 c (by decide) (by decide) (by decide) (by decide) (by decide)]; exact d1 c hc
    · rw [eo 5 l (by decide) (by decide) (by decide) (by decide) (by decide), eo 6 l (by decide) (by decide) (by decide) (by decide) (by decide), eo 7 l (by decide) (by decide) (by decide) (by decide) (by decide)]; exact d2 l hl
    · rw [eo 11 t (by decide) (by decide) (by decide) (by decide) (by decide), eo 12 t (by decide) (by decide) (by decide) (by decide) (by decide)]; exact d3 t ht
    · simp [upS]
      by_cases z : k = u
      · subst z; rw [e]; simp
      · rw [e13 k z]; simp [z]; exact d4 k hk
  · refine ⟨⟨?_, ?_, ?_, ?_, ?_⟩, fun c hc => ?_, fun l hl => ?_, fun t ht => ?_, fun k hk => ?_⟩
    · rw [e93 0 (by omega)]; exact m1
    · rw [e93 (0 + 1) (by omega)]; exact m2
    · rw [e93 (0 + 2) (by omega)]; exact m3
    · rw [e93 (0 + 3) (by omega)]; exact m4
    · rw [e93 (0 + 4) (by omega)]; exact m5
    · have hb : c < S 0 1 := hc; rw [e93 (0 + 8 + c) (by omega), e93 (0 + 14 + c) (by omega), e93 (0 + 52 + c) (by omega)]; exact n1 c hc
    · have hb : l < S 0 0 := hl; rw [e93 (0 + 28 + l) (by omega), e93 (0 + 36 + l) (by omega), e93 (0 + 44 + l) (by omega), e93 (0 + 20 + l) (by omega)]; exact n2 l hl
    · have hb : t < S 0 2 := ht; rw [e93 (0 + 58 + 2 * t) (by omega), e93 (0 + 58 + 2 * t + 1) (by omega)]; exact n3 t ht
    · simp [upS]
      by_cases z : k = u
      · subst z; rw [e]; simp
      · rw [e93 (5 + k) (by omega)]; simp [z]; simpa using n4 k hk
  · unfold kpc at hk
    by_cases z : c = 91
    · subst z; exact e91 j (by omega) (by omega) (by omega)
    · exact eo c j z (by omega) (by omega) (by omega) (by omega)
end
