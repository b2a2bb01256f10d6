/-! what calls may scribble on -/
def scr (c j : Nat) : Prop := c = 2 ∨ c = 3 ∨ (15 ≤ c ∧ c ≤ 25) ∨ c = 52 ∨ c = 53 ∨ (c = 56 ∧ j ≠ 4) ∨ (57 ≤ c ∧ c ≤ 76) ∨ (79 ≤ c ∧ c ≤ 89 ∧ c ≠ 83 ∧ c ≠ 85 ∧ (c = 79 → j ≠ 6)) ∨ (c = 0 ∧ (j = 15 ∨ j = 16)) ∨ (c = 91 ∧ j ≠ 1 ∧ j ≠ 8 ∧ j ≠ 11 ∧ j ≠ 13 ∧ j ≠ 18 ∧ j ≠ 20 ∧ j ≠ 52 ∧ j ≠ 56) ∨ (c = 96 ∧ 368 ≤ j) ∨ c = 98 ∨ c = 99 ∨ (101 ≤ c ∧ c ≤ 105) ∨ (112 ≤ c ∧ c ≤ 116) ∨ c = 120
def scl (c : Nat) : Prop := c ≠ 106 ∧ c ≠ 107 ∧ c ≠ 108 ∧ c ≠ 118 ∧ c ≠ 119
theorem scr_C {h g : mmH} (F : fx xC y0 h g) : fx scr scl h g := fx_mo (fun c j z => by unfold xC at z; unfold scr; omega) (fun c z => z.elim) F
theorem scr_L {h g : mmH} (F : fx xL yL h g) : fx scr scl h g := fx_mo (fun c j z => by unfold xL at z; unfold scr; omega) (fun c z => by unfold yL at z; unfold scl; omega) F
theorem scr_th {h g : mmH} {x : Int32} (F : fx scr scl h g) : fx scr scl h (mm_pi g 91 0 x) := fx_pi (by unfold scr; omega) F
section
variable {LR : mmH → Nat → (Nat → Int32) → Nat → Prop}
theorem fx_t {h g : mmH} (F : fx scr scl h g) : ∀ c, 122 ≤ c → mm_kd g c = mm_kd h c ∧ mm_ln g c = mm_ln h c ∧ (∀ j, mm_gi g c j = mm_gi h c j) ∧ ∀ j, mm_gr g c j = mm_gr h c j := fun c hc => ⟨by rw [F.1.1], by rw [F.1.2.1], fun j => F.2.1 c j (by unfold scr; omega), fun j => by rw [F.1.2.2.1]⟩
theorem I_img_fx (FR : LRf LR) {h g : mmH} {k a : Nat} (ha : a = 27 ∨ a = 38) (F : fx scr scl h g) (H : I_img LR h k a) : I_img LR g k a := by
  refine ⟨fun w hw t ht => ?_, ?_⟩
  · rw [F.1.1, F.1.2.2.2]
    rw [F.1.2.2.1] at ht
    exact H.1 w hw t ht
  · rw [F.2.1 49 k (by unfold scr; omega), F.2.1 95 k (by unfold scr; omega)]
    rcases H.2 with z | ⟨z1, z2, S, v, c, m, lw⟩
    · exact Or.inl z
    · have ef : mm_gi g 94 = mm_gi h 94 := funext fun j => F.2.1 94 j (by unfold scr; omega)
      exact Or.inr ⟨z1, z2, S, v, HC_cg (fun c j c1 c2 => F.2.1 c j (by unfold scr; omega)) c, by rw [ef]; exact m, HLw_cg FR v.1.2.2.2.1 (fx_t F) (by rw [F.1.2.2.2]; exact Nat.le_refl _) (fun w => by rw [F.1.2.2.1]) (fun j _ _ => by rw [ef]) lw⟩
theorem I_trail_fx {h g : mmH} {S : HSt} (F : fx scr scl h g) (v : HV S) (H : I_trail h S) : I_trail g S := by
  obtain ⟨n, h1, h2, h3, h4⟩ := H
  have v1 := v.1.1
  have v2 := v.1.2.1
  refine ⟨n, h1, by rw [F.2.1 50 1 (by unfold scr; omega)]; exact h2, by rw [F.2.1 91 8 (by unfold scr; omega)]; exact h3, fun k hk => ?_⟩
  obtain ⟨j, A, D, kn, gw, q1, q2, q3, q4, ⟨q5, q6, q7, q8⟩, q9, q10, q11, q12, q13, q14⟩ := h4 k hk
  have e1 : ∀ j, mm_gi g 51 j = mm_gi h 51 j := fun j => F.2.1 51 j (by unfold scr; omega)
  have e2 : ∀ j, j < 368 → mm_gi g 96 j = mm_gi h 96 j := fun j hj => F.2.1 96 j (by unfold scr; omega)
  have e3 : ∀ j, mm_gi g 97 j = mm_gi h 97 j := fun j => F.2.1 97 j (by unfold scr; omega)
  refine ⟨j, A, D, kn, gw, q1, q2, q3, q4, ⟨by rw [e1]; exact q5, by rw [e1]; exact q6, by rw [e1]; exact q7, fun c hc => ?_⟩, by rw [e3]; exact q9, by rw [e2 _ (by omega)]; exact q10, by rw [e2 _ (by omega)]; exact q11, by rw [e2 _ (by omega)]; exact q12, fun c hc => ?_, fun l hl => ?_⟩
  · rw [e1, e1]; exact q8 c hc
  · rw [e2 _ (by omega), e2 _ (by omega)]; exact q13 c hc
  · rw [e2 _ (by omega)]; exact q14 l hl
theorem Inv_fx (FR : LRf LR) {h g : mmH} (F : fx scr scl h g) (hI : Inv LR h) : Inv LR g := by
  obtain ⟨hw, ⟨⟨a1, a2, a3, a4⟩, a5, a6, a7, a8, a9⟩, ⟨n, t1, t2, t3, t4⟩, ⟨S, v, hc, hm, hl, tr⟩, i0, i1, ⟨c, q1, q2, q3, q4⟩, ⟨lr1, lr2⟩, c1, c2, c3, c4, c5, c6⟩ := hI
  have e := F.2.1
  refine ⟨fx_WS F hw, ⟨⟨?_, ?_, ?_, ?_⟩, ?_, ?_, ?_, ?_, ?_⟩, ⟨n, t1, ?_, ?_, fun i hi => ?_⟩, ⟨S, v, HC_cg (fun c j c1 c2 => e c j (by unfold scr; omega)) hc, ?_, ?_, I_trail_fx F v tr⟩, I_img_fx FR (by decide) F i0, I_img_fx FR (by decide) F i1, ⟨c, q1, ?_, ?_, fun i hi => ?_⟩, ⟨?_, ?_⟩, ?_, ?_, ?_, ?_, ?_, ?_⟩
  · rw [e 0 12 (by unfold scr; omega), e 91 1 (by unfold scr; omega)]; exact a1
  · rw [e 0 13 (by unfold scr; omega), e 91 52 (by unfold scr; omega)]; exact a2
  · rw [e 0 14 (by unfold scr; omega), e 91 11 (by unfold scr; omega)]; exact a3
  · rw [e 56 4 (by unfold scr; omega), e 91 18 (by unfold scr; omega)]; exact a4
  · rw [e 90 0 (by unfold scr; omega), e 92 1 (by unfold scr; omega)]; exact a5
  · rw [e 90 1 (by unfold scr; omega), e 92 2 (by unfold scr; omega)]; exact a6
  · rw [e 90 2 (by unfold scr; omega), e 92 3 (by unfold scr; omega)]; exact a7
  · rw [e 90 3 (by unfold scr; omega), e 92 5 (by unfold scr; omega)]; exact a8
  · rw [e 90 4 (by unfold scr; omega), e 92 6 (by unfold scr; omega)]; exact a9
  · rw [e 54 1 (by unfold scr; omega)]; exact t2
  · rw [e 91 13 (by unfold scr; omega)]; exact t3
  · rw [e 55 i (by unfold scr; omega), e 100 i (by unfold scr; omega)]; exact t4 i hi
  · rw [show mm_gi g 93 = mm_gi h 93 from funext fun j => e 93 j (by unfold scr; omega)]; exact hm
  · rw [show mm_gi g 93 = mm_gi h 93 from funext fun j => e 93 j (by unfold scr; omega)]
    exact HLw_cg FR v.1.2.2.2.1 (fx_t F) (by rw [F.1.2.2.2]; exact Nat.le_refl _) (fun w => by rw [F.1.2.2.1]) (fun j _ _ => rfl) hl
  · rw [e 79 6 (by unfold scr; omega)]; exact q2
  · rw [e 91 56 (by unfold scr; omega)]; exact q3
  · rw [e 83 i (by unfold scr; omega), e 85 i (by unfold scr; omega), e 121 i (by unfold scr; omega), e 121 (6 + i) (by unfold scr; omega)]; exact q4 i hi
  · intro w hw t ht
    rw [F.1.2.2.1] at ht
    rw [F.1.1, F.1.2.2.2]
    exact lr1 w hw t ht
  · intro w hw t ht
    rw [F.1.2.2.1] at ht
    rw [F.1.1, F.1.2.2.2]
    exact lr2 w hw t ht
  · rw [F.2.2.1 106 (by unfold scl; omega)]; exact c1
  · rw [F.2.2.1 107 (by unfold scl; omega)]; exact c2
  · rw [F.2.2.1 108 (by unfold scl; omega)]; exact c3
  · rw [F.2.2.1 118 (by unfold scl; omega)]; exact c4
  · rw [F.2.2.1 119 (by unfold scl; omega)]; exact c5
  · rw [e 91 20 (by unfold scr; omega)]; exact c6
end
/-- what a query needs of the invariant -/
def QI (h : mmH) (S : HSt) (A : Option lwD) : Prop := WS h ∧ HV S ∧ HC h 4 S ∧ CAL h 4 S A ∧ HM (mm_gi h 93) 0 S ∧ MAL (mm_gi h 93) S A ∧ mm_gi h 91 20 = 0
theorem QI_of {h : mmH} (hI : Inv LRw h) : ∃ S A, QI h S A := by
  obtain ⟨hw, -, -, ⟨S, v, hc, hm, hl, -⟩, -, -, -, -, -, -, -, -, -, c6⟩ := hI
  obtain ⟨A, a1, a2⟩ := AL_of v hl
  exact ⟨S, A, hw, v, hc, a1, hm, a2, c6⟩
theorem CAL_s {h g : mmH} {S : HSt} {A : Option lwD} {a : Nat} (F : fx scr scl h g) (H : CAL h a S A) : CAL g a S A := by
  refine ⟨by rw [F.1.2.2.1]; exact H.1, ?_⟩
  rcases H.2 with z | ⟨t, L, z1, z2, z3, z4, z5, z6⟩
  · exact Or.inl z
  · exact Or.inr ⟨t, L, z1, by rw [F.1.2.2.1]; exact z2, z3, CLW_cg (fun c c1 c2 c3 => fx_t F c (by omega)) (Nat.le_of_eq F.1.2.2.2.symm) z4, z5, z6⟩
theorem QI_fx {h g : mmH} {S : HSt} {A : Option lwD} (F : fx scr scl h g) (H : QI h S A) : QI g S A := by
  obtain ⟨q1, q2, q3, q4, q5, q6, q7⟩ := H
  have e : mm_gi g 93 = mm_gi h 93 := funext fun j => F.2.1 93 j (by unfold scr; omega)
  exact ⟨fx_WS F q1, q2, HC_cg (fun c j c1 c2 => F.2.1 c j (by unfold scr; omega)) q3, CAL_s F q4, by rw [e]; exact q5, by rw [e]; exact q6, by rw [F.2.1 91 20 (by unfold scr; omega)]; exact q7⟩
noncomputable def b01 (p : Prop) : Int32 := @ite _ p (Classical.propDecidable p) 1 0
theorem b01_t {p : Prop} (h : p) : b01 p = 1 := if_pos h
theorem b01_f {p : Prop} (h : ¬ p) : b01 p = 0 := if_neg h
