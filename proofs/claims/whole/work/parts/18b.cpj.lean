theorem hsh_cg {h g : mmH} {a : Nat} (e1 : mm_kd g = mm_kd h) (e2 : mm_ln g = mm_ln h) (e3 : mm_gr g = mm_gr h) (e4 : mm_sz g = mm_sz h) (H : hsh h a) : hsh g a := by
  unfold hsh
  rw [e1, e2, e3, e4]
  exact H
/-- enough is known of a heap to forget how it came -/
theorem mm_abs {P X : mmH → Prop} {g : mmH} (hP : P g) (hX : ∀ g', P g' → X g') : X g := hX g hP
def clen : Nat → Nat
  | 4 => 6
  | 5 => 6
  | 6 => 6
  | 9 => 3
  | _ => 8
/-- on the way: scalars of S and arrays up to n are copied -/
def CJ (h : mmH) (a b : Nat) (S : List Nat) (n : Nat) (g : mmH) : Prop :=
  (mm_kd g = mm_kd h ∧ mm_ln g = mm_ln h ∧ mm_gl g = mm_gl h ∧ mm_gr g = mm_gr h ∧ mm_sz g = mm_sz h) ∧ (∀ c j, (c < a ∨ a + 9 < c) → mm_gi g c j = mm_gi h c j) ∧ (∀ i, 1 ≤ i → i ≤ n → ∀ j, j < clen i → mm_gi g (a + i) j = mm_gi h (b + i) j) ∧ ∀ s ∈ S, mm_gi g a s = mm_gi h b s
section
variable {h g : mmH} {a b n : Nat} {S : List Nat}
theorem CJ_0 : CJ h a b [] 0 h := ⟨⟨rfl, rfl, rfl, rfl, rfl⟩, fun _ _ _ => rfl, fun i h1 h2 => by omega, fun s hs => by cases hs⟩
theorem CJ_pi {s : Nat} {x : Int32} (hab : b + 10 < a ∨ a + 10 < b) (J : CJ h a b S n g) (hx : x = mm_gi g b s) : CJ h a b (s :: S) n (mm_pi g a s x) := by
  obtain ⟨j1, j2, j3, j4⟩ := J
  have hx2 : x = mm_gi h b s := hx.trans (j2 b s (by omega))
  refine ⟨j1, fun c j hc => ?_, fun i i1 i2 j hj => ?_, fun t ht => ?_⟩
  · rw [mm_gi_pi, if_neg (by omega)]; exact j2 c j hc
  · rw [mm_gi_pi, if_neg (by omega)]; exact j3 i i1 i2 j hj
  · rw [mm_gi_pi]
    by_cases z : t = s
    · rw [if_pos ⟨rfl, z⟩, hx2, z]
    · rw [if_neg (fun y => z y.2)]
      rcases List.mem_cons.mp ht with rfl | ht
      · exact absurd rfl z
      · exact j4 t ht
theorem CJ_pa {i l : Nat} (hab : b + 10 < a ∨ a + 10 < b) (hi : i = n + 1) (hi9 : i ≤ 9) (hl : clen i = l) (J : CJ h a b S n g) : CJ h a b S (n + 1) (mm_pa g (a + i) (va_cpy (mm_gi g (b + i)) (mm_gi g (a + i)) 0 0 l)) := by
  obtain ⟨j1, j2, j3, j4⟩ := J
  refine ⟨j1, fun c j hc => ?_, fun q i1 i2 j hj => ?_, fun t ht => ?_⟩
  · rw [mm_gi_pa, if_neg (by omega)]; exact j2 c j hc
  · rw [mm_gi_pa]
    by_cases z : q = i
    · subst z
      rw [if_pos rfl, va_cpy, if_pos ⟨Nat.zero_le _, by omega⟩, Nat.zero_add, Nat.sub_zero]
      exact j2 _ _ (by omega)
    · rw [if_neg (by omega)]; exact j3 q i1 (by omega) j hj
  · rw [mm_gi_pa, if_neg (by omega)]; exact j4 t ht
end
