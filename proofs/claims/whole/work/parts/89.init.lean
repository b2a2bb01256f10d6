/-! the start keeps the invariant -/
def hI0 : mmH := mkI 122 17 27 128
def S00 : HSt := fun a b => if a = 9 ∧ b = 1 then 2 else 0
theorem gr_law : ∀ a, a = 14 ∨ a = 25 ∨ a = 37 ∨ a = 48 ∨ a = 89 → ∀ w, mm_gr hI0 a w = none := by
  intro a ha w
  have key : ∀ i, (GRl.take i).all (fun e => !(Nat.beq e.1 14 || Nat.beq e.1 25 || Nat.beq e.1 37 || Nat.beq e.1 48 || Nat.beq e.1 89)) = true → grI i a w = none := by
    intro i
    induction i with
    | zero => intro _; rfl
    | succ i ih =>
      intro h
      obtain ⟨h1, h2⟩ := take_s (z := (0, 0, 0)) h
      show (if a = (GRl.getD i (0, 0, 0)).1 ∧ w = (GRl.getD i (0, 0, 0)).2.1 then some (GRl.getD i (0, 0, 0)).2.2 else grI i a w) = none
      rw [if_neg (fun q => ?_)]
      · exact ih h1
      · by_cases hi : i < GRl.length
        · have := h2 hi
          rw [← q.1] at this
          rcases ha with rfl | rfl | rfl | rfl | rfl <;> exact absurd this (by decide)
        · have : GRl.getD i (0, 0, 0) = (0, 0, 0) := by simp [List.getD]; simp [List.getElem?_eq_none (Nat.le_of_not_lt hi)]
          rw [this] at q; have := q.1; simp at this; omega
  exact key 128 (by decide +kernel)
theorem ws_0 : WS hI0 := by
  refine ⟨?_, ?_, ?_⟩
  · decide +kernel
  · decide +kernel
  · decide +kernel
theorem inv_0 : Inv LRw hI0 := by
  have g0 : ∀ b j, giI 17 b j = mm_gi hI0 b j := fun _ _ => rfl
  have lw : ∀ a, a = 4 ∨ a = 15 ∨ a = 27 ∨ a = 38 ∨ a = 79 → ∀ w t, mm_gr hI0 (a + 10) w = some t → 122 ≤ t ∧ mm_kd hI0 t = 6 ∧ t < mm_sz hI0 := by
    intro a ha w t h
    rw [gr_law (a + 10) (by omega) w] at h
    cases h
  refine ⟨ws_0, ?_, ⟨0, by decide, by decide, by decide, fun i hi => by omega⟩, ⟨S00, ?_, ?_, ?_, ⟨fun w hw => absurd hw (by show ¬ w < 0; omega), fun w _ t => lw 4 (by omega) w t⟩, ⟨0, by decide, by decide, by decide, fun k hk => by omega⟩⟩, ⟨fun w _ t => lw 27 (by omega) w t, Or.inl ⟨by decide, by decide⟩⟩, ⟨fun w _ t => lw 38 (by omega) w t, Or.inl ⟨by decide, by decide⟩⟩, ⟨0, by decide, by decide, Or.inr ⟨rfl, by decide⟩, fun i hi => by omega⟩, ⟨fun w _ t => lw 15 (by omega) w t, fun w _ t => lw 79 (by omega) w t⟩, ?_⟩
  · refine ⟨⟨?_, ?_, ?_, ?_⟩, ?_, ?_, ?_, ?_, ?_⟩ <;> decide +kernel
  · refine ⟨⟨by decide, by decide, by decide, by decide, by decide, by decide⟩, fun c hc => absurd hc (by show ¬ c < 0; omega), fun c hc => absurd hc (by show ¬ c < 0; omega), fun c hc => absurd hc (by show ¬ c < 0; omega), fun k hk => ?_⟩
    rcases (show k = 0 ∨ k = 1 ∨ k = 2 by omega) with rfl | rfl | rfl <;> decide
  · refine ⟨⟨?_, ?_, ?_, ?_, ?_, ?_⟩, fun c hc => absurd hc (by show ¬ c < 0; omega), fun c hc => absurd hc (by show ¬ c < 0; omega), fun c hc => absurd hc (by show ¬ c < 0; omega), fun k hk => ?_⟩
    any_goals decide +kernel
    rcases (show k = 0 ∨ k = 1 ∨ k = 2 by omega) with rfl | rfl | rfl <;> decide +kernel
  · refine ⟨⟨?_, ?_, ?_, ?_, ?_⟩, fun c hc => absurd hc (by show ¬ c < 0; omega), fun c hc => absurd hc (by show ¬ c < 0; omega), fun c hc => absurd hc (by show ¬ c < 0; omega), fun k hk => ?_⟩
    any_goals decide +kernel
    rcases (show k = 0 ∨ k = 1 ∨ k = 2 by omega) with rfl | rfl | rfl <;> decide +kernel
  · refine ⟨?_, ?_, ?_, ?_, ?_, ?_⟩ <;> decide +kernel
theorem op_init : OP_init (Inv LRw) := init_of inv_0
