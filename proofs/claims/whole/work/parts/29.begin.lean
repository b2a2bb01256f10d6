/-! from the law's entry to its loop -/
def mm_e : mmH := (fun _ => 0, fun _ => 0, fun _ _ => 0, fun _ _ => 0, fun _ _ => none, 0)
/-- what the two constructors owe -/
def OP_init (I : mmH → Prop) : Prop := mm_MV q_X9_init 1000 (90, 10000) [.ref 0] (mm_nw mm_e 9 17) (fun v h2 => v = none ∧ mm_sz h2 = 91 ∧ mm_MV q_X10_init 1000 (30, 40000) [.ref 91] (mm_nw h2 10 57) (fun v h3 => v = none ∧ I h3))
theorem begin_VL {L : Nat} {xs : Nat → Int32} {I : mmH → Prop} (hinit : OP_init I) (K : ∀ h, I h → mm_VL L xs (8 * 513, 880 * 513) 18 [some (.retAddr 300), some (.ref 0), some (.ref 91), some (.int (nI 0))] [] h) : mm_VL L xs (122 + 8 * 513, 50074 + 880 * 513) 0 [some (.retAddr 300), none, none, none] [] mm_e := by
  refine vl_new (pc := 0) (idx := 7) (ci := 9) (b := (121 + 8 * 513, 50057 + 880 * 513)) (by decide +kernel) (by decide) (mm_u1 20 rfl rfl) (mm_u1 21 rfl rfl) (mm_u1 1 rfl rfl) (by decide) ?_
  refine vl_dup (pc := 3) (by decide +kernel) ?_
  refine vl_ci (pc := 4) (idx := 9) (As := []) (b := (31 + 8 * 513, 40057 + 880 * 513)) (bb := (90, 10000)) (by decide +kernel) mf_X9_init ⟨rfl, rfl⟩ im_X9_init (mm_u1 22 rfl rfl) rfl (Nat.le_of_ble_eq_true rfl) (by decide) (mm_MV.mono (fun v h2 k2 => ?_) hinit)
  obtain ⟨rfl, hsz, k2⟩ := k2
  refine vl_astore (pc := 7) (k := 1) (by decide +kernel) rfl (by decide) ?_
  refine vl_new (pc := 8) (idx := 10) (ci := 10) (b := (30 + 8 * 513, 40000 + 880 * 513)) (by decide +kernel) (by decide) (mm_u5 1 rfl rfl) (mm_u5 2 rfl rfl) (mm_u1 11 rfl rfl) (by decide) ?_
  rw [hsz]
  refine vl_dup (pc := 11) (by decide +kernel) ?_
  refine vl_ci (pc := 12) (idx := 12) (As := []) (b := (8 * 513, 880 * 513)) (bb := (30, 40000)) (by decide +kernel) mf_X10_init ⟨rfl, rfl⟩ im_X10_init (mm_u5 3 rfl rfl) rfl (Nat.le_of_ble_eq_true rfl) (by decide) (mm_MV.mono (fun v h3 k3 => ?_) k2)
  obtain ⟨rfl, k3⟩ := k3
  refine vl_astore (pc := 15) (k := 2) (by decide +kernel) rfl (by decide) ?_
  refine vl_iconst (pc := 16) (n := 0) (x := nI 0) (by decide +kernel) (by decide) ?_
  refine vl_istore (pc := 17) (k := 3) (by decide +kernel) rfl (by decide) ?_
  exact K h3 k3
theorem whole_of {I : mmH → Prop} (hinit : OP_init I) (hloop : ∀ (L : Nat) (xs : Nat → Int32), L ≤ 3072 → ∀ h, I h → mm_VL L xs (8 * 513, 880 * 513) 18 [some (.retAddr 300), some (.ref 0), some (.ref 91), some (.int (nI 0))] [] h)
    {p : Program} {e : Env} {s : State} {m : MethodId} {below : List Frame} {meth : Method} {c : Code} (l : Launch) {b L : Nat} {xs : Nat → Int32} (hL : L ≤ 3072) (C0 : lw_At p s m meth c b L xs) : W p l e room_1 s m #[Value.ref b] below meth c s.heap [] 0 0 (lw_Z below #[Value.ref b] s) (entryFrame m ([Value.ref b] : List Value).toArray 4) := by
  obtain ⟨G0, hG0⟩ := mm_GK0 C0.2.2.2.2.2.1 C0.2.2.2.2.2.2.2.2.2
  have hG : mm_GK (G0.1, G0.2.1, fun i => if i = 300 then b else G0.2.2 i) (fun q => s.heap.size ≤ q) s := by
    obtain ⟨g1, g2, g3, g4, g5⟩ := hG0
    refine ⟨g1, ⟨fun i hi => ?_, fun i j hi hj e => ?_⟩, g3, fun i x hx => ?_, ?_⟩
    · have hi10 : i < 10 := hi
      have := g2.1 i hi
      show va_O _ (if i = 300 then b else G0.2.2 i) _ _ _ ∧ va_OF _ _ _ _ (if i = 300 then b else G0.2.2 i) _ _ _ ∧ va_OF _ _ _ (.ref (if 100 + i = 300 then b else G0.2.2 (100 + i))) (if i = 300 then b else G0.2.2 i) _ _ _ ∧ va_T _ (if 100 + i = 300 then b else G0.2.2 (100 + i)) _ _ _ _ _
      rw [if_neg (by omega), if_neg (by omega)]
      exact this
    · have hi10 : i < 10 := hi
      have hj10 : j < 10 := hj
      have e : (if i = 300 then b else G0.2.2 i) = (if j = 300 then b else G0.2.2 j) := e
      rw [if_neg (by omega), if_neg (by omega)] at e
      exact g2.2 i j hi hj e
    · have hi10 : i < 10 := (List.getElem?_eq_some_iff.mp hx).1
      show vk_R _ _ _ (if i = 300 then b else G0.2.2 i) s
      rw [if_neg (by omega)]
      exact g4 i x hx
    · show _ ∨ va_Z _ _ _ (.ref (if (200 : Nat) = 300 then b else G0.2.2 200)) _ _ _
      rw [if_neg (by decide)]
      exact g5
  rw [lg_entry_eq]
  have hl := lv_entry ([.ref b]) (n := 4) (Nat.le_of_ble_eq_true rfl)
  refine begin_VL hinit (hloop L xs hL) p l e s m below meth c b _ (fun _ => 0) s.heap [] 0 0 _ C0 (by show (if (300 : Nat) = 300 then b else G0.2.2 300) = b; exact if_pos rfl) hG va_S.rf ⟨fun k q h => by simp [mm_wl, mm_e, mm_sz] at h, ⟨fun i j p q h => by simp [mm_wl, mm_e, mm_sz] at h, fun k q h => by simp [mm_wl, mm_e, mm_sz] at h⟩, fun a k b ha => by simp [mm_e, mm_sz] at ha⟩ (by decide) (by decide) ?_ (fun v hm => ?_) (fun v hm => by cases hm)
  · show lv_has _ 4 [(0, .ref (if (300 : Nat) = 300 then b else G0.2.2 300))]
    rw [if_pos rfl]
    exact hl
  · simp at hm
    subst hm
    exact mm_vok_s _ _
