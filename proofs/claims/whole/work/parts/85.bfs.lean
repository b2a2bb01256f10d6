/-! lesson: the class's search, pure -/
section
variable {N : Nat → Nat → Nat} {nd L s : Nat} {r rl ka wt r' rl' ka' wt' : Nat → Int32} {q : Nat → Nat} {W i l v n : Nat}
def Bq (r wt : Nat → Int32) (q : Nat → Nat) (W : Nat) : Prop := (∀ u, u < 256 → r u = -1 ∨ ∃ n, n < W ∧ r u = nI n) ∧ (∀ j, j < W → q j < 256 ∧ wt j = nI (q j) ∧ r (q j) ≠ -1) ∧ cnR r 256 = W
def Bf (N : Nat → Nat → Nat) (nd L s : Nat) (r rl ka : Nat → Int32) (q : Nat → Nat) (W k p : Nat) : Prop := (k ≤ dD N nd L s ∧ p < W ∧ q p = gp N nd L s k ∧ r (gp N nd L s k) = nI k) ∧ (∀ u, u < 256 → r u ≠ -1 → dD N nd L s - k ≤ dD N nd L u) ∧ (∀ j, j < p → dD N nd L s - k < dD N nd L (q j)) ∧ ∀ j, j < k → r (gp N nd L s (j + 1)) ≠ -1 ∧ rl (gp N nd L s (j + 1)) = nI (nxt N nd L (gp N nd L s j)) ∧ ka (gp N nd L s (j + 1)) = nI (gp N nd L s j)
def Bi (N : Nat → Nat → Nat) (nd L : Nat) (r : Nat → Int32) : Prop := ∀ u, u < 256 → r u ≠ -1 → 100000000 ≤ dD N nd L u
def BB (N : Nat → Nat → Nat) (nd L s : Nat) (r rl ka : Nat → Int32) (q : Nat → Nat) (W i : Nat) : Prop := (dD N nd L s < 100000000 ∧ ∃ k p, Bf N nd L s r rl ka q W k p ∧ i ≤ p) ∨ (¬ dD N nd L s < 100000000 ∧ Bi N nd L r)
def BI (N : Nat → Nat → Nat) (nd L s : Nat) (r rl ka : Nat → Int32) (q : Nat → Nat) (W i l : Nat) : Prop := (dD N nd L s < 100000000 ∧ ∃ k p, Bf N nd L s r rl ka q W k p ∧ (i < p ∨ (i = p ∧ k < dD N nd L s ∧ l ≤ nxt N nd L (gp N nd L s k)))) ∨ (¬ dD N nd L s < 100000000 ∧ Bi N nd L r)
theorem Bq_W (b : Bq r wt q W) : W ≤ 256 := by rw [← b.2.2]; exact cnR_le 256
/-- the end of a node's letters -/
theorem BI_end (hN : NOk N L) (hs : s < 256) (b : BI N nd L s r rl ka q W i L) : BB N nd L s r rl ka q W (i + 1) := by
  rcases b with ⟨h1, k, p, b, z⟩ | z
  · refine Or.inl ⟨h1, k, p, b, ?_⟩
    rcases z with z | ⟨z1, z2, z3⟩
    · omega
    · obtain ⟨g1, g2⟩ := gp_ok (nd := nd) hN hs h1 k (by omega)
      have := (nxt_ok (nd := nd) hN g1 (by omega) (by omega)).1
      omega
  · exact Or.inr z
/-- a node that is no goal -/
theorem BB_in (hN : NOk N L) (hs : s < 256) (hq : q i < 256) (b : BB N nd L s r rl ka q W i) (ng : ¬ q i &&& nd = nd) : BI N nd L s r rl ka q W i 0 := by
  rcases b with ⟨h1, k, p, b, z⟩ | z
  · refine Or.inl ⟨h1, k, p, b, ?_⟩
    by_cases y : i = p
    · refine Or.inr ⟨y, ?_, Nat.zero_le _⟩
      obtain ⟨g1, g2⟩ := gp_ok (nd := nd) hN hs h1 k b.1.1
      have e := b.1.2.2.1
      rw [← y] at e
      have : dD N nd L (q i) ≠ 0 := fun w => ng ((dD_0 hN hq).mp w)
      rw [e] at this
      omega
    · exact Or.inl (by omega)
  · exact Or.inr z
/-- a goal -/
theorem BB_goal (hN : NOk N L) (hs : s < 256) (hi : i < W) (bq : Bq r wt q W) (b : BB N nd L s r rl ka q W i) (g : q i &&& nd = nd) : dD N nd L s < 100000000 ∧ q i = gp N nd L s (dD N nd L s) ∧ r (q i) = nI (dD N nd L s) ∧ ∀ j, j < dD N nd L s → rl (gp N nd L s (j + 1)) = nI (nxt N nd L (gp N nd L s j)) ∧ ka (gp N nd L s (j + 1)) = nI (gp N nd L s j) := by
  obtain ⟨hq, -, hr⟩ := bq.2.1 i hi
  have d0 := (dD_0 (nd := nd) hN hq).mpr g
  rcases b with ⟨h1, k, p, b, z⟩ | z
  · have y : i = p := by
      refine Decidable.byContradiction (fun y => ?_)
      have := b.2.2.1 i (by omega)
      omega
    obtain ⟨g1, g2⟩ := gp_ok (nd := nd) hN hs h1 k b.1.1
    have e := b.1.2.2.1
    rw [← y] at e
    have km : k = dD N nd L s := by
      have := b.1.1
      rw [← e] at g2
      omega
    subst km
    exact ⟨h1, e, by rw [e]; exact b.1.2.2.2, fun j hj => (b.2.2.2 j hj).2⟩
  · have := z.2 (q i) hq hr
    omega
/-- a letter that leads where it was -/
theorem BI_skip (hN : NOk N L) (hs : s < 256) (hi : i < W) (hl : l < L) (bq : Bq r wt q W) (b : BI N nd L s r rl ka q W i l) (hv : r (N l (q i)) ≠ -1) : BI N nd L s r rl ka q W i (l + 1) := by
  rcases b with ⟨h1, k, p, b, z⟩ | z
  · refine Or.inl ⟨h1, k, p, b, ?_⟩
    rcases z with z | ⟨z1, z2, z3⟩
    · exact Or.inl z
    · refine Or.inr ⟨z1, z2, ?_⟩
      refine Decidable.byContradiction (fun y => ?_)
      obtain rfl : l = nxt N nd L (gp N nd L s k) := by omega
      obtain ⟨g1, g2⟩ := gp_ok (nd := nd) hN hs h1 (k + 1) (by omega)
      have e := b.1.2.2.1
      rw [← z1] at e
      rw [e] at hv
      have := b.2.1 _ g1 hv
      omega
  · exact Or.inr z
/-- a letter that leads on -/
theorem BI_new (hN : NOk N L) (hs : s < 256) (hi : i < W) (hl : l < L) (bq : Bq r wt q W) (b : BI N nd L s r rl ka q W i l) (hv : N l (q i) = v) (rv : r v = -1) (hn : r (q i) = nI n) (hnW : n < W)
    (e1 : ∀ u, r' u = if u = v then nI (n + 1) else r u) (e2 : ∀ u, rl' u = if u = v then nI l else rl u) (e3 : ∀ u, ka' u = if u = v then nI (q i) else ka u) (e4 : ∀ j, wt' j = if j = W then nI v else wt j) {q' : Nat → Nat} (e5 : ∀ j, q' j = if j = W then v else q j) :
    W < 256 ∧ Bq r' wt' q' (W + 1) ∧ BI N nd L s r' rl' ka' q' (W + 1) i (l + 1) := by
  obtain ⟨hq, -, hr⟩ := bq.2.1 i hi
  obtain ⟨n1, n2⟩ := hN l (q i) hl hq
  rw [hv] at n1 n2
  have vne : v ≠ q i := fun z => hr (by rw [← z]; exact rv)
  have st := dD_st (nd := nd) hN hq hl
  rw [hv] at st
  have W6 : W < 256 := by rw [← bq.2.2]; exact cnR_lt rv 256 n1
  have r'v : r' v ≠ -1 := by rw [e1, if_pos rfl]; exact nI_m1 (by omega)
  have keep : ∀ u, r u ≠ -1 → u ≠ v := fun u h z => h (by rw [z]; exact rv)
  refine ⟨W6, ⟨fun u hu => ?_, fun j hj => ?_, ?_⟩, ?_⟩
  · rw [e1]
    by_cases z : u = v
    · rw [if_pos z]; exact Or.inr ⟨n + 1, by omega, rfl⟩
    · rw [if_neg z]
      rcases bq.1 u hu with y | ⟨n, y1, y2⟩
      · exact Or.inl y
      · exact Or.inr ⟨n, by omega, y2⟩
  · by_cases z : j = W
    · rw [e5, if_pos z, e4, if_pos z]
      exact ⟨n1, rfl, r'v⟩
    · rw [e5, if_neg z, e4, if_neg z]
      obtain ⟨a, b, c⟩ := bq.2.1 j (by omega)
      exact ⟨a, b, by rw [e1, if_neg (keep _ c)]; exact c⟩
  · rw [cnR_up rv r'v (fun u hu => by rw [e1, if_neg hu]) 256, if_pos n1, bq.2.2]
  · rcases b with ⟨h1, k, p, b, z⟩ | ⟨z1, z2⟩
    · refine Or.inl ⟨h1, ?_⟩
      obtain ⟨⟨b1, b2, b3, b4⟩, b5, b6, b7⟩ := b
      obtain ⟨g1, g2⟩ := gp_ok (nd := nd) hN hs h1 k b1
      have rgk : r (gp N nd L s k) ≠ -1 := by rw [b4]; exact nI_m1 (by have := dD_8 (nd := nd) hN (256 - s) s (by omega) hs h1; omega)
      -- the row stays, if v is no nearer
      have same : dD N nd L s - k ≤ dD N nd L v → Bf N nd L s r' rl' ka' q' (W + 1) k p := by
        intro dv
        refine ⟨⟨b1, by omega, by rw [e5, if_neg (by omega)]; exact b3, by rw [e1, if_neg (keep _ rgk)]; exact b4⟩, fun u hu hr' => ?_, fun j hj => ?_, fun j hj => ?_⟩
        · by_cases y : u = v
          · rw [y]; exact dv
          · rw [e1, if_neg y] at hr'; exact b5 u hu hr'
        · rw [e5, if_neg (by omega)]; exact b6 j hj
        · obtain ⟨c1, c2, c3⟩ := b7 j hj
          have kp := keep _ c1
          exact ⟨by rw [e1, if_neg kp]; exact c1, by rw [e2, if_neg kp]; exact c2, by rw [e3, if_neg kp]; exact c3⟩
      rcases z with z | ⟨z1, z2, z3⟩
      · have := b6 i z
        exact ⟨k, p, same (by omega), Or.inl z⟩
      · have eu : q i = gp N nd L s k := by rw [z1]; exact b3
        rw [eu] at st hv vne
        obtain ⟨x1, ⟨x2, x3⟩, x4⟩ := nxt_ok (nd := nd) hN g1 (by omega) (by omega)
        by_cases y : l = nxt N nd L (gp N nd L s k)
        · subst y
          have ev : gp N nd L s (k + 1) = v := hv
          have dv : dD N nd L v + 1 = dD N nd L (gp N nd L s k) := by rw [← hv]; exact x3
          have enk : n = k := by
            rw [eu, b4] at hn
            exact ((nI_eq (by have := dD_8 (nd := nd) hN (256 - s) s (by omega) hs h1; omega) (by omega)).mp hn).symm
          refine ⟨k + 1, W, ⟨⟨by omega, by omega, by rw [e5, if_pos rfl, ev], by rw [ev, e1, if_pos rfl, enk]⟩, fun u hu hr' => ?_, fun j hj => ?_, fun j hj => ?_⟩, Or.inl hi⟩
          · by_cases w : u = v
            · rw [w]; omega
            · rw [e1, if_neg w] at hr'
              have := b5 u hu hr'
              omega
          · rw [e5, if_neg (by omega)]
            obtain ⟨a1, a2, a3⟩ := bq.2.1 j hj
            have := b5 _ a1 a3
            omega
          · by_cases w : j = k
            · subst w
              rw [ev]
              exact ⟨r'v, by rw [e2, if_pos rfl], by rw [e3, if_pos rfl, eu]⟩
            · obtain ⟨c1, c2, c3⟩ := b7 j (by omega)
              have kp := keep _ c1
              exact ⟨by rw [e1, if_neg kp]; exact c1, by rw [e2, if_neg kp]; exact c2, by rw [e3, if_neg kp]; exact c3⟩
        · have np := x4 l (by omega)
          have : ¬ dD N nd L v + 1 = dD N nd L (gp N nd L s k) := fun w => np ⟨by rw [hv]; exact vne, by rw [hv]; exact w⟩
          exact ⟨k, p, same (by omega), Or.inr ⟨z1, z2, by omega⟩⟩
    · refine Or.inr ⟨z1, fun u hu hr' => ?_⟩
      by_cases y : u = v
      · have := z2 _ hq hr
        rw [y]
        refine Decidable.byContradiction (fun w => ?_)
        have := dD_8 (nd := nd) hN (256 - v) v (by omega) n1 (by omega)
        omega
      · rw [e1, if_neg y] at hr'; exact z2 u hu hr'
/-- the start -/
theorem cnR_cg {f g : Nat → Int32} : ∀ n, (∀ u, u < n → f u = g u) → cnR f n = cnR g n
  | 0, _ => rfl
  | n + 1, e => by rw [cnR, cnR, cnR_cg n (fun u hu => e u (by omega)), e n (by omega)]
theorem B_start (hN : NOk N L) (hs : s < 256) (e1 : ∀ u, u < 256 → r u = if u = s then 0 else -1) (e4 : wt 0 = nI s) : Bq r wt (fun _ => s) 1 ∧ BB N nd L s r rl ka (fun _ => s) 1 0 := by
  have rs : r s = nI 0 := by rw [e1 s hs, if_pos rfl]; rfl
  have rs' : r s ≠ -1 := by rw [rs]; exact nI_m1 (by decide)
  have c0 : ∀ n, cnR (fun _ => (-1 : Int32)) n = 0 := fun n => by
    induction n with
    | zero => rfl
    | succ n ih => rw [cnR, ih, pif_t rfl]
  have w0 : ∀ j, j < 1 → wt j = nI s := fun j hj => by rw [show j = 0 by omega]; exact e4
  refine ⟨⟨fun u hu => ?_, fun j hj => ⟨hs, w0 j hj, rs'⟩, ?_⟩, ?_⟩
  · rw [e1 u hu]
    split
    · exact Or.inr ⟨0, by omega, rfl⟩
    · exact Or.inl rfl
  · rw [cnR_cg 256 e1, cnR_up (f := fun _ => -1) (f' := fun u => if u = s then 0 else -1) (v := s) rfl (by show (if s = s then (0 : Int32) else -1) ≠ -1; rw [if_pos rfl]; decide) (fun u hu => if_neg hu) 256, if_pos hs, c0]
  · by_cases h1 : dD N nd L s < 100000000
    · refine Or.inl ⟨h1, 0, 0, ⟨⟨Nat.zero_le _, by omega, rfl, rs⟩, fun u hu hr => ?_, fun j hj => by omega, fun j hj => by omega⟩, Nat.le_refl _⟩
      rw [e1 u hu] at hr
      by_cases y : u = s
      · rw [y]; omega
      · rw [if_neg y] at hr; exact absurd rfl hr
    · refine Or.inr ⟨h1, fun u hu hr => ?_⟩
      rw [e1 u hu] at hr
      by_cases y : u = s
      · rw [y]; omega
      · rw [if_neg y] at hr; exact absurd rfl hr
end
