/-! lesson: pure -/
theorem pop_or2 : ∀ j, j < 256 → ∀ t, t < 8 → j ||| 2 ^ t = j ∨ pop j < pop (j ||| 2 ^ t) := by decide +kernel
theorem tkS_gr {S : HSt} {A : Option lwD} {c l kn : Nat} (h : kn < 256) : ∀ t, t ≤ 8 → tkS S A c l kn t = kn ∨ (kn < tkS S A c l kn t ∧ pop kn < pop (tkS S A c l kn t))
  | 0, _ => Or.inl rfl
  | t + 1, ht => by
    have ih := tkS_gr (S := S) (A := A) (c := c) (l := l) h t (by omega)
    have lt := tkS_lt (S := S) (A := A) (c := c) (l := l) h t (by omega)
    rw [tkS]
    have key : ∀ x, (x = tkS S A c l kn t ||| 2 ^ t ∨ x = tkS S A c l kn t) → x = kn ∨ (kn < x ∧ pop kn < pop x) := by
      rintro x (rfl | rfl)
      · rcases pop_or2 _ lt t (by omega) with z | z
        · rw [z]; exact ih
        · have le := Nat.left_le_or (n := tkS S A c l kn t) (m := 2 ^ t)
          have ne : tkS S A c l kn t ≠ tkS S A c l kn t ||| 2 ^ t := fun q => by rw [← q] at z; omega
          rcases ih with y | y
          · rw [y] at z le ne ⊢; exact Or.inr ⟨by omega, z⟩
          · exact Or.inr ⟨by omega, by omega⟩
      · exact ih
    refine key _ ?_
    first
      | (split <;> simp)
      | (unfold pif; split <;> simp)
/-- the fewest letters from u on -/
def mnF (N : Nat → Nat → Nat) (D : Nat → Nat) (b u : Nat) : Nat → Nat
  | 0 => b
  | l + 1 => if N l u ≠ u ∧ D (N l u) + 1 < mnF N D b u l then D (N l u) + 1 else mnF N D b u l
def b0N (nd u : Nat) : Nat := if u &&& nd = nd then 0 else 100000000
def tbF (N : Nat → Nat → Nat) (nd L : Nat) : Nat → Nat → Nat
  | 0 => fun _ => 0
  | k + 1 => fun u => if u = 255 - k then mnF N (tbF N nd L k) (b0N nd u) u L else tbF N nd L k u
def dD (N : Nat → Nat → Nat) (nd L u : Nat) : Nat := tbF N nd L 256 u
def NOk (N : Nat → Nat → Nat) (L : Nat) : Prop := ∀ l u, l < L → u < 256 → N l u < 256 ∧ (N l u = u ∨ (u < N l u ∧ pop u < pop (N l u)))
theorem mnF_cg {N : Nat → Nat → Nat} {D D' : Nat → Nat} {b u : Nat} : ∀ l, (∀ j, j < l → N j u ≠ u → D (N j u) = D' (N j u)) → mnF N D b u l = mnF N D' b u l
  | 0, _ => rfl
  | l + 1, e => by
    rw [mnF, mnF, mnF_cg l (fun j hj => e j (by omega))]
    by_cases z : N l u = u
    · rw [if_neg (fun q => q.1 z), if_neg (fun q => q.1 z)]
    · rw [e l (by omega) z]
section
variable {N : Nat → Nat → Nat} {nd L u : Nat}
theorem tbF_s {k : Nat} : tbF N nd L (k + 1) u = if u = 255 - k then mnF N (tbF N nd L k) (b0N nd u) u L else tbF N nd L k u := rfl
theorem tbF_st : ∀ k, k ≤ 256 → ∀ u, u < 256 → 256 - u ≤ k → tbF N nd L k u = tbF N nd L (256 - u) u
  | 0, _, u, hu, h => by omega
  | k + 1, hk, u, hu, h => by
    by_cases z : 256 - u = k + 1
    · rw [z]
    · rw [tbF_s, if_neg (by omega)]
      exact tbF_st k (by omega) u hu (by omega)
theorem dD_eq (hN : NOk N L) (hu : u < 256) : dD N nd L u = mnF N (dD N nd L) (b0N nd u) u L := by
  rw [dD, tbF_st 256 (Nat.le_refl _) u hu (by omega), show 256 - u = (255 - u) + 1 by omega, tbF_s, if_pos (by omega)]
  refine mnF_cg L (fun j hj z => ?_)
  obtain ⟨h1, h2⟩ := hN j u hj hu
  rw [dD, tbF_st 256 (Nat.le_refl _) _ h1 (by omega), tbF_st (255 - u) (by omega) _ h1 (by omega)]
theorem mnF_mono {D : Nat → Nat} {b : Nat} : ∀ l m, l ≤ m → mnF N D b u m ≤ mnF N D b u l
  | l, 0, h => by obtain rfl : l = 0 := by omega
                  exact Nat.le_refl _
  | l, m + 1, h => by
    by_cases z : l = m + 1
    · rw [z]; exact Nat.le_refl _
    · have := mnF_mono (D := D) (b := b) l m (by omega)
      rw [mnF]
      split <;> omega
theorem mnF_or {D : Nat → Nat} {b : Nat} : ∀ l, mnF N D b u l = b ∨ ∃ j, j < l ∧ N j u ≠ u ∧ D (N j u) + 1 = mnF N D b u l
  | 0 => Or.inl rfl
  | l + 1 => by
    rw [mnF]
    split
    · rename_i z
      exact Or.inr ⟨l, by omega, z.1, rfl⟩
    · rcases mnF_or (D := D) (b := b) l with y | ⟨j, j1, j2, j3⟩
      · exact Or.inl y
      · exact Or.inr ⟨j, by omega, j2, j3⟩
theorem dD_0 (hN : NOk N L) (hu : u < 256) : dD N nd L u = 0 ↔ u &&& nd = nd := by
  rw [dD_eq hN hu]
  constructor
  · intro h
    rcases mnF_or (N := N) (u := u) (D := dD N nd L) (b := b0N nd u) L with y | ⟨j, j1, j2, j3⟩
    · rw [h, b0N] at y
      refine Decidable.byContradiction (fun q => ?_)
      rw [if_neg q] at y
      omega
    · omega
  · intro h
    have := mnF_mono (N := N) (u := u) (D := dD N nd L) (b := b0N nd u) 0 L (by omega)
    rw [show mnF N (dD N nd L) (b0N nd u) u 0 = 0 by rw [mnF, b0N, if_pos h]] at this
    omega
theorem dD_le (hN : NOk N L) (hu : u < 256) : dD N nd L u ≤ 100000000 := by
  rw [dD_eq hN hu]
  have := mnF_mono (N := N) (u := u) (D := dD N nd L) (b := b0N nd u) 0 L (by omega)
  have : mnF N (dD N nd L) (b0N nd u) u 0 ≤ 100000000 := by rw [mnF, b0N]; split <;> omega
  omega
theorem dD_st (hN : NOk N L) (hu : u < 256) {l : Nat} (hl : l < L) : dD N nd L u ≤ dD N nd L (N l u) + 1 := by
  by_cases z : N l u = u
  · rw [z]; omega
  · rw [dD_eq hN hu]
    have := mnF_mono (N := N) (u := u) (D := dD N nd L) (b := b0N nd u) (l + 1) L (by omega)
    rw [mnF] at this
    split at this
    · exact this
    · rename_i q
      have : ¬ dD N nd L (N l u) + 1 < mnF N (dD N nd L) (b0N nd u) u l := fun w => q ⟨z, w⟩
      omega
/-- l is a next letter -/
def pn (N : Nat → Nat → Nat) (nd L u l : Nat) : Prop := N l u ≠ u ∧ dD N nd L (N l u) + 1 = dD N nd L u
noncomputable def nxt (N : Nat → Nat → Nat) (nd L u : Nat) : Nat := fsF (pn N nd L u) L 0
theorem fsF_ex {p : Nat → Prop} : ∀ n i, (∃ j, i ≤ j ∧ j < i + n ∧ p j) → i ≤ fsF p n i ∧ fsF p n i < i + n ∧ p (fsF p n i) ∧ ∀ j, i ≤ j → j < fsF p n i → ¬ p j
  | 0, i, ⟨j, h1, h2, _⟩ => by omega
  | n + 1, i, ⟨j, h1, h2, h3⟩ => by
    by_cases z : p i
    · rw [fsF, pif_t z]; exact ⟨by omega, by omega, z, fun j q1 q2 => by omega⟩
    · rw [fsF, pif_f z]
      have : j ≠ i := fun q => z (q ▸ h3)
      obtain ⟨a, b, c, d⟩ := fsF_ex n (i + 1) ⟨j, by omega, by omega, h3⟩
      refine ⟨by omega, by omega, c, fun j q1 q2 => ?_⟩
      by_cases w : j = i
      · rw [w]; exact z
      · exact d j (by omega) q2
theorem nxt_ok (hN : NOk N L) (hu : u < 256) (h0 : 0 < dD N nd L u) (h1 : dD N nd L u < 100000000) : nxt N nd L u < L ∧ pn N nd L u (nxt N nd L u) ∧ ∀ j, j < nxt N nd L u → ¬ pn N nd L u j := by
  have ng : ¬ u &&& nd = nd := fun q => by have := (dD_0 (nd := nd) hN hu).mpr q; omega
  have ex : ∃ j, 0 ≤ j ∧ j < 0 + L ∧ pn N nd L u j := by
    rcases mnF_or (N := N) (u := u) (D := dD N nd L) (b := b0N nd u) L with y | ⟨j, j1, j2, j3⟩
    · rw [← dD_eq hN hu, b0N, if_neg ng] at y
      omega
    · rw [← dD_eq hN hu] at j3
      exact ⟨j, by omega, by omega, j2, j3⟩
  obtain ⟨a, b, c, d⟩ := fsF_ex L 0 ex
  exact ⟨by unfold nxt; omega, c, fun j hj => d j (by omega) hj⟩
theorem dD_8 (hN : NOk N L) : ∀ n u, u + n = 256 → u < 256 → dD N nd L u < 100000000 → dD N nd L u + pop u ≤ 8 := by
  intro n
  induction n using Nat.strongRecOn with
  | _ n ih =>
    intro u hn hu h1
    have pl := pop_le u
    by_cases z : dD N nd L u = 0
    · omega
    · obtain ⟨a, ⟨b1, b2⟩, -⟩ := nxt_ok hN hu (by omega) h1
      obtain ⟨c1, c2⟩ := hN _ u a hu
      have := ih (256 - N (nxt N nd L u) u) (by omega) (N (nxt N nd L u) u) (by omega) c1 (by omega)
      omega
noncomputable def gp (N : Nat → Nat → Nat) (nd L s : Nat) : Nat → Nat
  | 0 => s
  | j + 1 => N (nxt N nd L (gp N nd L s j)) (gp N nd L s j)
theorem gp_ok {s : Nat} (hN : NOk N L) (hs : s < 256) (h1 : dD N nd L s < 100000000) : ∀ j, j ≤ dD N nd L s → gp N nd L s j < 256 ∧ dD N nd L (gp N nd L s j) = dD N nd L s - j
  | 0, _ => ⟨hs, rfl⟩
  | j + 1, hj => by
    obtain ⟨a, b⟩ := gp_ok hN hs h1 j (by omega)
    obtain ⟨c, ⟨d1, d2⟩, -⟩ := nxt_ok (nd := nd) hN a (by omega) (by omega)
    rw [gp]
    exact ⟨(hN _ _ c a).1, by omega⟩
noncomputable def lsR (N : Nat → Nat → Nat) (nd L s : Nat) (x : Int32) : Int32 := if dD N nd L s < 100000000 then (if x = -1 then nI (dD N nd L s) else pif (vp_in x (dD N nd L s)) (nI (nxt N nd L (gp N nd L s x.toNatClampNeg))) (-1)) else -1
/-- how many are reached -/
noncomputable def cnR (f : Nat → Int32) : Nat → Nat
  | 0 => 0
  | n + 1 => cnR f n + pif (f n = -1) 0 1
theorem cnR_le {f : Nat → Int32} : ∀ n, cnR f n ≤ n
  | 0 => Nat.le_refl _
  | n + 1 => by
    have := cnR_le (f := f) n
    by_cases z : f n = -1
    · rw [cnR, pif_t z]; omega
    · rw [cnR, pif_f z]; omega
theorem cnR_lt {f : Nat → Int32} {v : Nat} (hv : f v = -1) : ∀ n, v < n → cnR f n < n
  | 0, h => by omega
  | n + 1, h => by
    have := cnR_le (f := f) n
    by_cases z : v = n
    · subst z; rw [cnR, pif_t hv]; omega
    · have := cnR_lt hv n (by omega)
      by_cases z : f n = -1
      · rw [cnR, pif_t z]; omega
      · rw [cnR, pif_f z]; omega
theorem cnR_up {f f' : Nat → Int32} {v : Nat} (hv : f v = -1) (hv' : f' v ≠ -1) (e : ∀ u, u ≠ v → f' u = f u) : ∀ n, cnR f' n = cnR f n + if v < n then 1 else 0
  | 0 => by rw [cnR, cnR, if_neg (by omega)]
  | n + 1 => by
    rw [cnR, cnR, cnR_up hv hv' e n]
    by_cases z : v = n
    · subst z
      rw [if_neg (by omega), if_pos (by omega), pif_t hv, pif_f hv']
    · rw [e n (by omega)]
      by_cases y : v < n
      · rw [if_pos y, if_pos (by omega)]; omega
      · rw [if_neg y, if_neg (by omega)]; omega
end
