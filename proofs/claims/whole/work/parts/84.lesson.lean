/-! lesson: the model's face -/
section
variable {d : Nat} {h : mmH} {S : HSt} {K : Option Value → mmH → Prop} {A : Option lwD} {c l : Nat} {x1 x2 x3 : Int32}
noncomputable def Nt (S : HSt) (A : Option lwD) (c l u : Nat) : Nat := tkS S A c l u 8
theorem Nt_ok : NOk (Nt S A c) (S 0 0) := fun l u _ hu => ⟨tkS_lt hu 8 (by decide), tkS_gr hu 8 (by decide)⟩
noncomputable def leR (S : HSt) (A : Option lwD) (c l : Nat) (x : Int32) : Int32 := lsR (Nt S A c) (S 5 l) (S 0 0) (S 1 c) x
theorem leR_lo (h3 : x3 < -1) : leR S A c l x3 = -1 := by
  have h3 : x3.toInt < -1 := Int32.lt_iff_toInt_lt.mp h3
  rw [leR, lsR]
  split
  · rw [if_neg (fun q => by rw [q] at h3; exact absurd h3 (by decide)), pif_f (fun q => by
      have := q.1
      have := Int32.lt_iff_toInt_lt.mp (Int32.not_le.mp (fun w => by
        have := Int32.le_iff_toInt_le.mp w
        have e0 : (0 : Int32).toInt = 0 := rfl
        omega) : x3 < 0)
      first | omega | (simp_all))]
  · rfl
end
