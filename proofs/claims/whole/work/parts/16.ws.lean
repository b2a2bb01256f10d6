def kT : List Nat := [9, 0, 100, 100, 1, 100, 100, 100, 100, 100, 100, 100, 100, 100, 103, 1, 100, 100, 100, 100, 100, 100, 100, 100, 100, 103, 104, 1, 100, 100, 100, 100, 100, 100, 100, 100, 100, 103, 1, 100, 100, 100, 100, 100, 100, 100, 100, 100, 103, 102, 8, 100, 8, 100, 5, 100, 3, 7, 6, 100, 100, 100, 100, 100, 100, 100, 2, 100, 100, 100, 100, 100, 100, 100, 100, 100, 100, 101, 4, 1, 100, 100, 100, 100, 100, 100, 100, 100, 100, 103, 100, 10, 100, 100, 100, 102, 100, 100, 100, 100, 100, 100, 100, 100, 100, 100, 101, 101, 101, 101, 101, 101, 100, 100, 100, 100, 100, 101, 101, 101, 100, 100]
def lT : List Nat := [17, 2, 16, 52, 17, 8, 8, 8, 6, 6, 6, 8, 8, 3, 6, 17, 8, 8, 8, 6, 6, 6, 8, 8, 3, 6, 2, 17, 8, 8, 8, 6, 6, 6, 8, 8, 3, 6, 17, 8, 8, 8, 6, 6, 6, 8, 8, 3, 6, 2, 2, 240, 2, 240, 2, 400, 5, 5, 9, 12, 12, 12, 12, 12, 400, 400, 13, 8, 256, 256, 256, 256, 256, 256, 48, 1792, 6, 20, 2, 17, 8, 8, 8, 6, 6, 6, 8, 8, 3, 6, 5, 57, 7, 5475, 10950, 2, 414, 16, 368, 16, 400, 96, 400, 400, 400, 400, 10, 6, 4, 13, 13, 400, 2048, 256, 8, 48, 1792, 21, 4, 3, 96, 12]
def rT : List (Nat × Nat × Nat) := [(0, 0, 1), (0, 1, 4), (0, 2, 15), (0, 3, 26), (0, 4, 49), (0, 5, 50), (0, 6, 52), (0, 7, 54), (0, 8, 56), (0, 9, 66), (0, 10, 78), (0, 11, 90), (1, 0, 2), (1, 1, 3), (4, 0, 1), (4, 2, 5), (4, 3, 6), (4, 4, 7), (4, 7, 8), (4, 8, 9), (4, 9, 10), (4, 11, 11), (4, 12, 12), (4, 13, 13), (4, 15, 14), (15, 0, 1), (15, 2, 16), (15, 3, 17), (15, 4, 18), (15, 7, 19), (15, 8, 20), (15, 9, 21), (15, 11, 22), (15, 12, 23), (15, 13, 24), (15, 15, 25), (26, 0, 27), (26, 1, 38), (27, 0, 1), (27, 2, 28), (27, 3, 29), (27, 4, 30), (27, 7, 31), (27, 8, 32), (27, 9, 33), (27, 11, 34), (27, 12, 35), (27, 13, 36), (27, 15, 37), (38, 0, 1), (38, 2, 39), (38, 3, 40), (38, 4, 41), (38, 7, 42), (38, 8, 43), (38, 9, 44), (38, 11, 45), (38, 12, 46), (38, 13, 47), (38, 15, 48), (50, 0, 51), (52, 0, 53), (54, 0, 55), (56, 0, 57), (56, 1, 58), (57, 0, 54), (58, 1, 59), (58, 2, 60), (58, 3, 61), (58, 4, 62), (58, 5, 63), (58, 7, 64), (58, 8, 65), (66, 0, 4), (66, 1, 1), (66, 2, 67), (66, 3, 68), (66, 4, 69), (66, 5, 70), (66, 6, 71), (66, 7, 72), (66, 8, 73), (66, 9, 74), (66, 10, 75), (66, 11, 76), (66, 12, 77), (78, 0, 79), (79, 0, 1), (79, 2, 80), (79, 3, 81), (79, 4, 82), (79, 7, 83), (79, 8, 84), (79, 9, 85), (79, 11, 86), (79, 12, 87), (79, 13, 88), (79, 15, 89), (91, 2, 92), (91, 3, 93), (91, 4, 94), (91, 5, 95), (91, 6, 96), (91, 7, 97), (91, 9, 98), (91, 10, 99), (91, 12, 100), (91, 22, 101), (91, 24, 102), (91, 25, 103), (91, 27, 104), (91, 28, 105), (91, 31, 106), (91, 32, 107), (91, 33, 108), (91, 35, 109), (91, 36, 110), (91, 37, 111), (91, 41, 112), (91, 42, 113), (91, 43, 114), (91, 44, 115), (91, 45, 116), (91, 46, 117), (91, 47, 118), (91, 48, 119), (91, 49, 120), (91, 55, 121)]
/-- the world's shape: cells 0 to 90 the class's, 91 to 121 the model's, texts of laws behind them -/
def WS (h : mmH) : Prop := 122 ≤ mm_sz h ∧ (∀ i, i < 122 → mm_kd h i = kT.getD i 0 ∧ mm_ln h i = lT.getD i 0) ∧ ∀ q ∈ rT, mm_gr h q.1 q.2.1 = some q.2.2
theorem WS_s {h : mmH} (H : WS h) {a : Nat} (ha : a < 122) : a < mm_sz h := Nat.lt_of_lt_of_le ha H.1
theorem WS_pi {h : mmH} {a k : Nat} {x : Int32} (H : WS h) : WS (mm_pi h a k x) := H
theorem WS_pl {h : mmH} {a k : Nat} {x : Int64} (H : WS h) : WS (mm_pl h a k x) := H
theorem WS_pa {h : mmH} {a : Nat} {f : Nat → Int32} (H : WS h) : WS (mm_pa h a f) := H
theorem WS_pr {h : mmH} {a k : Nat} {x : Option Nat} (H : WS h) (hq : rT.all (fun q => !(q.1 == a && q.2.1 == k)) = true) : WS (mm_pr h a k x) := by
  refine ⟨H.1, H.2.1, fun q hm => ?_⟩
  rw [mm_gr_pr]
  have h1 := List.all_eq_true.mp hq q hm
  simp only [Bool.not_eq_true', Bool.and_eq_false_iff, beq_eq_false_iff_ne] at h1
  rw [if_neg (fun z => h1.elim (fun y => y z.1) (fun y => y z.2))]
  exact H.2.2 q hm
theorem WS_nw {h : mmH} {x y : Nat} (H : WS h) : WS (mm_nw h x y) := by
  refine ⟨Nat.le_succ_of_le H.1, fun i hi => ?_, fun q hm => ?_⟩
  · have := H.1
    rw [mm_kd_nw, mm_ln_nw, if_neg (by omega), if_neg (by omega)]
    exact H.2.1 i hi
  · have h1 : ∀ q ∈ rT, q.1 < 122 := by decide +kernel
    have := h1 q hm
    have := H.1
    rw [mm_gr_nw, if_neg (by omega)]
    exact H.2.2 q hm
theorem W_kd_0 {h : mmH} (H : WS h) : mm_kd h 0 = 9 := (H.2.1 0 (by decide)).1
theorem W_ln_0 {h : mmH} (H : WS h) : mm_ln h 0 = 17 := (H.2.1 0 (by decide)).2
theorem W_s_0 {h : mmH} (H : WS h) : 0 < mm_sz h := WS_s H (by decide)
theorem W_kd_1 {h : mmH} (H : WS h) : mm_kd h 1 = 0 := (H.2.1 1 (by decide)).1
theorem W_ln_1 {h : mmH} (H : WS h) : mm_ln h 1 = 2 := (H.2.1 1 (by decide)).2
theorem W_s_1 {h : mmH} (H : WS h) : 1 < mm_sz h := WS_s H (by decide)
theorem W_kd_2 {h : mmH} (H : WS h) : mm_kd h 2 = 100 := (H.2.1 2 (by decide)).1
theorem W_ln_2 {h : mmH} (H : WS h) : mm_ln h 2 = 16 := (H.2.1 2 (by decide)).2
theorem W_s_2 {h : mmH} (H : WS h) : 2 < mm_sz h := WS_s H (by decide)
theorem W_kd_3 {h : mmH} (H : WS h) : mm_kd h 3 = 100 := (H.2.1 3 (by decide)).1
theorem W_ln_3 {h : mmH} (H : WS h) : mm_ln h 3 = 52 := (H.2.1 3 (by decide)).2
theorem W_s_3 {h : mmH} (H : WS h) : 3 < mm_sz h := WS_s H (by decide)
theorem W_kd_4 {h : mmH} (H : WS h) : mm_kd h 4 = 1 := (H.2.1 4 (by decide)).1
theorem W_ln_4 {h : mmH} (H : WS h) : mm_ln h 4 = 17 := (H.2.1 4 (by decide)).2
theorem W_s_4 {h : mmH} (H : WS h) : 4 < mm_sz h := WS_s H (by decide)
theorem W_kd_5 {h : mmH} (H : WS h) : mm_kd h 5 = 100 := (H.2.1 5 (by decide)).1
theorem W_ln_5 {h : mmH} (H : WS h) : mm_ln h 5 = 8 := (H.2.1 5 (by decide)).2
theorem W_s_5 {h : mmH} (H : WS h) : 5 < mm_sz h := WS_s H (by decide)
theorem W_kd_6 {h : mmH} (H : WS h) : mm_kd h 6 = 100 := (H.2.1 6 (by decide)).1
theorem W_ln_6 {h : mmH} (H : WS h) : mm_ln h 6 = 8 := (H.2.1 6 (by decide)).2
theorem W_s_6 {h : mmH} (H : WS h) : 6 < mm_sz h := WS_s H (by decide)
theorem W_kd_7 {h : mmH} (H : WS h) : mm_kd h 7 = 100 := (H.2.1 7 (by decide)).1
theorem W_ln_7 {h : mmH} (H : WS h) : mm_ln h 7 = 8 := (H.2.1 7 (by decide)).2
theorem W_s_7 {h : mmH} (H : WS h) : 7 < mm_sz h := WS_s H (by decide)
theorem W_kd_8 {h : mmH} (H : WS h) : mm_kd h 8 = 100 := (H.2.1 8 (by decide)).1
theorem W_ln_8 {h : mmH} (H : WS h) : mm_ln h 8 = 6 := (H.2.1 8 (by decide)).2
theorem W_s_8 {h : mmH} (H : WS h) : 8 < mm_sz h := WS_s H (by decide)
theorem W_kd_9 {h : mmH} (H : WS h) : mm_kd h 9 = 100 := (H.2.1 9 (by decide)).1
theorem W_ln_9 {h : mmH} (H : WS h) : mm_ln h 9 = 6 := (H.2.1 9 (by decide)).2
theorem W_s_9 {h : mmH} (H : WS h) : 9 < mm_sz h := WS_s H (by decide)
theorem W_kd_10 {h : mmH} (H : WS h) : mm_kd h 10 = 100 := (H.2.1 10 (by decide)).1
theorem W_ln_10 {h : mmH} (H : WS h) : mm_ln h 10 = 6 := (H.2.1 10 (by decide)).2
theorem W_s_10 {h : mmH} (H : WS h) : 10 < mm_sz h := WS_s H (by decide)
theorem W_kd_11 {h : mmH} (H : WS h) : mm_kd h 11 = 100 := (H.2.1 11 (by decide)).1
theorem W_ln_11 {h : mmH} (H : WS h) : mm_ln h 11 = 8 := (H.2.1 11 (by decide)).2
theorem W_s_11 {h : mmH} (H : WS h) : 11 < mm_sz h := WS_s H (by decide)
theorem W_kd_12 {h : mmH} (H : WS h) : mm_kd h 12 = 100 := (H.2.1 12 (by decide)).1
theorem W_ln_12 {h : mmH} (H : WS h) : mm_ln h 12 = 8 := (H.2.1 12 (by decide)).2
theorem W_s_12 {h : mmH} (H : WS h) : 12 < mm_sz h := WS_s H (by decide)
theorem W_kd_13 {h : mmH} (H : WS h) : mm_kd h 13 = 100 := (H.2.1 13 (by decide)).1
theorem W_ln_13 {h : mmH} (H : WS h) : mm_ln h 13 = 3 := (H.2.1 13 (by decide)).2
theorem W_s_13 {h : mmH} (H : WS h) : 13 < mm_sz h := WS_s H (by decide)
theorem W_kd_14 {h : mmH} (H : WS h) : mm_kd h 14 = 103 := (H.2.1 14 (by decide)).1
theorem W_ln_14 {h : mmH} (H : WS h) : mm_ln h 14 = 6 := (H.2.1 14 (by decide)).2
theorem W_s_14 {h : mmH} (H : WS h) : 14 < mm_sz h := WS_s H (by decide)
theorem W_kd_15 {h : mmH} (H : WS h) : mm_kd h 15 = 1 := (H.2.1 15 (by decide)).1
theorem W_ln_15 {h : mmH} (H : WS h) : mm_ln h 15 = 17 := (H.2.1 15 (by decide)).2
theorem W_s_15 {h : mmH} (H : WS h) : 15 < mm_sz h := WS_s H (by decide)
theorem W_kd_16 {h : mmH} (H : WS h) : mm_kd h 16 = 100 := (H.2.1 16 (by decide)).1
theorem W_ln_16 {h : mmH} (H : WS h) : mm_ln h 16 = 8 := (H.2.1 16 (by decide)).2
theorem W_s_16 {h : mmH} (H : WS h) : 16 < mm_sz h := WS_s H (by decide)
theorem W_kd_17 {h : mmH} (H : WS h) : mm_kd h 17 = 100 := (H.2.1 17 (by decide)).1
theorem W_ln_17 {h : mmH} (H : WS h) : mm_ln h 17 = 8 := (H.2.1 17 (by decide)).2
theorem W_s_17 {h : mmH} (H : WS h) : 17 < mm_sz h := WS_s H (by decide)
theorem W_kd_18 {h : mmH} (H : WS h) : mm_kd h 18 = 100 := (H.2.1 18 (by decide)).1
theorem W_ln_18 {h : mmH} (H : WS h) : mm_ln h 18 = 8 := (H.2.1 18 (by decide)).2
theorem W_s_18 {h : mmH} (H : WS h) : 18 < mm_sz h := WS_s H (by decide)
theorem W_kd_19 {h : mmH} (H : WS h) : mm_kd h 19 = 100 := (H.2.1 19 (by decide)).1
theorem W_ln_19 {h : mmH} (H : WS h) : mm_ln h 19 = 6 := (H.2.1 19 (by decide)).2
theorem W_s_19 {h : mmH} (H : WS h) : 19 < mm_sz h := WS_s H (by decide)
theorem W_kd_20 {h : mmH} (H : WS h) : mm_kd h 20 = 100 := (H.2.1 20 (by decide)).1
theorem W_ln_20 {h : mmH} (H : WS h) : mm_ln h 20 = 6 := (H.2.1 20 (by decide)).2
theorem W_s_20 {h : mmH} (H : WS h) : 20 < mm_sz h := WS_s H (by decide)
theorem W_kd_21 {h : mmH} (H : WS h) : mm_kd h 21 = 100 := (H.2.1 21 (by decide)).1
theorem W_ln_21 {h : mmH} (H : WS h) : mm_ln h 21 = 6 := (H.2.1 21 (by decide)).2
theorem W_s_21 {h : mmH} (H : WS h) : 21 < mm_sz h := WS_s H (by decide)
theorem W_kd_22 {h : mmH} (H : WS h) : mm_kd h 22 = 100 := (H.2.1 22 (by decide)).1
theorem W_ln_22 {h : mmH} (H : WS h) : mm_ln h 22 = 8 := (H.2.1 22 (by decide)).2
theorem W_s_22 {h : mmH} (H : WS h) : 22 < mm_sz h := WS_s H (by decide)
theorem W_kd_23 {h : mmH} (H : WS h) : mm_kd h 23 = 100 := (H.2.1 23 (by decide)).1
theorem W_ln_23 {h : mmH} (H : WS h) : mm_ln h 23 = 8 := (H.2.1 23 (by decide)).2
theorem W_s_23 {h : mmH} (H : WS h) : 23 < mm_sz h := WS_s H (by decide)
theorem W_kd_24 {h : mmH} (H : WS h) : mm_kd h 24 = 100 := (H.2.1 24 (by decide)).1
theorem W_ln_24 {h : mmH} (H : WS h) : mm_ln h 24 = 3 := (H.2.1 24 (by decide)).2
theorem W_s_24 {h : mmH} (H : WS h) : 24 < mm_sz h := WS_s H (by decide)
theorem W_kd_25 {h : mmH} (H : WS h) : mm_kd h 25 = 103 := (H.2.1 25 (by decide)).1
theorem W_ln_25 {h : mmH} (H : WS h) : mm_ln h 25 = 6 := (H.2.1 25 (by decide)).2
theorem W_s_25 {h : mmH} (H : WS h) : 25 < mm_sz h := WS_s H (by decide)
theorem W_kd_26 {h : mmH} (H : WS h) : mm_kd h 26 = 104 := (H.2.1 26 (by decide)).1
theorem W_ln_26 {h : mmH} (H : WS h) : mm_ln h 26 = 2 := (H.2.1 26 (by decide)).2
theorem W_s_26 {h : mmH} (H : WS h) : 26 < mm_sz h := WS_s H (by decide)
theorem W_kd_27 {h : mmH} (H : WS h) : mm_kd h 27 = 1 := (H.2.1 27 (by decide)).1
theorem W_ln_27 {h : mmH} (H : WS h) : mm_ln h 27 = 17 := (H.2.1 27 (by decide)).2
theorem W_s_27 {h : mmH} (H : WS h) : 27 < mm_sz h := WS_s H (by decide)
theorem W_kd_28 {h : mmH} (H : WS h) : mm_kd h 28 = 100 := (H.2.1 28 (by decide)).1
theorem W_ln_28 {h : mmH} (H : WS h) : mm_ln h 28 = 8 := (H.2.1 28 (by decide)).2
theorem W_s_28 {h : mmH} (H : WS h) : 28 < mm_sz h := WS_s H (by decide)
theorem W_kd_29 {h : mmH} (H : WS h) : mm_kd h 29 = 100 := (H.2.1 29 (by decide)).1
theorem W_ln_29 {h : mmH} (H : WS h) : mm_ln h 29 = 8 := (H.2.1 29 (by decide)).2
theorem W_s_29 {h : mmH} (H : WS h) : 29 < mm_sz h := WS_s H (by decide)
theorem W_kd_30 {h : mmH} (H : WS h) : mm_kd h 30 = 100 := (H.2.1 30 (by decide)).1
theorem W_ln_30 {h : mmH} (H : WS h) : mm_ln h 30 = 8 := (H.2.1 30 (by decide)).2
theorem W_s_30 {h : mmH} (H : WS h) : 30 < mm_sz h := WS_s H (by decide)
theorem W_kd_31 {h : mmH} (H : WS h) : mm_kd h 31 = 100 := (H.2.1 31 (by decide)).1
theorem W_ln_31 {h : mmH} (H : WS h) : mm_ln h 31 = 6 := (H.2.1 31 (by decide)).2
theorem W_s_31 {h : mmH} (H : WS h) : 31 < mm_sz h := WS_s H (by decide)
theorem W_kd_32 {h : mmH} (H : WS h) : mm_kd h 32 = 100 := (H.2.1 32 (by decide)).1
theorem W_ln_32 {h : mmH} (H : WS h) : mm_ln h 32 = 6 := (H.2.1 32 (by decide)).2
theorem W_s_32 {h : mmH} (H : WS h) : 32 < mm_sz h := WS_s H (by decide)
theorem W_kd_33 {h : mmH} (H : WS h) : mm_kd h 33 = 100 := (H.2.1 33 (by decide)).1
theorem W_ln_33 {h : mmH} (H : WS h) : mm_ln h 33 = 6 := (H.2.1 33 (by decide)).2
theorem W_s_33 {h : mmH} (H : WS h) : 33 < mm_sz h := WS_s H (by decide)
theorem W_kd_34 {h : mmH} (H : WS h) : mm_kd h 34 = 100 := (H.2.1 34 (by decide)).1
theorem W_ln_34 {h : mmH} (H : WS h) : mm_ln h 34 = 8 := (H.2.1 34 (by decide)).2
theorem W_s_34 {h : mmH} (H : WS h) : 34 < mm_sz h := WS_s H (by decide)
theorem W_kd_35 {h : mmH} (H : WS h) : mm_kd h 35 = 100 := (H.2.1 35 (by decide)).1
theorem W_ln_35 {h : mmH} (H : WS h) : mm_ln h 35 = 8 := (H.2.1 35 (by decide)).2
theorem W_s_35 {h : mmH} (H : WS h) : 35 < mm_sz h := WS_s H (by decide)
theorem W_kd_36 {h : mmH} (H : WS h) : mm_kd h 36 = 100 := (H.2.1 36 (by decide)).1
theorem W_ln_36 {h : mmH} (H : WS h) : mm_ln h 36 = 3 := (H.2.1 36 (by decide)).2
theorem W_s_36 {h : mmH} (H : WS h) : 36 < mm_sz h := WS_s H (by decide)
theorem W_kd_37 {h : mmH} (H : WS h) : mm_kd h 37 = 103 := (H.2.1 37 (by decide)).1
theorem W_ln_37 {h : mmH} (H : WS h) : mm_ln h 37 = 6 := (H.2.1 37 (by decide)).2
theorem W_s_37 {h : mmH} (H : WS h) : 37 < mm_sz h := WS_s H (by decide)
theorem W_kd_38 {h : mmH} (H : WS h) : mm_kd h 38 = 1 := (H.2.1 38 (by decide)).1
theorem W_ln_38 {h : mmH} (H : WS h) : mm_ln h 38 = 17 := (H.2.1 38 (by decide)).2
theorem W_s_38 {h : mmH} (H : WS h) : 38 < mm_sz h := WS_s H (by decide)
theorem W_kd_39 {h : mmH} (H : WS h) : mm_kd h 39 = 100 := (H.2.1 39 (by decide)).1
theorem W_ln_39 {h : mmH} (H : WS h) : mm_ln h 39 = 8 := (H.2.1 39 (by decide)).2
theorem W_s_39 {h : mmH} (H : WS h) : 39 < mm_sz h := WS_s H (by decide)
theorem W_kd_40 {h : mmH} (H : WS h) : mm_kd h 40 = 100 := (H.2.1 40 (by decide)).1
theorem W_ln_40 {h : mmH} (H : WS h) : mm_ln h 40 = 8 := (H.2.1 40 (by decide)).2
theorem W_s_40 {h : mmH} (H : WS h) : 40 < mm_sz h := WS_s H (by decide)
theorem W_kd_41 {h : mmH} (H : WS h) : mm_kd h 41 = 100 := (H.2.1 41 (by decide)).1
theorem W_ln_41 {h : mmH} (H : WS h) : mm_ln h 41 = 8 := (H.2.1 41 (by decide)).2
theorem W_s_41 {h : mmH} (H : WS h) : 41 < mm_sz h := WS_s H (by decide)
theorem W_kd_42 {h : mmH} (H : WS h) : mm_kd h 42 = 100 := (H.2.1 42 (by decide)).1
theorem W_ln_42 {h : mmH} (H : WS h) : mm_ln h 42 = 6 := (H.2.1 42 (by decide)).2
theorem W_s_42 {h : mmH} (H : WS h) : 42 < mm_sz h := WS_s H (by decide)
theorem W_kd_43 {h : mmH} (H : WS h) : mm_kd h 43 = 100 := (H.2.1 43 (by decide)).1
theorem W_ln_43 {h : mmH} (H : WS h) : mm_ln h 43 = 6 := (H.2.1 43 (by decide)).2
theorem W_s_43 {h : mmH} (H : WS h) : 43 < mm_sz h := WS_s H (by decide)
theorem W_kd_44 {h : mmH} (H : WS h) : mm_kd h 44 = 100 := (H.2.1 44 (by decide)).1
theorem W_ln_44 {h : mmH} (H : WS h) : mm_ln h 44 = 6 := (H.2.1 44 (by decide)).2
theorem W_s_44 {h : mmH} (H : WS h) : 44 < mm_sz h := WS_s H (by decide)
theorem W_kd_45 {h : mmH} (H : WS h) : mm_kd h 45 = 100 := (H.2.1 45 (by decide)).1
theorem W_ln_45 {h : mmH} (H : WS h) : mm_ln h 45 = 8 := (H.2.1 45 (by decide)).2
theorem W_s_45 {h : mmH} (H : WS h) : 45 < mm_sz h := WS_s H (by decide)
theorem W_kd_46 {h : mmH} (H : WS h) : mm_kd h 46 = 100 := (H.2.1 46 (by decide)).1
theorem W_ln_46 {h : mmH} (H : WS h) : mm_ln h 46 = 8 := (H.2.1 46 (by decide)).2
theorem W_s_46 {h : mmH} (H : WS h) : 46 < mm_sz h := WS_s H (by decide)
theorem W_kd_47 {h : mmH} (H : WS h) : mm_kd h 47 = 100 := (H.2.1 47 (by decide)).1
theorem W_ln_47 {h : mmH} (H : WS h) : mm_ln h 47 = 3 := (H.2.1 47 (by decide)).2
theorem W_s_47 {h : mmH} (H : WS h) : 47 < mm_sz h := WS_s H (by decide)
theorem W_kd_48 {h : mmH} (H : WS h) : mm_kd h 48 = 103 := (H.2.1 48 (by decide)).1
theorem W_ln_48 {h : mmH} (H : WS h) : mm_ln h 48 = 6 := (H.2.1 48 (by decide)).2
theorem W_s_48 {h : mmH} (H : WS h) : 48 < mm_sz h := WS_s H (by decide)
theorem W_kd_49 {h : mmH} (H : WS h) : mm_kd h 49 = 102 := (H.2.1 49 (by decide)).1
theorem W_ln_49 {h : mmH} (H : WS h) : mm_ln h 49 = 2 := (H.2.1 49 (by decide)).2
theorem W_s_49 {h : mmH} (H : WS h) : 49 < mm_sz h := WS_s H (by decide)
theorem W_kd_50 {h : mmH} (H : WS h) : mm_kd h 50 = 8 := (H.2.1 50 (by decide)).1
theorem W_ln_50 {h : mmH} (H : WS h) : mm_ln h 50 = 2 := (H.2.1 50 (by decide)).2
theorem W_s_50 {h : mmH} (H : WS h) : 50 < mm_sz h := WS_s H (by decide)
theorem W_kd_51 {h : mmH} (H : WS h) : mm_kd h 51 = 100 := (H.2.1 51 (by decide)).1
theorem W_ln_51 {h : mmH} (H : WS h) : mm_ln h 51 = 240 := (H.2.1 51 (by decide)).2
theorem W_s_51 {h : mmH} (H : WS h) : 51 < mm_sz h := WS_s H (by decide)
theorem W_kd_52 {h : mmH} (H : WS h) : mm_kd h 52 = 8 := (H.2.1 52 (by decide)).1
theorem W_ln_52 {h : mmH} (H : WS h) : mm_ln h 52 = 2 := (H.2.1 52 (by decide)).2
theorem W_s_52 {h : mmH} (H : WS h) : 52 < mm_sz h := WS_s H (by decide)
theorem W_kd_53 {h : mmH} (H : WS h) : mm_kd h 53 = 100 := (H.2.1 53 (by decide)).1
theorem W_ln_53 {h : mmH} (H : WS h) : mm_ln h 53 = 240 := (H.2.1 53 (by decide)).2
theorem W_s_53 {h : mmH} (H : WS h) : 53 < mm_sz h := WS_s H (by decide)
theorem W_kd_54 {h : mmH} (H : WS h) : mm_kd h 54 = 5 := (H.2.1 54 (by decide)).1
theorem W_ln_54 {h : mmH} (H : WS h) : mm_ln h 54 = 2 := (H.2.1 54 (by decide)).2
theorem W_s_54 {h : mmH} (H : WS h) : 54 < mm_sz h := WS_s H (by decide)
theorem W_kd_55 {h : mmH} (H : WS h) : mm_kd h 55 = 100 := (H.2.1 55 (by decide)).1
theorem W_ln_55 {h : mmH} (H : WS h) : mm_ln h 55 = 400 := (H.2.1 55 (by decide)).2
theorem W_s_55 {h : mmH} (H : WS h) : 55 < mm_sz h := WS_s H (by decide)
theorem W_kd_56 {h : mmH} (H : WS h) : mm_kd h 56 = 3 := (H.2.1 56 (by decide)).1
theorem W_ln_56 {h : mmH} (H : WS h) : mm_ln h 56 = 5 := (H.2.1 56 (by decide)).2
theorem W_s_56 {h : mmH} (H : WS h) : 56 < mm_sz h := WS_s H (by decide)
theorem W_kd_57 {h : mmH} (H : WS h) : mm_kd h 57 = 7 := (H.2.1 57 (by decide)).1
theorem W_ln_57 {h : mmH} (H : WS h) : mm_ln h 57 = 5 := (H.2.1 57 (by decide)).2
theorem W_s_57 {h : mmH} (H : WS h) : 57 < mm_sz h := WS_s H (by decide)
theorem W_kd_58 {h : mmH} (H : WS h) : mm_kd h 58 = 6 := (H.2.1 58 (by decide)).1
theorem W_ln_58 {h : mmH} (H : WS h) : mm_ln h 58 = 9 := (H.2.1 58 (by decide)).2
theorem W_s_58 {h : mmH} (H : WS h) : 58 < mm_sz h := WS_s H (by decide)
theorem W_kd_59 {h : mmH} (H : WS h) : mm_kd h 59 = 100 := (H.2.1 59 (by decide)).1
theorem W_ln_59 {h : mmH} (H : WS h) : mm_ln h 59 = 12 := (H.2.1 59 (by decide)).2
theorem W_s_59 {h : mmH} (H : WS h) : 59 < mm_sz h := WS_s H (by decide)
theorem W_kd_60 {h : mmH} (H : WS h) : mm_kd h 60 = 100 := (H.2.1 60 (by decide)).1
theorem W_ln_60 {h : mmH} (H : WS h) : mm_ln h 60 = 12 := (H.2.1 60 (by decide)).2
theorem W_s_60 {h : mmH} (H : WS h) : 60 < mm_sz h := WS_s H (by decide)
theorem W_kd_61 {h : mmH} (H : WS h) : mm_kd h 61 = 100 := (H.2.1 61 (by decide)).1
theorem W_ln_61 {h : mmH} (H : WS h) : mm_ln h 61 = 12 := (H.2.1 61 (by decide)).2
theorem W_s_61 {h : mmH} (H : WS h) : 61 < mm_sz h := WS_s H (by decide)
theorem W_kd_62 {h : mmH} (H : WS h) : mm_kd h 62 = 100 := (H.2.1 62 (by decide)).1
theorem W_ln_62 {h : mmH} (H : WS h) : mm_ln h 62 = 12 := (H.2.1 62 (by decide)).2
theorem W_s_62 {h : mmH} (H : WS h) : 62 < mm_sz h := WS_s H (by decide)
theorem W_kd_63 {h : mmH} (H : WS h) : mm_kd h 63 = 100 := (H.2.1 63 (by decide)).1
theorem W_ln_63 {h : mmH} (H : WS h) : mm_ln h 63 = 12 := (H.2.1 63 (by decide)).2
theorem W_s_63 {h : mmH} (H : WS h) : 63 < mm_sz h := WS_s H (by decide)
theorem W_kd_64 {h : mmH} (H : WS h) : mm_kd h 64 = 100 := (H.2.1 64 (by decide)).1
theorem W_ln_64 {h : mmH} (H : WS h) : mm_ln h 64 = 400 := (H.2.1 64 (by decide)).2
theorem W_s_64 {h : mmH} (H : WS h) : 64 < mm_sz h := WS_s H (by decide)
theorem W_kd_65 {h : mmH} (H : WS h) : mm_kd h 65 = 100 := (H.2.1 65 (by decide)).1
theorem W_ln_65 {h : mmH} (H : WS h) : mm_ln h 65 = 400 := (H.2.1 65 (by decide)).2
theorem W_s_65 {h : mmH} (H : WS h) : 65 < mm_sz h := WS_s H (by decide)
theorem W_kd_66 {h : mmH} (H : WS h) : mm_kd h 66 = 2 := (H.2.1 66 (by decide)).1
theorem W_ln_66 {h : mmH} (H : WS h) : mm_ln h 66 = 13 := (H.2.1 66 (by decide)).2
theorem W_s_66 {h : mmH} (H : WS h) : 66 < mm_sz h := WS_s H (by decide)
theorem W_kd_67 {h : mmH} (H : WS h) : mm_kd h 67 = 100 := (H.2.1 67 (by decide)).1
theorem W_ln_67 {h : mmH} (H : WS h) : mm_ln h 67 = 8 := (H.2.1 67 (by decide)).2
theorem W_s_67 {h : mmH} (H : WS h) : 67 < mm_sz h := WS_s H (by decide)
theorem W_kd_68 {h : mmH} (H : WS h) : mm_kd h 68 = 100 := (H.2.1 68 (by decide)).1
theorem W_ln_68 {h : mmH} (H : WS h) : mm_ln h 68 = 256 := (H.2.1 68 (by decide)).2
theorem W_s_68 {h : mmH} (H : WS h) : 68 < mm_sz h := WS_s H (by decide)
theorem W_kd_69 {h : mmH} (H : WS h) : mm_kd h 69 = 100 := (H.2.1 69 (by decide)).1
theorem W_ln_69 {h : mmH} (H : WS h) : mm_ln h 69 = 256 := (H.2.1 69 (by decide)).2
theorem W_s_69 {h : mmH} (H : WS h) : 69 < mm_sz h := WS_s H (by decide)
theorem W_kd_70 {h : mmH} (H : WS h) : mm_kd h 70 = 100 := (H.2.1 70 (by decide)).1
theorem W_ln_70 {h : mmH} (H : WS h) : mm_ln h 70 = 256 := (H.2.1 70 (by decide)).2
theorem W_s_70 {h : mmH} (H : WS h) : 70 < mm_sz h := WS_s H (by decide)
theorem W_kd_71 {h : mmH} (H : WS h) : mm_kd h 71 = 100 := (H.2.1 71 (by decide)).1
theorem W_ln_71 {h : mmH} (H : WS h) : mm_ln h 71 = 256 := (H.2.1 71 (by decide)).2
theorem W_s_71 {h : mmH} (H : WS h) : 71 < mm_sz h := WS_s H (by decide)
theorem W_kd_72 {h : mmH} (H : WS h) : mm_kd h 72 = 100 := (H.2.1 72 (by decide)).1
theorem W_ln_72 {h : mmH} (H : WS h) : mm_ln h 72 = 256 := (H.2.1 72 (by decide)).2
theorem W_s_72 {h : mmH} (H : WS h) : 72 < mm_sz h := WS_s H (by decide)
theorem W_kd_73 {h : mmH} (H : WS h) : mm_kd h 73 = 100 := (H.2.1 73 (by decide)).1
theorem W_ln_73 {h : mmH} (H : WS h) : mm_ln h 73 = 256 := (H.2.1 73 (by decide)).2
theorem W_s_73 {h : mmH} (H : WS h) : 73 < mm_sz h := WS_s H (by decide)
theorem W_kd_74 {h : mmH} (H : WS h) : mm_kd h 74 = 100 := (H.2.1 74 (by decide)).1
theorem W_ln_74 {h : mmH} (H : WS h) : mm_ln h 74 = 48 := (H.2.1 74 (by decide)).2
theorem W_s_74 {h : mmH} (H : WS h) : 74 < mm_sz h := WS_s H (by decide)
theorem W_kd_75 {h : mmH} (H : WS h) : mm_kd h 75 = 100 := (H.2.1 75 (by decide)).1
theorem W_ln_75 {h : mmH} (H : WS h) : mm_ln h 75 = 1792 := (H.2.1 75 (by decide)).2
theorem W_s_75 {h : mmH} (H : WS h) : 75 < mm_sz h := WS_s H (by decide)
theorem W_kd_76 {h : mmH} (H : WS h) : mm_kd h 76 = 100 := (H.2.1 76 (by decide)).1
theorem W_ln_76 {h : mmH} (H : WS h) : mm_ln h 76 = 6 := (H.2.1 76 (by decide)).2
theorem W_s_76 {h : mmH} (H : WS h) : 76 < mm_sz h := WS_s H (by decide)
theorem W_kd_77 {h : mmH} (H : WS h) : mm_kd h 77 = 101 := (H.2.1 77 (by decide)).1
theorem W_ln_77 {h : mmH} (H : WS h) : mm_ln h 77 = 20 := (H.2.1 77 (by decide)).2
theorem W_s_77 {h : mmH} (H : WS h) : 77 < mm_sz h := WS_s H (by decide)
theorem W_kd_78 {h : mmH} (H : WS h) : mm_kd h 78 = 4 := (H.2.1 78 (by decide)).1
theorem W_ln_78 {h : mmH} (H : WS h) : mm_ln h 78 = 2 := (H.2.1 78 (by decide)).2
theorem W_s_78 {h : mmH} (H : WS h) : 78 < mm_sz h := WS_s H (by decide)
theorem W_kd_79 {h : mmH} (H : WS h) : mm_kd h 79 = 1 := (H.2.1 79 (by decide)).1
theorem W_ln_79 {h : mmH} (H : WS h) : mm_ln h 79 = 17 := (H.2.1 79 (by decide)).2
theorem W_s_79 {h : mmH} (H : WS h) : 79 < mm_sz h := WS_s H (by decide)
theorem W_kd_80 {h : mmH} (H : WS h) : mm_kd h 80 = 100 := (H.2.1 80 (by decide)).1
theorem W_ln_80 {h : mmH} (H : WS h) : mm_ln h 80 = 8 := (H.2.1 80 (by decide)).2
theorem W_s_80 {h : mmH} (H : WS h) : 80 < mm_sz h := WS_s H (by decide)
theorem W_kd_81 {h : mmH} (H : WS h) : mm_kd h 81 = 100 := (H.2.1 81 (by decide)).1
theorem W_ln_81 {h : mmH} (H : WS h) : mm_ln h 81 = 8 := (H.2.1 81 (by decide)).2
theorem W_s_81 {h : mmH} (H : WS h) : 81 < mm_sz h := WS_s H (by decide)
theorem W_kd_82 {h : mmH} (H : WS h) : mm_kd h 82 = 100 := (H.2.1 82 (by decide)).1
theorem W_ln_82 {h : mmH} (H : WS h) : mm_ln h 82 = 8 := (H.2.1 82 (by decide)).2
theorem W_s_82 {h : mmH} (H : WS h) : 82 < mm_sz h := WS_s H (by decide)
theorem W_kd_83 {h : mmH} (H : WS h) : mm_kd h 83 = 100 := (H.2.1 83 (by decide)).1
theorem W_ln_83 {h : mmH} (H : WS h) : mm_ln h 83 = 6 := (H.2.1 83 (by decide)).2
theorem W_s_83 {h : mmH} (H : WS h) : 83 < mm_sz h := WS_s H (by decide)
theorem W_kd_84 {h : mmH} (H : WS h) : mm_kd h 84 = 100 := (H.2.1 84 (by decide)).1
theorem W_ln_84 {h : mmH} (H : WS h) : mm_ln h 84 = 6 := (H.2.1 84 (by decide)).2
theorem W_s_84 {h : mmH} (H : WS h) : 84 < mm_sz h := WS_s H (by decide)
theorem W_kd_85 {h : mmH} (H : WS h) : mm_kd h 85 = 100 := (H.2.1 85 (by decide)).1
theorem W_ln_85 {h : mmH} (H : WS h) : mm_ln h 85 = 6 := (H.2.1 85 (by decide)).2
theorem W_s_85 {h : mmH} (H : WS h) : 85 < mm_sz h := WS_s H (by decide)
theorem W_kd_86 {h : mmH} (H : WS h) : mm_kd h 86 = 100 := (H.2.1 86 (by decide)).1
theorem W_ln_86 {h : mmH} (H : WS h) : mm_ln h 86 = 8 := (H.2.1 86 (by decide)).2
theorem W_s_86 {h : mmH} (H : WS h) : 86 < mm_sz h := WS_s H (by decide)
theorem W_kd_87 {h : mmH} (H : WS h) : mm_kd h 87 = 100 := (H.2.1 87 (by decide)).1
theorem W_ln_87 {h : mmH} (H : WS h) : mm_ln h 87 = 8 := (H.2.1 87 (by decide)).2
theorem W_s_87 {h : mmH} (H : WS h) : 87 < mm_sz h := WS_s H (by decide)
theorem W_kd_88 {h : mmH} (H : WS h) : mm_kd h 88 = 100 := (H.2.1 88 (by decide)).1
theorem W_ln_88 {h : mmH} (H : WS h) : mm_ln h 88 = 3 := (H.2.1 88 (by decide)).2
theorem W_s_88 {h : mmH} (H : WS h) : 88 < mm_sz h := WS_s H (by decide)
theorem W_kd_89 {h : mmH} (H : WS h) : mm_kd h 89 = 103 := (H.2.1 89 (by decide)).1
theorem W_ln_89 {h : mmH} (H : WS h) : mm_ln h 89 = 6 := (H.2.1 89 (by decide)).2
theorem W_s_89 {h : mmH} (H : WS h) : 89 < mm_sz h := WS_s H (by decide)
theorem W_kd_90 {h : mmH} (H : WS h) : mm_kd h 90 = 100 := (H.2.1 90 (by decide)).1
theorem W_ln_90 {h : mmH} (H : WS h) : mm_ln h 90 = 5 := (H.2.1 90 (by decide)).2
theorem W_s_90 {h : mmH} (H : WS h) : 90 < mm_sz h := WS_s H (by decide)
theorem W_kd_91 {h : mmH} (H : WS h) : mm_kd h 91 = 10 := (H.2.1 91 (by decide)).1
theorem W_ln_91 {h : mmH} (H : WS h) : mm_ln h 91 = 57 := (H.2.1 91 (by decide)).2
theorem W_s_91 {h : mmH} (H : WS h) : 91 < mm_sz h := WS_s H (by decide)
theorem W_kd_92 {h : mmH} (H : WS h) : mm_kd h 92 = 100 := (H.2.1 92 (by decide)).1
theorem W_ln_92 {h : mmH} (H : WS h) : mm_ln h 92 = 7 := (H.2.1 92 (by decide)).2
theorem W_s_92 {h : mmH} (H : WS h) : 92 < mm_sz h := WS_s H (by decide)
theorem W_kd_93 {h : mmH} (H : WS h) : mm_kd h 93 = 100 := (H.2.1 93 (by decide)).1
theorem W_ln_93 {h : mmH} (H : WS h) : mm_ln h 93 = 5475 := (H.2.1 93 (by decide)).2
theorem W_s_93 {h : mmH} (H : WS h) : 93 < mm_sz h := WS_s H (by decide)
theorem W_kd_94 {h : mmH} (H : WS h) : mm_kd h 94 = 100 := (H.2.1 94 (by decide)).1
theorem W_ln_94 {h : mmH} (H : WS h) : mm_ln h 94 = 10950 := (H.2.1 94 (by decide)).2
theorem W_s_94 {h : mmH} (H : WS h) : 94 < mm_sz h := WS_s H (by decide)
theorem W_kd_95 {h : mmH} (H : WS h) : mm_kd h 95 = 102 := (H.2.1 95 (by decide)).1
theorem W_ln_95 {h : mmH} (H : WS h) : mm_ln h 95 = 2 := (H.2.1 95 (by decide)).2
theorem W_s_95 {h : mmH} (H : WS h) : 95 < mm_sz h := WS_s H (by decide)
theorem W_kd_96 {h : mmH} (H : WS h) : mm_kd h 96 = 100 := (H.2.1 96 (by decide)).1
theorem W_ln_96 {h : mmH} (H : WS h) : mm_ln h 96 = 414 := (H.2.1 96 (by decide)).2
theorem W_s_96 {h : mmH} (H : WS h) : 96 < mm_sz h := WS_s H (by decide)
theorem W_kd_97 {h : mmH} (H : WS h) : mm_kd h 97 = 100 := (H.2.1 97 (by decide)).1
theorem W_ln_97 {h : mmH} (H : WS h) : mm_ln h 97 = 16 := (H.2.1 97 (by decide)).2
theorem W_s_97 {h : mmH} (H : WS h) : 97 < mm_sz h := WS_s H (by decide)
theorem W_kd_98 {h : mmH} (H : WS h) : mm_kd h 98 = 100 := (H.2.1 98 (by decide)).1
theorem W_ln_98 {h : mmH} (H : WS h) : mm_ln h 98 = 368 := (H.2.1 98 (by decide)).2
theorem W_s_98 {h : mmH} (H : WS h) : 98 < mm_sz h := WS_s H (by decide)
theorem W_kd_99 {h : mmH} (H : WS h) : mm_kd h 99 = 100 := (H.2.1 99 (by decide)).1
theorem W_ln_99 {h : mmH} (H : WS h) : mm_ln h 99 = 16 := (H.2.1 99 (by decide)).2
theorem W_s_99 {h : mmH} (H : WS h) : 99 < mm_sz h := WS_s H (by decide)
theorem W_kd_100 {h : mmH} (H : WS h) : mm_kd h 100 = 100 := (H.2.1 100 (by decide)).1
theorem W_ln_100 {h : mmH} (H : WS h) : mm_ln h 100 = 400 := (H.2.1 100 (by decide)).2
theorem W_s_100 {h : mmH} (H : WS h) : 100 < mm_sz h := WS_s H (by decide)
theorem W_kd_101 {h : mmH} (H : WS h) : mm_kd h 101 = 100 := (H.2.1 101 (by decide)).1
theorem W_ln_101 {h : mmH} (H : WS h) : mm_ln h 101 = 96 := (H.2.1 101 (by decide)).2
theorem W_s_101 {h : mmH} (H : WS h) : 101 < mm_sz h := WS_s H (by decide)
theorem W_kd_102 {h : mmH} (H : WS h) : mm_kd h 102 = 100 := (H.2.1 102 (by decide)).1
theorem W_ln_102 {h : mmH} (H : WS h) : mm_ln h 102 = 400 := (H.2.1 102 (by decide)).2
theorem W_s_102 {h : mmH} (H : WS h) : 102 < mm_sz h := WS_s H (by decide)
theorem W_kd_103 {h : mmH} (H : WS h) : mm_kd h 103 = 100 := (H.2.1 103 (by decide)).1
theorem W_ln_103 {h : mmH} (H : WS h) : mm_ln h 103 = 400 := (H.2.1 103 (by decide)).2
theorem W_s_103 {h : mmH} (H : WS h) : 103 < mm_sz h := WS_s H (by decide)
theorem W_kd_104 {h : mmH} (H : WS h) : mm_kd h 104 = 100 := (H.2.1 104 (by decide)).1
theorem W_ln_104 {h : mmH} (H : WS h) : mm_ln h 104 = 400 := (H.2.1 104 (by decide)).2
theorem W_s_104 {h : mmH} (H : WS h) : 104 < mm_sz h := WS_s H (by decide)
theorem W_kd_105 {h : mmH} (H : WS h) : mm_kd h 105 = 100 := (H.2.1 105 (by decide)).1
theorem W_ln_105 {h : mmH} (H : WS h) : mm_ln h 105 = 400 := (H.2.1 105 (by decide)).2
theorem W_s_105 {h : mmH} (H : WS h) : 105 < mm_sz h := WS_s H (by decide)
theorem W_kd_106 {h : mmH} (H : WS h) : mm_kd h 106 = 101 := (H.2.1 106 (by decide)).1
theorem W_ln_106 {h : mmH} (H : WS h) : mm_ln h 106 = 10 := (H.2.1 106 (by decide)).2
theorem W_s_106 {h : mmH} (H : WS h) : 106 < mm_sz h := WS_s H (by decide)
theorem W_kd_107 {h : mmH} (H : WS h) : mm_kd h 107 = 101 := (H.2.1 107 (by decide)).1
theorem W_ln_107 {h : mmH} (H : WS h) : mm_ln h 107 = 6 := (H.2.1 107 (by decide)).2
theorem W_s_107 {h : mmH} (H : WS h) : 107 < mm_sz h := WS_s H (by decide)
theorem W_kd_108 {h : mmH} (H : WS h) : mm_kd h 108 = 101 := (H.2.1 108 (by decide)).1
theorem W_ln_108 {h : mmH} (H : WS h) : mm_ln h 108 = 4 := (H.2.1 108 (by decide)).2
theorem W_s_108 {h : mmH} (H : WS h) : 108 < mm_sz h := WS_s H (by decide)
theorem W_kd_109 {h : mmH} (H : WS h) : mm_kd h 109 = 101 := (H.2.1 109 (by decide)).1
theorem W_ln_109 {h : mmH} (H : WS h) : mm_ln h 109 = 13 := (H.2.1 109 (by decide)).2
theorem W_s_109 {h : mmH} (H : WS h) : 109 < mm_sz h := WS_s H (by decide)
theorem W_kd_110 {h : mmH} (H : WS h) : mm_kd h 110 = 101 := (H.2.1 110 (by decide)).1
theorem W_ln_110 {h : mmH} (H : WS h) : mm_ln h 110 = 13 := (H.2.1 110 (by decide)).2
theorem W_s_110 {h : mmH} (H : WS h) : 110 < mm_sz h := WS_s H (by decide)
theorem W_kd_111 {h : mmH} (H : WS h) : mm_kd h 111 = 101 := (H.2.1 111 (by decide)).1
theorem W_ln_111 {h : mmH} (H : WS h) : mm_ln h 111 = 400 := (H.2.1 111 (by decide)).2
theorem W_s_111 {h : mmH} (H : WS h) : 111 < mm_sz h := WS_s H (by decide)
theorem W_kd_112 {h : mmH} (H : WS h) : mm_kd h 112 = 100 := (H.2.1 112 (by decide)).1
theorem W_ln_112 {h : mmH} (H : WS h) : mm_ln h 112 = 2048 := (H.2.1 112 (by decide)).2
theorem W_s_112 {h : mmH} (H : WS h) : 112 < mm_sz h := WS_s H (by decide)
theorem W_kd_113 {h : mmH} (H : WS h) : mm_kd h 113 = 100 := (H.2.1 113 (by decide)).1
theorem W_ln_113 {h : mmH} (H : WS h) : mm_ln h 113 = 256 := (H.2.1 113 (by decide)).2
theorem W_s_113 {h : mmH} (H : WS h) : 113 < mm_sz h := WS_s H (by decide)
theorem W_kd_114 {h : mmH} (H : WS h) : mm_kd h 114 = 100 := (H.2.1 114 (by decide)).1
theorem W_ln_114 {h : mmH} (H : WS h) : mm_ln h 114 = 8 := (H.2.1 114 (by decide)).2
theorem W_s_114 {h : mmH} (H : WS h) : 114 < mm_sz h := WS_s H (by decide)
theorem W_kd_115 {h : mmH} (H : WS h) : mm_kd h 115 = 100 := (H.2.1 115 (by decide)).1
theorem W_ln_115 {h : mmH} (H : WS h) : mm_ln h 115 = 48 := (H.2.1 115 (by decide)).2
theorem W_s_115 {h : mmH} (H : WS h) : 115 < mm_sz h := WS_s H (by decide)
theorem W_kd_116 {h : mmH} (H : WS h) : mm_kd h 116 = 100 := (H.2.1 116 (by decide)).1
theorem W_ln_116 {h : mmH} (H : WS h) : mm_ln h 116 = 1792 := (H.2.1 116 (by decide)).2
theorem W_s_116 {h : mmH} (H : WS h) : 116 < mm_sz h := WS_s H (by decide)
theorem W_kd_117 {h : mmH} (H : WS h) : mm_kd h 117 = 101 := (H.2.1 117 (by decide)).1
theorem W_ln_117 {h : mmH} (H : WS h) : mm_ln h 117 = 21 := (H.2.1 117 (by decide)).2
theorem W_s_117 {h : mmH} (H : WS h) : 117 < mm_sz h := WS_s H (by decide)
theorem W_kd_118 {h : mmH} (H : WS h) : mm_kd h 118 = 101 := (H.2.1 118 (by decide)).1
theorem W_ln_118 {h : mmH} (H : WS h) : mm_ln h 118 = 4 := (H.2.1 118 (by decide)).2
theorem W_s_118 {h : mmH} (H : WS h) : 118 < mm_sz h := WS_s H (by decide)
theorem W_kd_119 {h : mmH} (H : WS h) : mm_kd h 119 = 101 := (H.2.1 119 (by decide)).1
theorem W_ln_119 {h : mmH} (H : WS h) : mm_ln h 119 = 3 := (H.2.1 119 (by decide)).2
theorem W_s_119 {h : mmH} (H : WS h) : 119 < mm_sz h := WS_s H (by decide)
theorem W_kd_120 {h : mmH} (H : WS h) : mm_kd h 120 = 100 := (H.2.1 120 (by decide)).1
theorem W_ln_120 {h : mmH} (H : WS h) : mm_ln h 120 = 96 := (H.2.1 120 (by decide)).2
theorem W_s_120 {h : mmH} (H : WS h) : 120 < mm_sz h := WS_s H (by decide)
theorem W_kd_121 {h : mmH} (H : WS h) : mm_kd h 121 = 100 := (H.2.1 121 (by decide)).1
theorem W_ln_121 {h : mmH} (H : WS h) : mm_ln h 121 = 12 := (H.2.1 121 (by decide)).2
theorem W_s_121 {h : mmH} (H : WS h) : 121 < mm_sz h := WS_s H (by decide)
theorem W_gr_0_0 {h : mmH} (H : WS h) : mm_gr h 0 0 = some 1 := H.2.2 (0, 0, 1) (List.mem_of_getElem? (i := 0) rfl)
theorem W_gr_0_1 {h : mmH} (H : WS h) : mm_gr h 0 1 = some 4 := H.2.2 (0, 1, 4) (List.mem_of_getElem? (i := 1) rfl)
theorem W_gr_0_2 {h : mmH} (H : WS h) : mm_gr h 0 2 = some 15 := H.2.2 (0, 2, 15) (List.mem_of_getElem? (i := 2) rfl)
theorem W_gr_0_3 {h : mmH} (H : WS h) : mm_gr h 0 3 = some 26 := H.2.2 (0, 3, 26) (List.mem_of_getElem? (i := 3) rfl)
theorem W_gr_0_4 {h : mmH} (H : WS h) : mm_gr h 0 4 = some 49 := H.2.2 (0, 4, 49) (List.mem_of_getElem? (i := 4) rfl)
theorem W_gr_0_5 {h : mmH} (H : WS h) : mm_gr h 0 5 = some 50 := H.2.2 (0, 5, 50) (List.mem_of_getElem? (i := 5) rfl)
theorem W_gr_0_6 {h : mmH} (H : WS h) : mm_gr h 0 6 = some 52 := H.2.2 (0, 6, 52) (List.mem_of_getElem? (i := 6) rfl)
theorem W_gr_0_7 {h : mmH} (H : WS h) : mm_gr h 0 7 = some 54 := H.2.2 (0, 7, 54) (List.mem_of_getElem? (i := 7) rfl)
theorem W_gr_0_8 {h : mmH} (H : WS h) : mm_gr h 0 8 = some 56 := H.2.2 (0, 8, 56) (List.mem_of_getElem? (i := 8) rfl)
theorem W_gr_0_9 {h : mmH} (H : WS h) : mm_gr h 0 9 = some 66 := H.2.2 (0, 9, 66) (List.mem_of_getElem? (i := 9) rfl)
theorem W_gr_0_10 {h : mmH} (H : WS h) : mm_gr h 0 10 = some 78 := H.2.2 (0, 10, 78) (List.mem_of_getElem? (i := 10) rfl)
theorem W_gr_0_11 {h : mmH} (H : WS h) : mm_gr h 0 11 = some 90 := H.2.2 (0, 11, 90) (List.mem_of_getElem? (i := 11) rfl)
theorem W_gr_1_0 {h : mmH} (H : WS h) : mm_gr h 1 0 = some 2 := H.2.2 (1, 0, 2) (List.mem_of_getElem? (i := 12) rfl)
theorem W_gr_1_1 {h : mmH} (H : WS h) : mm_gr h 1 1 = some 3 := H.2.2 (1, 1, 3) (List.mem_of_getElem? (i := 13) rfl)
theorem W_gr_4_0 {h : mmH} (H : WS h) : mm_gr h 4 0 = some 1 := H.2.2 (4, 0, 1) (List.mem_of_getElem? (i := 14) rfl)
theorem W_gr_4_2 {h : mmH} (H : WS h) : mm_gr h 4 2 = some 5 := H.2.2 (4, 2, 5) (List.mem_of_getElem? (i := 15) rfl)
theorem W_gr_4_3 {h : mmH} (H : WS h) : mm_gr h 4 3 = some 6 := H.2.2 (4, 3, 6) (List.mem_of_getElem? (i := 16) rfl)
theorem W_gr_4_4 {h : mmH} (H : WS h) : mm_gr h 4 4 = some 7 := H.2.2 (4, 4, 7) (List.mem_of_getElem? (i := 17) rfl)
theorem W_gr_4_7 {h : mmH} (H : WS h) : mm_gr h 4 7 = some 8 := H.2.2 (4, 7, 8) (List.mem_of_getElem? (i := 18) rfl)
theorem W_gr_4_8 {h : mmH} (H : WS h) : mm_gr h 4 8 = some 9 := H.2.2 (4, 8, 9) (List.mem_of_getElem? (i := 19) rfl)
theorem W_gr_4_9 {h : mmH} (H : WS h) : mm_gr h 4 9 = some 10 := H.2.2 (4, 9, 10) (List.mem_of_getElem? (i := 20) rfl)
theorem W_gr_4_11 {h : mmH} (H : WS h) : mm_gr h 4 11 = some 11 := H.2.2 (4, 11, 11) (List.mem_of_getElem? (i := 21) rfl)
theorem W_gr_4_12 {h : mmH} (H : WS h) : mm_gr h 4 12 = some 12 := H.2.2 (4, 12, 12) (List.mem_of_getElem? (i := 22) rfl)
theorem W_gr_4_13 {h : mmH} (H : WS h) : mm_gr h 4 13 = some 13 := H.2.2 (4, 13, 13) (List.mem_of_getElem? (i := 23) rfl)
theorem W_gr_4_15 {h : mmH} (H : WS h) : mm_gr h 4 15 = some 14 := H.2.2 (4, 15, 14) (List.mem_of_getElem? (i := 24) rfl)
theorem W_gr_15_0 {h : mmH} (H : WS h) : mm_gr h 15 0 = some 1 := H.2.2 (15, 0, 1) (List.mem_of_getElem? (i := 25) rfl)
theorem W_gr_15_2 {h : mmH} (H : WS h) : mm_gr h 15 2 = some 16 := H.2.2 (15, 2, 16) (List.mem_of_getElem? (i := 26) rfl)
theorem W_gr_15_3 {h : mmH} (H : WS h) : mm_gr h 15 3 = some 17 := H.2.2 (15, 3, 17) (List.mem_of_getElem? (i := 27) rfl)
theorem W_gr_15_4 {h : mmH} (H : WS h) : mm_gr h 15 4 = some 18 := H.2.2 (15, 4, 18) (List.mem_of_getElem? (i := 28) rfl)
theorem W_gr_15_7 {h : mmH} (H : WS h) : mm_gr h 15 7 = some 19 := H.2.2 (15, 7, 19) (List.mem_of_getElem? (i := 29) rfl)
theorem W_gr_15_8 {h : mmH} (H : WS h) : mm_gr h 15 8 = some 20 := H.2.2 (15, 8, 20) (List.mem_of_getElem? (i := 30) rfl)
theorem W_gr_15_9 {h : mmH} (H : WS h) : mm_gr h 15 9 = some 21 := H.2.2 (15, 9, 21) (List.mem_of_getElem? (i := 31) rfl)
theorem W_gr_15_11 {h : mmH} (H : WS h) : mm_gr h 15 11 = some 22 := H.2.2 (15, 11, 22) (List.mem_of_getElem? (i := 32) rfl)
theorem W_gr_15_12 {h : mmH} (H : WS h) : mm_gr h 15 12 = some 23 := H.2.2 (15, 12, 23) (List.mem_of_getElem? (i := 33) rfl)
theorem W_gr_15_13 {h : mmH} (H : WS h) : mm_gr h 15 13 = some 24 := H.2.2 (15, 13, 24) (List.mem_of_getElem? (i := 34) rfl)
theorem W_gr_15_15 {h : mmH} (H : WS h) : mm_gr h 15 15 = some 25 := H.2.2 (15, 15, 25) (List.mem_of_getElem? (i := 35) rfl)
theorem W_gr_26_0 {h : mmH} (H : WS h) : mm_gr h 26 0 = some 27 := H.2.2 (26, 0, 27) (List.mem_of_getElem? (i := 36) rfl)
theorem W_gr_26_1 {h : mmH} (H : WS h) : mm_gr h 26 1 = some 38 := H.2.2 (26, 1, 38) (List.mem_of_getElem? (i := 37) rfl)
theorem W_gr_27_0 {h : mmH} (H : WS h) : mm_gr h 27 0 = some 1 := H.2.2 (27, 0, 1) (List.mem_of_getElem? (i := 38) rfl)
theorem W_gr_27_2 {h : mmH} (H : WS h) : mm_gr h 27 2 = some 28 := H.2.2 (27, 2, 28) (List.mem_of_getElem? (i := 39) rfl)
theorem W_gr_27_3 {h : mmH} (H : WS h) : mm_gr h 27 3 = some 29 := H.2.2 (27, 3, 29) (List.mem_of_getElem? (i := 40) rfl)
theorem W_gr_27_4 {h : mmH} (H : WS h) : mm_gr h 27 4 = some 30 := H.2.2 (27, 4, 30) (List.mem_of_getElem? (i := 41) rfl)
theorem W_gr_27_7 {h : mmH} (H : WS h) : mm_gr h 27 7 = some 31 := H.2.2 (27, 7, 31) (List.mem_of_getElem? (i := 42) rfl)
theorem W_gr_27_8 {h : mmH} (H : WS h) : mm_gr h 27 8 = some 32 := H.2.2 (27, 8, 32) (List.mem_of_getElem? (i := 43) rfl)
theorem W_gr_27_9 {h : mmH} (H : WS h) : mm_gr h 27 9 = some 33 := H.2.2 (27, 9, 33) (List.mem_of_getElem? (i := 44) rfl)
theorem W_gr_27_11 {h : mmH} (H : WS h) : mm_gr h 27 11 = some 34 := H.2.2 (27, 11, 34) (List.mem_of_getElem? (i := 45) rfl)
theorem W_gr_27_12 {h : mmH} (H : WS h) : mm_gr h 27 12 = some 35 := H.2.2 (27, 12, 35) (List.mem_of_getElem? (i := 46) rfl)
theorem W_gr_27_13 {h : mmH} (H : WS h) : mm_gr h 27 13 = some 36 := H.2.2 (27, 13, 36) (List.mem_of_getElem? (i := 47) rfl)
theorem W_gr_27_15 {h : mmH} (H : WS h) : mm_gr h 27 15 = some 37 := H.2.2 (27, 15, 37) (List.mem_of_getElem? (i := 48) rfl)
theorem W_gr_38_0 {h : mmH} (H : WS h) : mm_gr h 38 0 = some 1 := H.2.2 (38, 0, 1) (List.mem_of_getElem? (i := 49) rfl)
theorem W_gr_38_2 {h : mmH} (H : WS h) : mm_gr h 38 2 = some 39 := H.2.2 (38, 2, 39) (List.mem_of_getElem? (i := 50) rfl)
theorem W_gr_38_3 {h : mmH} (H : WS h) : mm_gr h 38 3 = some 40 := H.2.2 (38, 3, 40) (List.mem_of_getElem? (i := 51) rfl)
theorem W_gr_38_4 {h : mmH} (H : WS h) : mm_gr h 38 4 = some 41 := H.2.2 (38, 4, 41) (List.mem_of_getElem? (i := 52) rfl)
theorem W_gr_38_7 {h : mmH} (H : WS h) : mm_gr h 38 7 = some 42 := H.2.2 (38, 7, 42) (List.mem_of_getElem? (i := 53) rfl)
theorem W_gr_38_8 {h : mmH} (H : WS h) : mm_gr h 38 8 = some 43 := H.2.2 (38, 8, 43) (List.mem_of_getElem? (i := 54) rfl)
theorem W_gr_38_9 {h : mmH} (H : WS h) : mm_gr h 38 9 = some 44 := H.2.2 (38, 9, 44) (List.mem_of_getElem? (i := 55) rfl)
theorem W_gr_38_11 {h : mmH} (H : WS h) : mm_gr h 38 11 = some 45 := H.2.2 (38, 11, 45) (List.mem_of_getElem? (i := 56) rfl)
theorem W_gr_38_12 {h : mmH} (H : WS h) : mm_gr h 38 12 = some 46 := H.2.2 (38, 12, 46) (List.mem_of_getElem? (i := 57) rfl)
theorem W_gr_38_13 {h : mmH} (H : WS h) : mm_gr h 38 13 = some 47 := H.2.2 (38, 13, 47) (List.mem_of_getElem? (i := 58) rfl)
theorem W_gr_38_15 {h : mmH} (H : WS h) : mm_gr h 38 15 = some 48 := H.2.2 (38, 15, 48) (List.mem_of_getElem? (i := 59) rfl)
theorem W_gr_50_0 {h : mmH} (H : WS h) : mm_gr h 50 0 = some 51 := H.2.2 (50, 0, 51) (List.mem_of_getElem? (i := 60) rfl)
theorem W_gr_52_0 {h : mmH} (H : WS h) : mm_gr h 52 0 = some 53 := H.2.2 (52, 0, 53) (List.mem_of_getElem? (i := 61) rfl)
theorem W_gr_54_0 {h : mmH} (H : WS h) : mm_gr h 54 0 = some 55 := H.2.2 (54, 0, 55) (List.mem_of_getElem? (i := 62) rfl)
theorem W_gr_56_0 {h : mmH} (H : WS h) : mm_gr h 56 0 = some 57 := H.2.2 (56, 0, 57) (List.mem_of_getElem? (i := 63) rfl)
theorem W_gr_56_1 {h : mmH} (H : WS h) : mm_gr h 56 1 = some 58 := H.2.2 (56, 1, 58) (List.mem_of_getElem? (i := 64) rfl)
theorem W_gr_57_0 {h : mmH} (H : WS h) : mm_gr h 57 0 = some 54 := H.2.2 (57, 0, 54) (List.mem_of_getElem? (i := 65) rfl)
theorem W_gr_58_1 {h : mmH} (H : WS h) : mm_gr h 58 1 = some 59 := H.2.2 (58, 1, 59) (List.mem_of_getElem? (i := 66) rfl)
theorem W_gr_58_2 {h : mmH} (H : WS h) : mm_gr h 58 2 = some 60 := H.2.2 (58, 2, 60) (List.mem_of_getElem? (i := 67) rfl)
theorem W_gr_58_3 {h : mmH} (H : WS h) : mm_gr h 58 3 = some 61 := H.2.2 (58, 3, 61) (List.mem_of_getElem? (i := 68) rfl)
theorem W_gr_58_4 {h : mmH} (H : WS h) : mm_gr h 58 4 = some 62 := H.2.2 (58, 4, 62) (List.mem_of_getElem? (i := 69) rfl)
theorem W_gr_58_5 {h : mmH} (H : WS h) : mm_gr h 58 5 = some 63 := H.2.2 (58, 5, 63) (List.mem_of_getElem? (i := 70) rfl)
theorem W_gr_58_7 {h : mmH} (H : WS h) : mm_gr h 58 7 = some 64 := H.2.2 (58, 7, 64) (List.mem_of_getElem? (i := 71) rfl)
theorem W_gr_58_8 {h : mmH} (H : WS h) : mm_gr h 58 8 = some 65 := H.2.2 (58, 8, 65) (List.mem_of_getElem? (i := 72) rfl)
theorem W_gr_66_0 {h : mmH} (H : WS h) : mm_gr h 66 0 = some 4 := H.2.2 (66, 0, 4) (List.mem_of_getElem? (i := 73) rfl)
theorem W_gr_66_1 {h : mmH} (H : WS h) : mm_gr h 66 1 = some 1 := H.2.2 (66, 1, 1) (List.mem_of_getElem? (i := 74) rfl)
theorem W_gr_66_2 {h : mmH} (H : WS h) : mm_gr h 66 2 = some 67 := H.2.2 (66, 2, 67) (List.mem_of_getElem? (i := 75) rfl)
theorem W_gr_66_3 {h : mmH} (H : WS h) : mm_gr h 66 3 = some 68 := H.2.2 (66, 3, 68) (List.mem_of_getElem? (i := 76) rfl)
theorem W_gr_66_4 {h : mmH} (H : WS h) : mm_gr h 66 4 = some 69 := H.2.2 (66, 4, 69) (List.mem_of_getElem? (i := 77) rfl)
theorem W_gr_66_5 {h : mmH} (H : WS h) : mm_gr h 66 5 = some 70 := H.2.2 (66, 5, 70) (List.mem_of_getElem? (i := 78) rfl)
theorem W_gr_66_6 {h : mmH} (H : WS h) : mm_gr h 66 6 = some 71 := H.2.2 (66, 6, 71) (List.mem_of_getElem? (i := 79) rfl)
theorem W_gr_66_7 {h : mmH} (H : WS h) : mm_gr h 66 7 = some 72 := H.2.2 (66, 7, 72) (List.mem_of_getElem? (i := 80) rfl)
theorem W_gr_66_8 {h : mmH} (H : WS h) : mm_gr h 66 8 = some 73 := H.2.2 (66, 8, 73) (List.mem_of_getElem? (i := 81) rfl)
theorem W_gr_66_9 {h : mmH} (H : WS h) : mm_gr h 66 9 = some 74 := H.2.2 (66, 9, 74) (List.mem_of_getElem? (i := 82) rfl)
theorem W_gr_66_10 {h : mmH} (H : WS h) : mm_gr h 66 10 = some 75 := H.2.2 (66, 10, 75) (List.mem_of_getElem? (i := 83) rfl)
theorem W_gr_66_11 {h : mmH} (H : WS h) : mm_gr h 66 11 = some 76 := H.2.2 (66, 11, 76) (List.mem_of_getElem? (i := 84) rfl)
theorem W_gr_66_12 {h : mmH} (H : WS h) : mm_gr h 66 12 = some 77 := H.2.2 (66, 12, 77) (List.mem_of_getElem? (i := 85) rfl)
theorem W_gr_78_0 {h : mmH} (H : WS h) : mm_gr h 78 0 = some 79 := H.2.2 (78, 0, 79) (List.mem_of_getElem? (i := 86) rfl)
theorem W_gr_79_0 {h : mmH} (H : WS h) : mm_gr h 79 0 = some 1 := H.2.2 (79, 0, 1) (List.mem_of_getElem? (i := 87) rfl)
theorem W_gr_79_2 {h : mmH} (H : WS h) : mm_gr h 79 2 = some 80 := H.2.2 (79, 2, 80) (List.mem_of_getElem? (i := 88) rfl)
theorem W_gr_79_3 {h : mmH} (H : WS h) : mm_gr h 79 3 = some 81 := H.2.2 (79, 3, 81) (List.mem_of_getElem? (i := 89) rfl)
theorem W_gr_79_4 {h : mmH} (H : WS h) : mm_gr h 79 4 = some 82 := H.2.2 (79, 4, 82) (List.mem_of_getElem? (i := 90) rfl)
theorem W_gr_79_7 {h : mmH} (H : WS h) : mm_gr h 79 7 = some 83 := H.2.2 (79, 7, 83) (List.mem_of_getElem? (i := 91) rfl)
theorem W_gr_79_8 {h : mmH} (H : WS h) : mm_gr h 79 8 = some 84 := H.2.2 (79, 8, 84) (List.mem_of_getElem? (i := 92) rfl)
theorem W_gr_79_9 {h : mmH} (H : WS h) : mm_gr h 79 9 = some 85 := H.2.2 (79, 9, 85) (List.mem_of_getElem? (i := 93) rfl)
theorem W_gr_79_11 {h : mmH} (H : WS h) : mm_gr h 79 11 = some 86 := H.2.2 (79, 11, 86) (List.mem_of_getElem? (i := 94) rfl)
theorem W_gr_79_12 {h : mmH} (H : WS h) : mm_gr h 79 12 = some 87 := H.2.2 (79, 12, 87) (List.mem_of_getElem? (i := 95) rfl)
theorem W_gr_79_13 {h : mmH} (H : WS h) : mm_gr h 79 13 = some 88 := H.2.2 (79, 13, 88) (List.mem_of_getElem? (i := 96) rfl)
theorem W_gr_79_15 {h : mmH} (H : WS h) : mm_gr h 79 15 = some 89 := H.2.2 (79, 15, 89) (List.mem_of_getElem? (i := 97) rfl)
theorem W_gr_91_2 {h : mmH} (H : WS h) : mm_gr h 91 2 = some 92 := H.2.2 (91, 2, 92) (List.mem_of_getElem? (i := 98) rfl)
theorem W_gr_91_3 {h : mmH} (H : WS h) : mm_gr h 91 3 = some 93 := H.2.2 (91, 3, 93) (List.mem_of_getElem? (i := 99) rfl)
theorem W_gr_91_4 {h : mmH} (H : WS h) : mm_gr h 91 4 = some 94 := H.2.2 (91, 4, 94) (List.mem_of_getElem? (i := 100) rfl)
theorem W_gr_91_5 {h : mmH} (H : WS h) : mm_gr h 91 5 = some 95 := H.2.2 (91, 5, 95) (List.mem_of_getElem? (i := 101) rfl)
theorem W_gr_91_6 {h : mmH} (H : WS h) : mm_gr h 91 6 = some 96 := H.2.2 (91, 6, 96) (List.mem_of_getElem? (i := 102) rfl)
theorem W_gr_91_7 {h : mmH} (H : WS h) : mm_gr h 91 7 = some 97 := H.2.2 (91, 7, 97) (List.mem_of_getElem? (i := 103) rfl)
theorem W_gr_91_9 {h : mmH} (H : WS h) : mm_gr h 91 9 = some 98 := H.2.2 (91, 9, 98) (List.mem_of_getElem? (i := 104) rfl)
theorem W_gr_91_10 {h : mmH} (H : WS h) : mm_gr h 91 10 = some 99 := H.2.2 (91, 10, 99) (List.mem_of_getElem? (i := 105) rfl)
theorem W_gr_91_12 {h : mmH} (H : WS h) : mm_gr h 91 12 = some 100 := H.2.2 (91, 12, 100) (List.mem_of_getElem? (i := 106) rfl)
theorem W_gr_91_22 {h : mmH} (H : WS h) : mm_gr h 91 22 = some 101 := H.2.2 (91, 22, 101) (List.mem_of_getElem? (i := 107) rfl)
theorem W_gr_91_24 {h : mmH} (H : WS h) : mm_gr h 91 24 = some 102 := H.2.2 (91, 24, 102) (List.mem_of_getElem? (i := 108) rfl)
theorem W_gr_91_25 {h : mmH} (H : WS h) : mm_gr h 91 25 = some 103 := H.2.2 (91, 25, 103) (List.mem_of_getElem? (i := 109) rfl)
theorem W_gr_91_27 {h : mmH} (H : WS h) : mm_gr h 91 27 = some 104 := H.2.2 (91, 27, 104) (List.mem_of_getElem? (i := 110) rfl)
theorem W_gr_91_28 {h : mmH} (H : WS h) : mm_gr h 91 28 = some 105 := H.2.2 (91, 28, 105) (List.mem_of_getElem? (i := 111) rfl)
theorem W_gr_91_31 {h : mmH} (H : WS h) : mm_gr h 91 31 = some 106 := H.2.2 (91, 31, 106) (List.mem_of_getElem? (i := 112) rfl)
theorem W_gr_91_32 {h : mmH} (H : WS h) : mm_gr h 91 32 = some 107 := H.2.2 (91, 32, 107) (List.mem_of_getElem? (i := 113) rfl)
theorem W_gr_91_33 {h : mmH} (H : WS h) : mm_gr h 91 33 = some 108 := H.2.2 (91, 33, 108) (List.mem_of_getElem? (i := 114) rfl)
theorem W_gr_91_35 {h : mmH} (H : WS h) : mm_gr h 91 35 = some 109 := H.2.2 (91, 35, 109) (List.mem_of_getElem? (i := 115) rfl)
theorem W_gr_91_36 {h : mmH} (H : WS h) : mm_gr h 91 36 = some 110 := H.2.2 (91, 36, 110) (List.mem_of_getElem? (i := 116) rfl)
theorem W_gr_91_37 {h : mmH} (H : WS h) : mm_gr h 91 37 = some 111 := H.2.2 (91, 37, 111) (List.mem_of_getElem? (i := 117) rfl)
theorem W_gr_91_41 {h : mmH} (H : WS h) : mm_gr h 91 41 = some 112 := H.2.2 (91, 41, 112) (List.mem_of_getElem? (i := 118) rfl)
theorem W_gr_91_42 {h : mmH} (H : WS h) : mm_gr h 91 42 = some 113 := H.2.2 (91, 42, 113) (List.mem_of_getElem? (i := 119) rfl)
theorem W_gr_91_43 {h : mmH} (H : WS h) : mm_gr h 91 43 = some 114 := H.2.2 (91, 43, 114) (List.mem_of_getElem? (i := 120) rfl)
theorem W_gr_91_44 {h : mmH} (H : WS h) : mm_gr h 91 44 = some 115 := H.2.2 (91, 44, 115) (List.mem_of_getElem? (i := 121) rfl)
theorem W_gr_91_45 {h : mmH} (H : WS h) : mm_gr h 91 45 = some 116 := H.2.2 (91, 45, 116) (List.mem_of_getElem? (i := 122) rfl)
theorem W_gr_91_46 {h : mmH} (H : WS h) : mm_gr h 91 46 = some 117 := H.2.2 (91, 46, 117) (List.mem_of_getElem? (i := 123) rfl)
theorem W_gr_91_47 {h : mmH} (H : WS h) : mm_gr h 91 47 = some 118 := H.2.2 (91, 47, 118) (List.mem_of_getElem? (i := 124) rfl)
theorem W_gr_91_48 {h : mmH} (H : WS h) : mm_gr h 91 48 = some 119 := H.2.2 (91, 48, 119) (List.mem_of_getElem? (i := 125) rfl)
theorem W_gr_91_49 {h : mmH} (H : WS h) : mm_gr h 91 49 = some 120 := H.2.2 (91, 49, 120) (List.mem_of_getElem? (i := 126) rfl)
theorem W_gr_91_55 {h : mmH} (H : WS h) : mm_gr h 91 55 = some 121 := H.2.2 (91, 55, 121) (List.mem_of_getElem? (i := 127) rfl)
theorem W_h4 {h : mmH} (H : WS h) : hsh h 4 := ⟨⟨W_kd_4 H, W_s_14 H, W_kd_1 H, W_s_1 H⟩, ⟨W_gr_4_0 H, W_gr_4_2 H, W_gr_4_3 H, W_gr_4_4 H, W_gr_4_7 H, W_gr_4_8 H, W_gr_4_9 H, W_gr_4_11 H, W_gr_4_12 H, W_gr_4_13 H, W_gr_4_15 H⟩, ⟨W_kd_5 H, W_kd_6 H, W_kd_7 H, W_kd_8 H, W_kd_9 H, W_kd_10 H, W_kd_11 H, W_kd_12 H, W_kd_13 H, W_kd_14 H⟩, ⟨W_ln_5 H, W_ln_6 H, W_ln_7 H, W_ln_8 H, W_ln_9 H, W_ln_10 H, W_ln_11 H, W_ln_12 H, W_ln_13 H, W_ln_14 H⟩⟩
theorem W_h15 {h : mmH} (H : WS h) : hsh h 15 := ⟨⟨W_kd_15 H, W_s_25 H, W_kd_1 H, W_s_1 H⟩, ⟨W_gr_15_0 H, W_gr_15_2 H, W_gr_15_3 H, W_gr_15_4 H, W_gr_15_7 H, W_gr_15_8 H, W_gr_15_9 H, W_gr_15_11 H, W_gr_15_12 H, W_gr_15_13 H, W_gr_15_15 H⟩, ⟨W_kd_16 H, W_kd_17 H, W_kd_18 H, W_kd_19 H, W_kd_20 H, W_kd_21 H, W_kd_22 H, W_kd_23 H, W_kd_24 H, W_kd_25 H⟩, ⟨W_ln_16 H, W_ln_17 H, W_ln_18 H, W_ln_19 H, W_ln_20 H, W_ln_21 H, W_ln_22 H, W_ln_23 H, W_ln_24 H, W_ln_25 H⟩⟩
theorem W_h27 {h : mmH} (H : WS h) : hsh h 27 := ⟨⟨W_kd_27 H, W_s_37 H, W_kd_1 H, W_s_1 H⟩, ⟨W_gr_27_0 H, W_gr_27_2 H, W_gr_27_3 H, W_gr_27_4 H, W_gr_27_7 H, W_gr_27_8 H, W_gr_27_9 H, W_gr_27_11 H, W_gr_27_12 H, W_gr_27_13 H, W_gr_27_15 H⟩, ⟨W_kd_28 H, W_kd_29 H, W_kd_30 H, W_kd_31 H, W_kd_32 H, W_kd_33 H, W_kd_34 H, W_kd_35 H, W_kd_36 H, W_kd_37 H⟩, ⟨W_ln_28 H, W_ln_29 H, W_ln_30 H, W_ln_31 H, W_ln_32 H, W_ln_33 H, W_ln_34 H, W_ln_35 H, W_ln_36 H, W_ln_37 H⟩⟩
theorem W_h38 {h : mmH} (H : WS h) : hsh h 38 := ⟨⟨W_kd_38 H, W_s_48 H, W_kd_1 H, W_s_1 H⟩, ⟨W_gr_38_0 H, W_gr_38_2 H, W_gr_38_3 H, W_gr_38_4 H, W_gr_38_7 H, W_gr_38_8 H, W_gr_38_9 H, W_gr_38_11 H, W_gr_38_12 H, W_gr_38_13 H, W_gr_38_15 H⟩, ⟨W_kd_39 H, W_kd_40 H, W_kd_41 H, W_kd_42 H, W_kd_43 H, W_kd_44 H, W_kd_45 H, W_kd_46 H, W_kd_47 H, W_kd_48 H⟩, ⟨W_ln_39 H, W_ln_40 H, W_ln_41 H, W_ln_42 H, W_ln_43 H, W_ln_44 H, W_ln_45 H, W_ln_46 H, W_ln_47 H, W_ln_48 H⟩⟩
theorem W_h79 {h : mmH} (H : WS h) : hsh h 79 := ⟨⟨W_kd_79 H, W_s_89 H, W_kd_1 H, W_s_1 H⟩, ⟨W_gr_79_0 H, W_gr_79_2 H, W_gr_79_3 H, W_gr_79_4 H, W_gr_79_7 H, W_gr_79_8 H, W_gr_79_9 H, W_gr_79_11 H, W_gr_79_12 H, W_gr_79_13 H, W_gr_79_15 H⟩, ⟨W_kd_80 H, W_kd_81 H, W_kd_82 H, W_kd_83 H, W_kd_84 H, W_kd_85 H, W_kd_86 H, W_kd_87 H, W_kd_88 H, W_kd_89 H⟩, ⟨W_ln_80 H, W_ln_81 H, W_ln_82 H, W_ln_83 H, W_ln_84 H, W_ln_85 H, W_ln_86 H, W_ln_87 H, W_ln_88 H, W_ln_89 H⟩⟩
theorem W_tr50 {h : mmH} (H : WS h) : trS h 50 := ⟨⟨W_kd_50 H, W_s_51 H, W_s_50 H⟩, W_gr_50_0 H, W_kd_51 H, W_ln_51 H⟩
theorem W_tr52 {h : mmH} (H : WS h) : trS h 52 := ⟨⟨W_kd_52 H, W_s_53 H, W_s_52 H⟩, W_gr_52_0 H, W_kd_53 H, W_ln_53 H⟩
theorem W_tp {h : mmH} (H : WS h) : tpS h 54 := ⟨⟨W_kd_54 H, W_s_55 H, W_s_54 H⟩, W_gr_54_0 H, W_kd_55 H, W_ln_55 H⟩
theorem W_tx {h : mmH} (H : WS h) : txS h 58 12 400 := ⟨⟨W_kd_58 H, W_s_65 H⟩, ⟨W_gr_58_1 H, W_gr_58_2 H, W_gr_58_3 H, W_gr_58_4 H, W_gr_58_5 H, W_gr_58_7 H, W_gr_58_8 H⟩, ⟨W_kd_59 H, W_kd_60 H, W_kd_61 H, W_kd_62 H, W_kd_63 H, W_kd_64 H, W_kd_65 H⟩, ⟨W_ln_59 H, W_ln_60 H, W_ln_61 H, W_ln_62 H, W_ln_63 H, W_ln_64 H, W_ln_65 H⟩⟩
