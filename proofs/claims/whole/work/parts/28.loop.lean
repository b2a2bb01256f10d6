/-! the law's loop, over an invariant and a pair of contracts for each call -/
def PR (qC qM : mmM) (bb : Nat × Nat) (I : mmH → Prop) (as : List Value) : Prop := ∀ h, I h → mm_MV qC 1000 bb (.ref 0 :: as) h (fun v h1 => (mm_kd h1 91 = 10 ∧ 91 < mm_sz h1) ∧ mm_MV qM 1000 (0, 0) (.ref 91 :: as) h1 (fun v' h2 => (∃ r : Int32, v = some (.int r) ∧ v' = some (.int r)) ∧ I h2))
def PRl (qC qM : mmM) (bb : Nat × Nat) (I : mmH → Prop) (as : List Value) : Prop := ∀ h, I h → mm_MV qC 1000 bb (.ref 0 :: as) h (fun v h1 => (mm_kd h1 91 = 10 ∧ 91 < mm_sz h1) ∧ mm_MV qM 1000 (0, 0) (.ref 91 :: as) h1 (fun v' h2 => (∃ r : Int64, v = some (.long r) ∧ v' = some (.long r)) ∧ I h2))
theorem vl_arg {L : Nat} {xs : Nat → Int32} {b : Nat × Nat} {pc : Nat} {st : List Value} {h : mmH} {v1 v2 : Option Value} {i k : Nat} {n : Int} (h0 : decode code pc = .ok (.aload_n 0, 1)) (h1 : decode code (pc + 1) = .ok (.iload_n 3, 1)) (h2 : decode code (pc + 2) = .ok (.iconst n, 1)) (hn : Int32.ofInt n = nI k) (h3 : decode code (pc + 3) = .ok (.iadd, 1)) (h4 : decode code (pc + 4) = .ok (.iaload, 1)) (hik : i + k < L) (hL : L ≤ 3072)
    (k0 : mm_VL L xs b (pc + 5) [some (.retAddr 300), v1, v2, some (.int (nI i))] (.int (xs (i + k)) :: st) h) : mm_VL L xs b pc [some (.retAddr 300), v1, v2, some (.int (nI i))] st h := by
  refine vl_script h0 rfl rfl (vl_iload h1 rfl rfl (vl_iconst h2 hn (vl_iadd h3 ?_)))
  rw [nI_add]
  exact vl_sald h4 hik (by omega) k0
def OP_0 (I : mmH → Prop) : Prop := ∀ x1 x2 x3 : Int32, PR q_X9_letter q_X10_letter (0, 0) I [.int x1, .int x2, .int x3]
theorem lcs_0 {L : Nat} {xs : Nat → Int32} {b : Nat × Nat} {I : mmH → Prop} (hI : ∀ h, I h → WS h) (op : OP_0 I) {i : Nat} (hi : i + 6 ≤ L) (hL : L ≤ 3072) (K : ∀ h, I h → mm_VL L xs b 1242 [some (.retAddr 300), some (.ref 0), some (.ref 91), some (.int (nI i))] [] h) {h : mmH} (Ih : I h) : mm_VL L xs ((0, 0).1 + b.1, (0, 0).2 + b.2) 204 [some (.retAddr 300), some (.ref 0), some (.ref 91), some (.int (nI i))] [] h := by
  refine vl_aload (pc := 204) (k := 1) (by decide +kernel) rfl rfl ?_
  refine vl_arg (pc := 205) (k := 1) (n := 1) (by decide +kernel) (by decide +kernel) (by decide +kernel) (by decide) (by decide +kernel) (by decide +kernel) (by omega) hL ?_
  refine vl_arg (pc := 210) (k := 2) (n := 2) (by decide +kernel) (by decide +kernel) (by decide +kernel) (by decide) (by decide +kernel) (by decide +kernel) (by omega) hL ?_
  refine vl_arg (pc := 215) (k := 3) (n := 3) (by decide +kernel) (by decide +kernel) (by decide +kernel) (by decide) (by decide +kernel) (by decide +kernel) (by omega) hL ?_
  refine vl_cv (pc := 220) (idx := 13) (As := [.int (xs (i + 1)), .int (xs (i + 2)), .int (xs (i + 3))]) (rest := []) (ci := 9) (b := b) (bb := (0, 0)) (by decide +kernel) mf_X9_letter im_X9_letter se_X9_letter (mm_u2 146 rfl rfl) ⟨by decide, rfl⟩ rfl (Nat.le_of_ble_eq_true rfl) ⟨rfl, rfl⟩ (W_kd_0 (hI h Ih)) (W_s_0 (hI h Ih)) (mm_MV.mono (fun v h1 k1 => ?_) (op (xs (i + 1)) (xs (i + 2)) (xs (i + 3)) h Ih))
  obtain ⟨⟨z1, z2⟩, k1⟩ := k1
  refine vl_aload (pc := 223) (k := 2) (by decide +kernel) rfl rfl ?_
  refine vl_arg (pc := 224) (k := 1) (n := 1) (by decide +kernel) (by decide +kernel) (by decide +kernel) (by decide) (by decide +kernel) (by decide +kernel) (by omega) hL ?_
  refine vl_arg (pc := 229) (k := 2) (n := 2) (by decide +kernel) (by decide +kernel) (by decide +kernel) (by decide) (by decide +kernel) (by decide +kernel) (by omega) hL ?_
  refine vl_arg (pc := 234) (k := 3) (n := 3) (by decide +kernel) (by decide +kernel) (by decide +kernel) (by decide) (by decide +kernel) (by decide +kernel) (by omega) hL ?_
  refine vl_cv (pc := 239) (idx := 17) (As := [.int (xs (i + 1)), .int (xs (i + 2)), .int (xs (i + 3))]) (rest := v.toList ++ []) (ci := 10) (b := b) (bb := (0, 0)) (by decide +kernel) mf_X10_letter im_X10_letter se_X10_letter (mm_u5 230 rfl rfl) ⟨by decide, rfl⟩ rfl ?_ ⟨(Nat.zero_add _).symm, (Nat.zero_add _).symm⟩ z1 z2 (mm_MV.mono (fun v2 h2 k2 => ?_) k1)
  · cases v with
    | none => decide
    | some w => simp; rcases lv_cat w with z | z <;> omega
  obtain ⟨⟨r, rfl, rfl⟩, k2⟩ := k2
  exact vl_same (pc := 242) (off := 1000) (tgt := 1242) (by decide +kernel) (by decide) rfl (K h2 k2)
def OP_1 (I : mmH → Prop) : Prop := ∀ x1 x2 : Int32, PR q_X9_at q_X10_at (0, 0) I [.int x1, .int x2]
theorem lcs_1 {L : Nat} {xs : Nat → Int32} {b : Nat × Nat} {I : mmH → Prop} (hI : ∀ h, I h → WS h) (op : OP_1 I) {i : Nat} (hi : i + 6 ≤ L) (hL : L ≤ 3072) (K : ∀ h, I h → mm_VL L xs b 1242 [some (.retAddr 300), some (.ref 0), some (.ref 91), some (.int (nI i))] [] h) {h : mmH} (Ih : I h) : mm_VL L xs ((0, 0).1 + b.1, (0, 0).2 + b.2) 247 [some (.retAddr 300), some (.ref 0), some (.ref 91), some (.int (nI i))] [] h := by
  refine vl_aload (pc := 247) (k := 1) (by decide +kernel) rfl rfl ?_
  refine vl_arg (pc := 248) (k := 1) (n := 1) (by decide +kernel) (by decide +kernel) (by decide +kernel) (by decide) (by decide +kernel) (by decide +kernel) (by omega) hL ?_
  refine vl_arg (pc := 253) (k := 2) (n := 2) (by decide +kernel) (by decide +kernel) (by decide +kernel) (by decide) (by decide +kernel) (by decide +kernel) (by omega) hL ?_
  refine vl_cv (pc := 258) (idx := 18) (As := [.int (xs (i + 1)), .int (xs (i + 2))]) (rest := []) (ci := 9) (b := b) (bb := (0, 0)) (by decide +kernel) mf_X9_at im_X9_at se_X9_at (mm_u2 169 rfl rfl) ⟨by decide, rfl⟩ rfl (Nat.le_of_ble_eq_true rfl) ⟨rfl, rfl⟩ (W_kd_0 (hI h Ih)) (W_s_0 (hI h Ih)) (mm_MV.mono (fun v h1 k1 => ?_) (op (xs (i + 1)) (xs (i + 2)) h Ih))
  obtain ⟨⟨z1, z2⟩, k1⟩ := k1
  refine vl_aload (pc := 261) (k := 2) (by decide +kernel) rfl rfl ?_
  refine vl_arg (pc := 262) (k := 1) (n := 1) (by decide +kernel) (by decide +kernel) (by decide +kernel) (by decide) (by decide +kernel) (by decide +kernel) (by omega) hL ?_
  refine vl_arg (pc := 267) (k := 2) (n := 2) (by decide +kernel) (by decide +kernel) (by decide +kernel) (by decide) (by decide +kernel) (by decide +kernel) (by omega) hL ?_
  refine vl_cv (pc := 272) (idx := 22) (As := [.int (xs (i + 1)), .int (xs (i + 2))]) (rest := v.toList ++ []) (ci := 10) (b := b) (bb := (0, 0)) (by decide +kernel) mf_X10_at im_X10_at se_X10_at (mm_u6 3 rfl rfl) ⟨by decide, rfl⟩ rfl ?_ ⟨(Nat.zero_add _).symm, (Nat.zero_add _).symm⟩ z1 z2 (mm_MV.mono (fun v2 h2 k2 => ?_) k1)
  · cases v with
    | none => decide
    | some w => simp; rcases lv_cat w with z | z <;> omega
  obtain ⟨⟨r, rfl, rfl⟩, k2⟩ := k2
  exact vl_same (pc := 275) (off := 967) (tgt := 1242) (by decide +kernel) (by decide) rfl (K h2 k2)
def OP_2 (I : mmH → Prop) : Prop := ∀ x1 : Int32, PR q_X9_child q_X10_child (0, 0) I [.int x1]
theorem lcs_2 {L : Nat} {xs : Nat → Int32} {b : Nat × Nat} {I : mmH → Prop} (hI : ∀ h, I h → WS h) (op : OP_2 I) {i : Nat} (hi : i + 6 ≤ L) (hL : L ≤ 3072) (K : ∀ h, I h → mm_VL L xs b 1242 [some (.retAddr 300), some (.ref 0), some (.ref 91), some (.int (nI i))] [] h) {h : mmH} (Ih : I h) : mm_VL L xs ((0, 0).1 + b.1, (0, 0).2 + b.2) 280 [some (.retAddr 300), some (.ref 0), some (.ref 91), some (.int (nI i))] [] h := by
  refine vl_aload (pc := 280) (k := 1) (by decide +kernel) rfl rfl ?_
  refine vl_arg (pc := 281) (k := 1) (n := 1) (by decide +kernel) (by decide +kernel) (by decide +kernel) (by decide) (by decide +kernel) (by decide +kernel) (by omega) hL ?_
  refine vl_cv (pc := 286) (idx := 23) (As := [.int (xs (i + 1))]) (rest := []) (ci := 9) (b := b) (bb := (0, 0)) (by decide +kernel) mf_X9_child im_X9_child se_X9_child (mm_u2 181 rfl rfl) ⟨by decide, rfl⟩ rfl (Nat.le_of_ble_eq_true rfl) ⟨rfl, rfl⟩ (W_kd_0 (hI h Ih)) (W_s_0 (hI h Ih)) (mm_MV.mono (fun v h1 k1 => ?_) (op (xs (i + 1)) h Ih))
  obtain ⟨⟨z1, z2⟩, k1⟩ := k1
  refine vl_aload (pc := 289) (k := 2) (by decide +kernel) rfl rfl ?_
  refine vl_arg (pc := 290) (k := 1) (n := 1) (by decide +kernel) (by decide +kernel) (by decide +kernel) (by decide) (by decide +kernel) (by decide +kernel) (by omega) hL ?_
  refine vl_cv (pc := 295) (idx := 27) (As := [.int (xs (i + 1))]) (rest := v.toList ++ []) (ci := 10) (b := b) (bb := (0, 0)) (by decide +kernel) mf_X10_child im_X10_child se_X10_child (mm_u6 11 rfl rfl) ⟨by decide, rfl⟩ rfl ?_ ⟨(Nat.zero_add _).symm, (Nat.zero_add _).symm⟩ z1 z2 (mm_MV.mono (fun v2 h2 k2 => ?_) k1)
  · cases v with
    | none => decide
    | some w => simp; rcases lv_cat w with z | z <;> omega
  obtain ⟨⟨r, rfl, rfl⟩, k2⟩ := k2
  exact vl_same (pc := 298) (off := 944) (tgt := 1242) (by decide +kernel) (by decide) rfl (K h2 k2)
def OP_3 (I : mmH → Prop) : Prop := ∀ x1 x2 : Int32, PR q_X9_of q_X10_of (0, 0) I [.int x1, .int x2]
theorem lcs_3 {L : Nat} {xs : Nat → Int32} {b : Nat × Nat} {I : mmH → Prop} (hI : ∀ h, I h → WS h) (op : OP_3 I) {i : Nat} (hi : i + 6 ≤ L) (hL : L ≤ 3072) (K : ∀ h, I h → mm_VL L xs b 1242 [some (.retAddr 300), some (.ref 0), some (.ref 91), some (.int (nI i))] [] h) {h : mmH} (Ih : I h) : mm_VL L xs ((0, 0).1 + b.1, (0, 0).2 + b.2) 303 [some (.retAddr 300), some (.ref 0), some (.ref 91), some (.int (nI i))] [] h := by
  refine vl_aload (pc := 303) (k := 1) (by decide +kernel) rfl rfl ?_
  refine vl_arg (pc := 304) (k := 1) (n := 1) (by decide +kernel) (by decide +kernel) (by decide +kernel) (by decide) (by decide +kernel) (by decide +kernel) (by omega) hL ?_
  refine vl_arg (pc := 309) (k := 2) (n := 2) (by decide +kernel) (by decide +kernel) (by decide +kernel) (by decide) (by decide +kernel) (by decide +kernel) (by omega) hL ?_
  refine vl_cv (pc := 314) (idx := 28) (As := [.int (xs (i + 1)), .int (xs (i + 2))]) (rest := []) (ci := 9) (b := b) (bb := (0, 0)) (by decide +kernel) mf_X9_of im_X9_of se_X9_of (mm_u2 189 rfl rfl) ⟨by decide, rfl⟩ rfl (Nat.le_of_ble_eq_true rfl) ⟨rfl, rfl⟩ (W_kd_0 (hI h Ih)) (W_s_0 (hI h Ih)) (mm_MV.mono (fun v h1 k1 => ?_) (op (xs (i + 1)) (xs (i + 2)) h Ih))
  obtain ⟨⟨z1, z2⟩, k1⟩ := k1
  refine vl_aload (pc := 317) (k := 2) (by decide +kernel) rfl rfl ?_
  refine vl_arg (pc := 318) (k := 1) (n := 1) (by decide +kernel) (by decide +kernel) (by decide +kernel) (by decide) (by decide +kernel) (by decide +kernel) (by omega) hL ?_
  refine vl_arg (pc := 323) (k := 2) (n := 2) (by decide +kernel) (by decide +kernel) (by decide +kernel) (by decide) (by decide +kernel) (by decide +kernel) (by omega) hL ?_
  refine vl_cv (pc := 328) (idx := 31) (As := [.int (xs (i + 1)), .int (xs (i + 2))]) (rest := v.toList ++ []) (ci := 10) (b := b) (bb := (0, 0)) (by decide +kernel) mf_X10_of im_X10_of se_X10_of (mm_u6 16 rfl rfl) ⟨by decide, rfl⟩ rfl ?_ ⟨(Nat.zero_add _).symm, (Nat.zero_add _).symm⟩ z1 z2 (mm_MV.mono (fun v2 h2 k2 => ?_) k1)
  · cases v with
    | none => decide
    | some w => simp; rcases lv_cat w with z | z <;> omega
  obtain ⟨⟨r, rfl, rfl⟩, k2⟩ := k2
  exact vl_same (pc := 331) (off := 911) (tgt := 1242) (by decide +kernel) (by decide) rfl (K h2 k2)
def OP_4 (I : mmH → Prop) : Prop := ∀ x1 x2 x3 : Int32, PR q_X9_asks q_X10_asks (0, 0) I [.int x1, .int x2, .int x3]
theorem lcs_4 {L : Nat} {xs : Nat → Int32} {b : Nat × Nat} {I : mmH → Prop} (hI : ∀ h, I h → WS h) (op : OP_4 I) {i : Nat} (hi : i + 6 ≤ L) (hL : L ≤ 3072) (K : ∀ h, I h → mm_VL L xs b 1242 [some (.retAddr 300), some (.ref 0), some (.ref 91), some (.int (nI i))] [] h) {h : mmH} (Ih : I h) : mm_VL L xs ((0, 0).1 + b.1, (0, 0).2 + b.2) 336 [some (.retAddr 300), some (.ref 0), some (.ref 91), some (.int (nI i))] [] h := by
  refine vl_aload (pc := 336) (k := 1) (by decide +kernel) rfl rfl ?_
  refine vl_arg (pc := 337) (k := 1) (n := 1) (by decide +kernel) (by decide +kernel) (by decide +kernel) (by decide) (by decide +kernel) (by decide +kernel) (by omega) hL ?_
  refine vl_arg (pc := 342) (k := 2) (n := 2) (by decide +kernel) (by decide +kernel) (by decide +kernel) (by decide) (by decide +kernel) (by decide +kernel) (by omega) hL ?_
  refine vl_arg (pc := 347) (k := 3) (n := 3) (by decide +kernel) (by decide +kernel) (by decide +kernel) (by decide) (by decide +kernel) (by decide +kernel) (by omega) hL ?_
  refine vl_cv (pc := 352) (idx := 32) (As := [.int (xs (i + 1)), .int (xs (i + 2)), .int (xs (i + 3))]) (rest := []) (ci := 9) (b := b) (bb := (0, 0)) (by decide +kernel) mf_X9_asks im_X9_asks se_X9_asks (mm_u3 1 rfl rfl) ⟨by decide, rfl⟩ rfl (Nat.le_of_ble_eq_true rfl) ⟨rfl, rfl⟩ (W_kd_0 (hI h Ih)) (W_s_0 (hI h Ih)) (mm_MV.mono (fun v h1 k1 => ?_) (op (xs (i + 1)) (xs (i + 2)) (xs (i + 3)) h Ih))
  obtain ⟨⟨z1, z2⟩, k1⟩ := k1
  refine vl_aload (pc := 355) (k := 2) (by decide +kernel) rfl rfl ?_
  refine vl_arg (pc := 356) (k := 1) (n := 1) (by decide +kernel) (by decide +kernel) (by decide +kernel) (by decide) (by decide +kernel) (by decide +kernel) (by omega) hL ?_
  refine vl_arg (pc := 361) (k := 2) (n := 2) (by decide +kernel) (by decide +kernel) (by decide +kernel) (by decide) (by decide +kernel) (by decide +kernel) (by omega) hL ?_
  refine vl_arg (pc := 366) (k := 3) (n := 3) (by decide +kernel) (by decide +kernel) (by decide +kernel) (by decide) (by decide +kernel) (by decide +kernel) (by omega) hL ?_
  refine vl_cv (pc := 371) (idx := 35) (As := [.int (xs (i + 1)), .int (xs (i + 2)), .int (xs (i + 3))]) (rest := v.toList ++ []) (ci := 10) (b := b) (bb := (0, 0)) (by decide +kernel) mf_X10_asks im_X10_asks se_X10_asks (mm_u6 55 rfl rfl) ⟨by decide, rfl⟩ rfl ?_ ⟨(Nat.zero_add _).symm, (Nat.zero_add _).symm⟩ z1 z2 (mm_MV.mono (fun v2 h2 k2 => ?_) k1)
  · cases v with
    | none => decide
    | some w => simp; rcases lv_cat w with z | z <;> omega
  obtain ⟨⟨r, rfl, rfl⟩, k2⟩ := k2
  exact vl_same (pc := 374) (off := 868) (tgt := 1242) (by decide +kernel) (by decide) rfl (K h2 k2)
def OP_5 (I : mmH → Prop) : Prop := ∀ x1 x2 : Int32, PR q_X9_terms q_X10_terms (0, 0) I [.int x1, .int x2]
theorem lcs_5 {L : Nat} {xs : Nat → Int32} {b : Nat × Nat} {I : mmH → Prop} (hI : ∀ h, I h → WS h) (op : OP_5 I) {i : Nat} (hi : i + 6 ≤ L) (hL : L ≤ 3072) (K : ∀ h, I h → mm_VL L xs b 1242 [some (.retAddr 300), some (.ref 0), some (.ref 91), some (.int (nI i))] [] h) {h : mmH} (Ih : I h) : mm_VL L xs ((0, 0).1 + b.1, (0, 0).2 + b.2) 379 [some (.retAddr 300), some (.ref 0), some (.ref 91), some (.int (nI i))] [] h := by
  refine vl_aload (pc := 379) (k := 1) (by decide +kernel) rfl rfl ?_
  refine vl_arg (pc := 380) (k := 1) (n := 1) (by decide +kernel) (by decide +kernel) (by decide +kernel) (by decide) (by decide +kernel) (by decide +kernel) (by omega) hL ?_
  refine vl_arg (pc := 385) (k := 2) (n := 2) (by decide +kernel) (by decide +kernel) (by decide +kernel) (by decide) (by decide +kernel) (by decide +kernel) (by omega) hL ?_
  refine vl_cv (pc := 390) (idx := 36) (As := [.int (xs (i + 1)), .int (xs (i + 2))]) (rest := []) (ci := 9) (b := b) (bb := (0, 0)) (by decide +kernel) mf_X9_terms im_X9_terms se_X9_terms (mm_u3 14 rfl rfl) ⟨by decide, rfl⟩ rfl (Nat.le_of_ble_eq_true rfl) ⟨rfl, rfl⟩ (W_kd_0 (hI h Ih)) (W_s_0 (hI h Ih)) (mm_MV.mono (fun v h1 k1 => ?_) (op (xs (i + 1)) (xs (i + 2)) h Ih))
  obtain ⟨⟨z1, z2⟩, k1⟩ := k1
  refine vl_aload (pc := 393) (k := 2) (by decide +kernel) rfl rfl ?_
  refine vl_arg (pc := 394) (k := 1) (n := 1) (by decide +kernel) (by decide +kernel) (by decide +kernel) (by decide) (by decide +kernel) (by decide +kernel) (by omega) hL ?_
  refine vl_arg (pc := 399) (k := 2) (n := 2) (by decide +kernel) (by decide +kernel) (by decide +kernel) (by decide) (by decide +kernel) (by decide +kernel) (by omega) hL ?_
  refine vl_cv (pc := 404) (idx := 39) (As := [.int (xs (i + 1)), .int (xs (i + 2))]) (rest := v.toList ++ []) (ci := 10) (b := b) (bb := (0, 0)) (by decide +kernel) mf_X10_terms im_X10_terms se_X10_terms (mm_u6 74 rfl rfl) ⟨by decide, rfl⟩ rfl ?_ ⟨(Nat.zero_add _).symm, (Nat.zero_add _).symm⟩ z1 z2 (mm_MV.mono (fun v2 h2 k2 => ?_) k1)
  · cases v with
    | none => decide
    | some w => simp; rcases lv_cat w with z | z <;> omega
  obtain ⟨⟨r, rfl, rfl⟩, k2⟩ := k2
  exact vl_same (pc := 407) (off := 835) (tgt := 1242) (by decide +kernel) (by decide) rfl (K h2 k2)
def OP_6 (I : mmH → Prop) : Prop := ∀ x1 x2 x3 x4 x5 : Int32, PR q_X9_feed q_X10_feed (0, 0) I [.int x1, .int x2, .int x3, .int x4, .int x5]
theorem lcs_6 {L : Nat} {xs : Nat → Int32} {b : Nat × Nat} {I : mmH → Prop} (hI : ∀ h, I h → WS h) (op : OP_6 I) {i : Nat} (hi : i + 6 ≤ L) (hL : L ≤ 3072) (K : ∀ h, I h → mm_VL L xs b 1242 [some (.retAddr 300), some (.ref 0), some (.ref 91), some (.int (nI i))] [] h) {h : mmH} (Ih : I h) : mm_VL L xs ((0, 0).1 + b.1, (0, 0).2 + b.2) 412 [some (.retAddr 300), some (.ref 0), some (.ref 91), some (.int (nI i))] [] h := by
  refine vl_aload (pc := 412) (k := 1) (by decide +kernel) rfl rfl ?_
  refine vl_arg (pc := 413) (k := 1) (n := 1) (by decide +kernel) (by decide +kernel) (by decide +kernel) (by decide) (by decide +kernel) (by decide +kernel) (by omega) hL ?_
  refine vl_arg (pc := 418) (k := 2) (n := 2) (by decide +kernel) (by decide +kernel) (by decide +kernel) (by decide) (by decide +kernel) (by decide +kernel) (by omega) hL ?_
  refine vl_arg (pc := 423) (k := 3) (n := 3) (by decide +kernel) (by decide +kernel) (by decide +kernel) (by decide) (by decide +kernel) (by decide +kernel) (by omega) hL ?_
  refine vl_arg (pc := 428) (k := 4) (n := 4) (by decide +kernel) (by decide +kernel) (by decide +kernel) (by decide) (by decide +kernel) (by decide +kernel) (by omega) hL ?_
  refine vl_arg (pc := 433) (k := 5) (n := 5) (by decide +kernel) (by decide +kernel) (by decide +kernel) (by decide) (by decide +kernel) (by decide +kernel) (by omega) hL ?_
  refine vl_cv (pc := 438) (idx := 40) (As := [.int (xs (i + 1)), .int (xs (i + 2)), .int (xs (i + 3)), .int (xs (i + 4)), .int (xs (i + 5))]) (rest := []) (ci := 9) (b := b) (bb := (0, 0)) (by decide +kernel) mf_X9_feed im_X9_feed se_X9_feed (mm_u3 21 rfl rfl) ⟨by decide, rfl⟩ rfl (Nat.le_of_ble_eq_true rfl) ⟨rfl, rfl⟩ (W_kd_0 (hI h Ih)) (W_s_0 (hI h Ih)) (mm_MV.mono (fun v h1 k1 => ?_) (op (xs (i + 1)) (xs (i + 2)) (xs (i + 3)) (xs (i + 4)) (xs (i + 5)) h Ih))
  obtain ⟨⟨z1, z2⟩, k1⟩ := k1
  refine vl_aload (pc := 441) (k := 2) (by decide +kernel) rfl rfl ?_
  refine vl_arg (pc := 442) (k := 1) (n := 1) (by decide +kernel) (by decide +kernel) (by decide +kernel) (by decide) (by decide +kernel) (by decide +kernel) (by omega) hL ?_
  refine vl_arg (pc := 447) (k := 2) (n := 2) (by decide +kernel) (by decide +kernel) (by decide +kernel) (by decide) (by decide +kernel) (by decide +kernel) (by omega) hL ?_
  refine vl_arg (pc := 452) (k := 3) (n := 3) (by decide +kernel) (by decide +kernel) (by decide +kernel) (by decide) (by decide +kernel) (by decide +kernel) (by omega) hL ?_
  refine vl_arg (pc := 457) (k := 4) (n := 4) (by decide +kernel) (by decide +kernel) (by decide +kernel) (by decide) (by decide +kernel) (by decide +kernel) (by omega) hL ?_
  refine vl_arg (pc := 462) (k := 5) (n := 5) (by decide +kernel) (by decide +kernel) (by decide +kernel) (by decide) (by decide +kernel) (by decide +kernel) (by omega) hL ?_
  refine vl_cv (pc := 467) (idx := 44) (As := [.int (xs (i + 1)), .int (xs (i + 2)), .int (xs (i + 3)), .int (xs (i + 4)), .int (xs (i + 5))]) (rest := v.toList ++ []) (ci := 10) (b := b) (bb := (0, 0)) (by decide +kernel) mf_X10_feed im_X10_feed se_X10_feed (mm_u6 91 rfl rfl) ⟨by decide, rfl⟩ rfl ?_ ⟨(Nat.zero_add _).symm, (Nat.zero_add _).symm⟩ z1 z2 (mm_MV.mono (fun v2 h2 k2 => ?_) k1)
  · cases v with
    | none => decide
    | some w => simp; rcases lv_cat w with z | z <;> omega
  obtain ⟨⟨r, rfl, rfl⟩, k2⟩ := k2
  exact vl_same (pc := 470) (off := 772) (tgt := 1242) (by decide +kernel) (by decide) rfl (K h2 k2)
def OP_7 (I : mmH → Prop) : Prop := ∀ x1 : Int32, PR q_X9_end q_X10_end (0, 0) I [.int x1]
theorem lcs_7 {L : Nat} {xs : Nat → Int32} {b : Nat × Nat} {I : mmH → Prop} (hI : ∀ h, I h → WS h) (op : OP_7 I) {i : Nat} (hi : i + 6 ≤ L) (hL : L ≤ 3072) (K : ∀ h, I h → mm_VL L xs b 1242 [some (.retAddr 300), some (.ref 0), some (.ref 91), some (.int (nI i))] [] h) {h : mmH} (Ih : I h) : mm_VL L xs ((0, 0).1 + b.1, (0, 0).2 + b.2) 475 [some (.retAddr 300), some (.ref 0), some (.ref 91), some (.int (nI i))] [] h := by
  refine vl_aload (pc := 475) (k := 1) (by decide +kernel) rfl rfl ?_
  refine vl_arg (pc := 476) (k := 1) (n := 1) (by decide +kernel) (by decide +kernel) (by decide +kernel) (by decide) (by decide +kernel) (by decide +kernel) (by omega) hL ?_
  refine vl_cv (pc := 481) (idx := 45) (As := [.int (xs (i + 1))]) (rest := []) (ci := 9) (b := b) (bb := (0, 0)) (by decide +kernel) mf_X9_end im_X9_end se_X9_end (mm_u3 33 rfl rfl) ⟨by decide, rfl⟩ rfl (Nat.le_of_ble_eq_true rfl) ⟨rfl, rfl⟩ (W_kd_0 (hI h Ih)) (W_s_0 (hI h Ih)) (mm_MV.mono (fun v h1 k1 => ?_) (op (xs (i + 1)) h Ih))
  obtain ⟨⟨z1, z2⟩, k1⟩ := k1
  refine vl_aload (pc := 484) (k := 2) (by decide +kernel) rfl rfl ?_
  refine vl_arg (pc := 485) (k := 1) (n := 1) (by decide +kernel) (by decide +kernel) (by decide +kernel) (by decide) (by decide +kernel) (by decide +kernel) (by omega) hL ?_
  refine vl_cv (pc := 490) (idx := 48) (As := [.int (xs (i + 1))]) (rest := v.toList ++ []) (ci := 10) (b := b) (bb := (0, 0)) (by decide +kernel) mf_X10_end im_X10_end se_X10_end (mm_u6 99 rfl rfl) ⟨by decide, rfl⟩ rfl ?_ ⟨(Nat.zero_add _).symm, (Nat.zero_add _).symm⟩ z1 z2 (mm_MV.mono (fun v2 h2 k2 => ?_) k1)
  · cases v with
    | none => decide
    | some w => simp; rcases lv_cat w with z | z <;> omega
  obtain ⟨⟨r, rfl, rfl⟩, k2⟩ := k2
  exact vl_same (pc := 493) (off := 749) (tgt := 1242) (by decide +kernel) (by decide) rfl (K h2 k2)
def OP_8 (I : mmH → Prop) : Prop := PR q_X9_row q_X10_row (0, 0) I []
theorem lcs_8 {L : Nat} {xs : Nat → Int32} {b : Nat × Nat} {I : mmH → Prop} (hI : ∀ h, I h → WS h) (op : OP_8 I) {i : Nat} (hi : i + 6 ≤ L) (hL : L ≤ 3072) (K : ∀ h, I h → mm_VL L xs b 1242 [some (.retAddr 300), some (.ref 0), some (.ref 91), some (.int (nI i))] [] h) {h : mmH} (Ih : I h) : mm_VL L xs ((0, 0).1 + b.1, (0, 0).2 + b.2) 498 [some (.retAddr 300), some (.ref 0), some (.ref 91), some (.int (nI i))] [] h := by
  refine vl_aload (pc := 498) (k := 1) (by decide +kernel) rfl rfl ?_
  refine vl_cv (pc := 499) (idx := 49) (As := []) (rest := []) (ci := 9) (b := b) (bb := (0, 0)) (by decide +kernel) mf_X9_row im_X9_row se_X9_row (mm_u3 37 rfl rfl) ⟨by decide, rfl⟩ rfl (Nat.le_of_ble_eq_true rfl) ⟨rfl, rfl⟩ (W_kd_0 (hI h Ih)) (W_s_0 (hI h Ih)) (mm_MV.mono (fun v h1 k1 => ?_) (op  h Ih))
  obtain ⟨⟨z1, z2⟩, k1⟩ := k1
  refine vl_aload (pc := 502) (k := 2) (by decide +kernel) rfl rfl ?_
  refine vl_cv (pc := 503) (idx := 53) (As := []) (rest := v.toList ++ []) (ci := 10) (b := b) (bb := (0, 0)) (by decide +kernel) mf_X10_row im_X10_row se_X10_row (mm_u6 83 rfl rfl) ⟨by decide, rfl⟩ rfl ?_ ⟨(Nat.zero_add _).symm, (Nat.zero_add _).symm⟩ z1 z2 (mm_MV.mono (fun v2 h2 k2 => ?_) k1)
  · cases v with
    | none => decide
    | some w => simp; rcases lv_cat w with z | z <;> omega
  obtain ⟨⟨r, rfl, rfl⟩, k2⟩ := k2
  exact vl_same (pc := 506) (off := 736) (tgt := 1242) (by decide +kernel) (by decide) rfl (K h2 k2)
def OP_9 (I : mmH → Prop) : Prop := PR q_X9_blots q_X10_blots (0, 0) I []
theorem lcs_9 {L : Nat} {xs : Nat → Int32} {b : Nat × Nat} {I : mmH → Prop} (hI : ∀ h, I h → WS h) (op : OP_9 I) {i : Nat} (hi : i + 6 ≤ L) (hL : L ≤ 3072) (K : ∀ h, I h → mm_VL L xs b 1242 [some (.retAddr 300), some (.ref 0), some (.ref 91), some (.int (nI i))] [] h) {h : mmH} (Ih : I h) : mm_VL L xs ((0, 0).1 + b.1, (0, 0).2 + b.2) 511 [some (.retAddr 300), some (.ref 0), some (.ref 91), some (.int (nI i))] [] h := by
  refine vl_aload (pc := 511) (k := 1) (by decide +kernel) rfl rfl ?_
  refine vl_cv (pc := 512) (idx := 54) (As := []) (rest := []) (ci := 9) (b := b) (bb := (0, 0)) (by decide +kernel) mf_X9_blots im_X9_blots se_X9_blots (mm_u3 45 rfl rfl) ⟨by decide, rfl⟩ rfl (Nat.le_of_ble_eq_true rfl) ⟨rfl, rfl⟩ (W_kd_0 (hI h Ih)) (W_s_0 (hI h Ih)) (mm_MV.mono (fun v h1 k1 => ?_) (op  h Ih))
  obtain ⟨⟨z1, z2⟩, k1⟩ := k1
  refine vl_aload (pc := 515) (k := 2) (by decide +kernel) rfl rfl ?_
  refine vl_cv (pc := 516) (idx := 57) (As := []) (rest := v.toList ++ []) (ci := 10) (b := b) (bb := (0, 0)) (by decide +kernel) mf_X10_blots im_X10_blots se_X10_blots (mm_u6 87 rfl rfl) ⟨by decide, rfl⟩ rfl ?_ ⟨(Nat.zero_add _).symm, (Nat.zero_add _).symm⟩ z1 z2 (mm_MV.mono (fun v2 h2 k2 => ?_) k1)
  · cases v with
    | none => decide
    | some w => simp; rcases lv_cat w with z | z <;> omega
  obtain ⟨⟨r, rfl, rfl⟩, k2⟩ := k2
  exact vl_same (pc := 519) (off := 723) (tgt := 1242) (by decide +kernel) (by decide) rfl (K h2 k2)
def OP_10 (I : mmH → Prop) : Prop := PR q_X9_law q_X10_law (8, 880) I []
theorem lcs_10 {L : Nat} {xs : Nat → Int32} {b : Nat × Nat} {I : mmH → Prop} (hI : ∀ h, I h → WS h) (op : OP_10 I) {i : Nat} (hi : i + 6 ≤ L) (hL : L ≤ 3072) (K : ∀ h, I h → mm_VL L xs b 1242 [some (.retAddr 300), some (.ref 0), some (.ref 91), some (.int (nI i))] [] h) {h : mmH} (Ih : I h) : mm_VL L xs ((8, 880).1 + b.1, (8, 880).2 + b.2) 524 [some (.retAddr 300), some (.ref 0), some (.ref 91), some (.int (nI i))] [] h := by
  refine vl_aload (pc := 524) (k := 1) (by decide +kernel) rfl rfl ?_
  refine vl_cv (pc := 525) (idx := 58) (As := []) (rest := []) (ci := 9) (b := b) (bb := (8, 880)) (by decide +kernel) mf_X9_law im_X9_law se_X9_law (mm_u3 49 rfl rfl) ⟨by decide, rfl⟩ rfl (Nat.le_of_ble_eq_true rfl) ⟨rfl, rfl⟩ (W_kd_0 (hI h Ih)) (W_s_0 (hI h Ih)) (mm_MV.mono (fun v h1 k1 => ?_) (op  h Ih))
  obtain ⟨⟨z1, z2⟩, k1⟩ := k1
  refine vl_aload (pc := 528) (k := 2) (by decide +kernel) rfl rfl ?_
  refine vl_cv (pc := 529) (idx := 61) (As := []) (rest := v.toList ++ []) (ci := 10) (b := b) (bb := (0, 0)) (by decide +kernel) mf_X10_law im_X10_law se_X10_law (mm_u6 107 rfl rfl) ⟨by decide, rfl⟩ rfl ?_ ⟨(Nat.zero_add _).symm, (Nat.zero_add _).symm⟩ z1 z2 (mm_MV.mono (fun v2 h2 k2 => ?_) k1)
  · cases v with
    | none => decide
    | some w => simp; rcases lv_cat w with z | z <;> omega
  obtain ⟨⟨r, rfl, rfl⟩, k2⟩ := k2
  exact vl_same (pc := 532) (off := 710) (tgt := 1242) (by decide +kernel) (by decide) rfl (K h2 k2)
def OP_11 (I : mmH → Prop) : Prop := PR q_X9_orders q_X10_orders (0, 0) I []
theorem lcs_11 {L : Nat} {xs : Nat → Int32} {b : Nat × Nat} {I : mmH → Prop} (hI : ∀ h, I h → WS h) (op : OP_11 I) {i : Nat} (hi : i + 6 ≤ L) (hL : L ≤ 3072) (K : ∀ h, I h → mm_VL L xs b 1242 [some (.retAddr 300), some (.ref 0), some (.ref 91), some (.int (nI i))] [] h) {h : mmH} (Ih : I h) : mm_VL L xs ((0, 0).1 + b.1, (0, 0).2 + b.2) 537 [some (.retAddr 300), some (.ref 0), some (.ref 91), some (.int (nI i))] [] h := by
  refine vl_aload (pc := 537) (k := 1) (by decide +kernel) rfl rfl ?_
  refine vl_cv (pc := 538) (idx := 62) (As := []) (rest := []) (ci := 9) (b := b) (bb := (0, 0)) (by decide +kernel) mf_X9_orders im_X9_orders se_X9_orders (mm_u3 213 rfl rfl) ⟨by decide, rfl⟩ rfl (Nat.le_of_ble_eq_true rfl) ⟨rfl, rfl⟩ (W_kd_0 (hI h Ih)) (W_s_0 (hI h Ih)) (mm_MV.mono (fun v h1 k1 => ?_) (op  h Ih))
  obtain ⟨⟨z1, z2⟩, k1⟩ := k1
  refine vl_aload (pc := 541) (k := 2) (by decide +kernel) rfl rfl ?_
  refine vl_cv (pc := 542) (idx := 65) (As := []) (rest := v.toList ++ []) (ci := 10) (b := b) (bb := (0, 0)) (by decide +kernel) mf_X10_orders im_X10_orders se_X10_orders (mm_u7 149 rfl rfl) ⟨by decide, rfl⟩ rfl ?_ ⟨(Nat.zero_add _).symm, (Nat.zero_add _).symm⟩ z1 z2 (mm_MV.mono (fun v2 h2 k2 => ?_) k1)
  · cases v with
    | none => decide
    | some w => simp; rcases lv_cat w with z | z <;> omega
  obtain ⟨⟨r, rfl, rfl⟩, k2⟩ := k2
  exact vl_same (pc := 545) (off := 697) (tgt := 1242) (by decide +kernel) (by decide) rfl (K h2 k2)
def OP_12 (I : mmH → Prop) : Prop := PR q_X9_fault q_X10_fault (0, 0) I []
theorem lcs_12 {L : Nat} {xs : Nat → Int32} {b : Nat × Nat} {I : mmH → Prop} (hI : ∀ h, I h → WS h) (op : OP_12 I) {i : Nat} (hi : i + 6 ≤ L) (hL : L ≤ 3072) (K : ∀ h, I h → mm_VL L xs b 1242 [some (.retAddr 300), some (.ref 0), some (.ref 91), some (.int (nI i))] [] h) {h : mmH} (Ih : I h) : mm_VL L xs ((0, 0).1 + b.1, (0, 0).2 + b.2) 550 [some (.retAddr 300), some (.ref 0), some (.ref 91), some (.int (nI i))] [] h := by
  refine vl_aload (pc := 550) (k := 1) (by decide +kernel) rfl rfl ?_
  refine vl_cv (pc := 551) (idx := 66) (As := []) (rest := []) (ci := 9) (b := b) (bb := (0, 0)) (by decide +kernel) mf_X9_fault im_X9_fault se_X9_fault (mm_u4 34 rfl rfl) ⟨by decide, rfl⟩ rfl (Nat.le_of_ble_eq_true rfl) ⟨rfl, rfl⟩ (W_kd_0 (hI h Ih)) (W_s_0 (hI h Ih)) (mm_MV.mono (fun v h1 k1 => ?_) (op  h Ih))
  obtain ⟨⟨z1, z2⟩, k1⟩ := k1
  refine vl_aload (pc := 554) (k := 2) (by decide +kernel) rfl rfl ?_
  refine vl_cv (pc := 555) (idx := 69) (As := []) (rest := v.toList ++ []) (ci := 10) (b := b) (bb := (0, 0)) (by decide +kernel) mf_X10_fault im_X10_fault se_X10_fault (mm_u6 103 rfl rfl) ⟨by decide, rfl⟩ rfl ?_ ⟨(Nat.zero_add _).symm, (Nat.zero_add _).symm⟩ z1 z2 (mm_MV.mono (fun v2 h2 k2 => ?_) k1)
  · cases v with
    | none => decide
    | some w => simp; rcases lv_cat w with z | z <;> omega
  obtain ⟨⟨r, rfl, rfl⟩, k2⟩ := k2
  exact vl_same (pc := 558) (off := 684) (tgt := 1242) (by decide +kernel) (by decide) rfl (K h2 k2)
def OP_13 (I : mmH → Prop) : Prop := PR q_X9_stopped q_X10_stopped (0, 0) I []
theorem lcs_13 {L : Nat} {xs : Nat → Int32} {b : Nat × Nat} {I : mmH → Prop} (hI : ∀ h, I h → WS h) (op : OP_13 I) {i : Nat} (hi : i + 6 ≤ L) (hL : L ≤ 3072) (K : ∀ h, I h → mm_VL L xs b 1242 [some (.retAddr 300), some (.ref 0), some (.ref 91), some (.int (nI i))] [] h) {h : mmH} (Ih : I h) : mm_VL L xs ((0, 0).1 + b.1, (0, 0).2 + b.2) 563 [some (.retAddr 300), some (.ref 0), some (.ref 91), some (.int (nI i))] [] h := by
  refine vl_aload (pc := 563) (k := 1) (by decide +kernel) rfl rfl ?_
  refine vl_cv (pc := 564) (idx := 70) (As := []) (rest := []) (ci := 9) (b := b) (bb := (0, 0)) (by decide +kernel) mf_X9_stopped im_X9_stopped se_X9_stopped (mm_u4 38 rfl rfl) ⟨by decide, rfl⟩ rfl (Nat.le_of_ble_eq_true rfl) ⟨rfl, rfl⟩ (W_kd_0 (hI h Ih)) (W_s_0 (hI h Ih)) (mm_MV.mono (fun v h1 k1 => ?_) (op  h Ih))
  obtain ⟨⟨z1, z2⟩, k1⟩ := k1
  refine vl_aload (pc := 567) (k := 2) (by decide +kernel) rfl rfl ?_
  refine vl_cv (pc := 568) (idx := 73) (As := []) (rest := v.toList ++ []) (ci := 10) (b := b) (bb := (0, 0)) (by decide +kernel) mf_X10_stopped im_X10_stopped se_X10_stopped (mm_u7 182 rfl rfl) ⟨by decide, rfl⟩ rfl ?_ ⟨(Nat.zero_add _).symm, (Nat.zero_add _).symm⟩ z1 z2 (mm_MV.mono (fun v2 h2 k2 => ?_) k1)
  · cases v with
    | none => decide
    | some w => simp; rcases lv_cat w with z | z <;> omega
  obtain ⟨⟨r, rfl, rfl⟩, k2⟩ := k2
  exact vl_same (pc := 571) (off := 671) (tgt := 1242) (by decide +kernel) (by decide) rfl (K h2 k2)
def OP_14 (I : mmH → Prop) : Prop := ∀ x1 : Int32, PR q_X9_force q_X10_force (0, 0) I [.int x1]
theorem lcs_14 {L : Nat} {xs : Nat → Int32} {b : Nat × Nat} {I : mmH → Prop} (hI : ∀ h, I h → WS h) (op : OP_14 I) {i : Nat} (hi : i + 6 ≤ L) (hL : L ≤ 3072) (K : ∀ h, I h → mm_VL L xs b 1242 [some (.retAddr 300), some (.ref 0), some (.ref 91), some (.int (nI i))] [] h) {h : mmH} (Ih : I h) : mm_VL L xs ((0, 0).1 + b.1, (0, 0).2 + b.2) 576 [some (.retAddr 300), some (.ref 0), some (.ref 91), some (.int (nI i))] [] h := by
  refine vl_aload (pc := 576) (k := 1) (by decide +kernel) rfl rfl ?_
  refine vl_arg (pc := 577) (k := 1) (n := 1) (by decide +kernel) (by decide +kernel) (by decide +kernel) (by decide) (by decide +kernel) (by decide +kernel) (by omega) hL ?_
  refine vl_cv (pc := 582) (idx := 74) (As := [.int (xs (i + 1))]) (rest := []) (ci := 9) (b := b) (bb := (0, 0)) (by decide +kernel) mf_X9_force im_X9_force se_X9_force (mm_u4 42 rfl rfl) ⟨by decide, rfl⟩ rfl (Nat.le_of_ble_eq_true rfl) ⟨rfl, rfl⟩ (W_kd_0 (hI h Ih)) (W_s_0 (hI h Ih)) (mm_MV.mono (fun v h1 k1 => ?_) (op (xs (i + 1)) h Ih))
  obtain ⟨⟨z1, z2⟩, k1⟩ := k1
  refine vl_aload (pc := 585) (k := 2) (by decide +kernel) rfl rfl ?_
  refine vl_arg (pc := 586) (k := 1) (n := 1) (by decide +kernel) (by decide +kernel) (by decide +kernel) (by decide) (by decide +kernel) (by decide +kernel) (by omega) hL ?_
  refine vl_cv (pc := 591) (idx := 77) (As := [.int (xs (i + 1))]) (rest := v.toList ++ []) (ci := 10) (b := b) (bb := (0, 0)) (by decide +kernel) mf_X10_force im_X10_force se_X10_force (mm_u6 226 rfl rfl) ⟨by decide, rfl⟩ rfl ?_ ⟨(Nat.zero_add _).symm, (Nat.zero_add _).symm⟩ z1 z2 (mm_MV.mono (fun v2 h2 k2 => ?_) k1)
  · cases v with
    | none => decide
    | some w => simp; rcases lv_cat w with z | z <;> omega
  obtain ⟨⟨r, rfl, rfl⟩, k2⟩ := k2
  exact vl_same (pc := 594) (off := 648) (tgt := 1242) (by decide +kernel) (by decide) rfl (K h2 k2)
def OP_15 (I : mmH → Prop) : Prop := ∀ x1 x2 : Int32, PR q_X9_read q_X10_read (0, 0) I [.int x1, .int x2]
theorem lcs_15 {L : Nat} {xs : Nat → Int32} {b : Nat × Nat} {I : mmH → Prop} (hI : ∀ h, I h → WS h) (op : OP_15 I) {i : Nat} (hi : i + 6 ≤ L) (hL : L ≤ 3072) (K : ∀ h, I h → mm_VL L xs b 1242 [some (.retAddr 300), some (.ref 0), some (.ref 91), some (.int (nI i))] [] h) {h : mmH} (Ih : I h) : mm_VL L xs ((0, 0).1 + b.1, (0, 0).2 + b.2) 599 [some (.retAddr 300), some (.ref 0), some (.ref 91), some (.int (nI i))] [] h := by
  refine vl_aload (pc := 599) (k := 1) (by decide +kernel) rfl rfl ?_
  refine vl_arg (pc := 600) (k := 1) (n := 1) (by decide +kernel) (by decide +kernel) (by decide +kernel) (by decide) (by decide +kernel) (by decide +kernel) (by omega) hL ?_
  refine vl_arg (pc := 605) (k := 2) (n := 2) (by decide +kernel) (by decide +kernel) (by decide +kernel) (by decide) (by decide +kernel) (by decide +kernel) (by omega) hL ?_
  refine vl_cv (pc := 610) (idx := 78) (As := [.int (xs (i + 1)), .int (xs (i + 2))]) (rest := []) (ci := 9) (b := b) (bb := (0, 0)) (by decide +kernel) mf_X9_read im_X9_read se_X9_read (mm_u4 47 rfl rfl) ⟨by decide, rfl⟩ rfl (Nat.le_of_ble_eq_true rfl) ⟨rfl, rfl⟩ (W_kd_0 (hI h Ih)) (W_s_0 (hI h Ih)) (mm_MV.mono (fun v h1 k1 => ?_) (op (xs (i + 1)) (xs (i + 2)) h Ih))
  obtain ⟨⟨z1, z2⟩, k1⟩ := k1
  refine vl_aload (pc := 613) (k := 2) (by decide +kernel) rfl rfl ?_
  refine vl_arg (pc := 614) (k := 1) (n := 1) (by decide +kernel) (by decide +kernel) (by decide +kernel) (by decide) (by decide +kernel) (by decide +kernel) (by omega) hL ?_
  refine vl_arg (pc := 619) (k := 2) (n := 2) (by decide +kernel) (by decide +kernel) (by decide +kernel) (by decide) (by decide +kernel) (by decide +kernel) (by omega) hL ?_
  refine vl_cv (pc := 624) (idx := 81) (As := [.int (xs (i + 1)), .int (xs (i + 2))]) (rest := v.toList ++ []) (ci := 10) (b := b) (bb := (0, 0)) (by decide +kernel) mf_X10_read im_X10_read se_X10_read (mm_u6 234 rfl rfl) ⟨by decide, rfl⟩ rfl ?_ ⟨(Nat.zero_add _).symm, (Nat.zero_add _).symm⟩ z1 z2 (mm_MV.mono (fun v2 h2 k2 => ?_) k1)
  · cases v with
    | none => decide
    | some w => simp; rcases lv_cat w with z | z <;> omega
  obtain ⟨⟨r, rfl, rfl⟩, k2⟩ := k2
  exact vl_same (pc := 627) (off := 615) (tgt := 1242) (by decide +kernel) (by decide) rfl (K h2 k2)
def OP_16 (I : mmH → Prop) : Prop := ∀ x1 x2 : Int32, PR q_X9_answer q_X10_answer (0, 0) I [.int x1, .int x2]
theorem lcs_16 {L : Nat} {xs : Nat → Int32} {b : Nat × Nat} {I : mmH → Prop} (hI : ∀ h, I h → WS h) (op : OP_16 I) {i : Nat} (hi : i + 6 ≤ L) (hL : L ≤ 3072) (K : ∀ h, I h → mm_VL L xs b 1242 [some (.retAddr 300), some (.ref 0), some (.ref 91), some (.int (nI i))] [] h) {h : mmH} (Ih : I h) : mm_VL L xs ((0, 0).1 + b.1, (0, 0).2 + b.2) 632 [some (.retAddr 300), some (.ref 0), some (.ref 91), some (.int (nI i))] [] h := by
  refine vl_aload (pc := 632) (k := 1) (by decide +kernel) rfl rfl ?_
  refine vl_arg (pc := 633) (k := 1) (n := 1) (by decide +kernel) (by decide +kernel) (by decide +kernel) (by decide) (by decide +kernel) (by decide +kernel) (by omega) hL ?_
  refine vl_arg (pc := 638) (k := 2) (n := 2) (by decide +kernel) (by decide +kernel) (by decide +kernel) (by decide) (by decide +kernel) (by decide +kernel) (by omega) hL ?_
  refine vl_cv (pc := 643) (idx := 82) (As := [.int (xs (i + 1)), .int (xs (i + 2))]) (rest := []) (ci := 9) (b := b) (bb := (0, 0)) (by decide +kernel) mf_X9_answer im_X9_answer se_X9_answer (mm_u4 55 rfl rfl) ⟨by decide, rfl⟩ rfl (Nat.le_of_ble_eq_true rfl) ⟨rfl, rfl⟩ (W_kd_0 (hI h Ih)) (W_s_0 (hI h Ih)) (mm_MV.mono (fun v h1 k1 => ?_) (op (xs (i + 1)) (xs (i + 2)) h Ih))
  obtain ⟨⟨z1, z2⟩, k1⟩ := k1
  refine vl_aload (pc := 646) (k := 2) (by decide +kernel) rfl rfl ?_
  refine vl_arg (pc := 647) (k := 1) (n := 1) (by decide +kernel) (by decide +kernel) (by decide +kernel) (by decide) (by decide +kernel) (by decide +kernel) (by omega) hL ?_
  refine vl_arg (pc := 652) (k := 2) (n := 2) (by decide +kernel) (by decide +kernel) (by decide +kernel) (by decide) (by decide +kernel) (by decide +kernel) (by omega) hL ?_
  refine vl_cv (pc := 657) (idx := 85) (As := [.int (xs (i + 1)), .int (xs (i + 2))]) (rest := v.toList ++ []) (ci := 10) (b := b) (bb := (0, 0)) (by decide +kernel) mf_X10_answer im_X10_answer se_X10_answer (mm_u7 21 rfl rfl) ⟨by decide, rfl⟩ rfl ?_ ⟨(Nat.zero_add _).symm, (Nat.zero_add _).symm⟩ z1 z2 (mm_MV.mono (fun v2 h2 k2 => ?_) k1)
  · cases v with
    | none => decide
    | some w => simp; rcases lv_cat w with z | z <;> omega
  obtain ⟨⟨r, rfl, rfl⟩, k2⟩ := k2
  exact vl_same (pc := 660) (off := 582) (tgt := 1242) (by decide +kernel) (by decide) rfl (K h2 k2)
def OP_17 (I : mmH → Prop) : Prop := ∀ x1 x2 : Int32, PR q_X9_lose q_X10_lose (0, 0) I [.int x1, .int x2]
theorem lcs_17 {L : Nat} {xs : Nat → Int32} {b : Nat × Nat} {I : mmH → Prop} (hI : ∀ h, I h → WS h) (op : OP_17 I) {i : Nat} (hi : i + 6 ≤ L) (hL : L ≤ 3072) (K : ∀ h, I h → mm_VL L xs b 1242 [some (.retAddr 300), some (.ref 0), some (.ref 91), some (.int (nI i))] [] h) {h : mmH} (Ih : I h) : mm_VL L xs ((0, 0).1 + b.1, (0, 0).2 + b.2) 665 [some (.retAddr 300), some (.ref 0), some (.ref 91), some (.int (nI i))] [] h := by
  refine vl_aload (pc := 665) (k := 1) (by decide +kernel) rfl rfl ?_
  refine vl_arg (pc := 666) (k := 1) (n := 1) (by decide +kernel) (by decide +kernel) (by decide +kernel) (by decide) (by decide +kernel) (by decide +kernel) (by omega) hL ?_
  refine vl_arg (pc := 671) (k := 2) (n := 2) (by decide +kernel) (by decide +kernel) (by decide +kernel) (by decide) (by decide +kernel) (by decide +kernel) (by omega) hL ?_
  refine vl_cv (pc := 676) (idx := 86) (As := [.int (xs (i + 1)), .int (xs (i + 2))]) (rest := []) (ci := 9) (b := b) (bb := (0, 0)) (by decide +kernel) mf_X9_lose im_X9_lose se_X9_lose (mm_u4 59 rfl rfl) ⟨by decide, rfl⟩ rfl (Nat.le_of_ble_eq_true rfl) ⟨rfl, rfl⟩ (W_kd_0 (hI h Ih)) (W_s_0 (hI h Ih)) (mm_MV.mono (fun v h1 k1 => ?_) (op (xs (i + 1)) (xs (i + 2)) h Ih))
  obtain ⟨⟨z1, z2⟩, k1⟩ := k1
  refine vl_aload (pc := 679) (k := 2) (by decide +kernel) rfl rfl ?_
  refine vl_arg (pc := 680) (k := 1) (n := 1) (by decide +kernel) (by decide +kernel) (by decide +kernel) (by decide) (by decide +kernel) (by decide +kernel) (by omega) hL ?_
  refine vl_arg (pc := 685) (k := 2) (n := 2) (by decide +kernel) (by decide +kernel) (by decide +kernel) (by decide) (by decide +kernel) (by decide +kernel) (by omega) hL ?_
  refine vl_cv (pc := 690) (idx := 89) (As := [.int (xs (i + 1)), .int (xs (i + 2))]) (rest := v.toList ++ []) (ci := 10) (b := b) (bb := (0, 0)) (by decide +kernel) mf_X10_lose im_X10_lose se_X10_lose (mm_u7 33 rfl rfl) ⟨by decide, rfl⟩ rfl ?_ ⟨(Nat.zero_add _).symm, (Nat.zero_add _).symm⟩ z1 z2 (mm_MV.mono (fun v2 h2 k2 => ?_) k1)
  · cases v with
    | none => decide
    | some w => simp; rcases lv_cat w with z | z <;> omega
  obtain ⟨⟨r, rfl, rfl⟩, k2⟩ := k2
  exact vl_same (pc := 693) (off := 549) (tgt := 1242) (by decide +kernel) (by decide) rfl (K h2 k2)
def OP_18 (I : mmH → Prop) : Prop := PR q_X9_pass q_X10_pass (0, 0) I []
theorem lcs_18 {L : Nat} {xs : Nat → Int32} {b : Nat × Nat} {I : mmH → Prop} (hI : ∀ h, I h → WS h) (op : OP_18 I) {i : Nat} (hi : i + 6 ≤ L) (hL : L ≤ 3072) (K : ∀ h, I h → mm_VL L xs b 1242 [some (.retAddr 300), some (.ref 0), some (.ref 91), some (.int (nI i))] [] h) {h : mmH} (Ih : I h) : mm_VL L xs ((0, 0).1 + b.1, (0, 0).2 + b.2) 698 [some (.retAddr 300), some (.ref 0), some (.ref 91), some (.int (nI i))] [] h := by
  refine vl_aload (pc := 698) (k := 1) (by decide +kernel) rfl rfl ?_
  refine vl_cv (pc := 699) (idx := 90) (As := []) (rest := []) (ci := 9) (b := b) (bb := (0, 0)) (by decide +kernel) mf_X9_pass im_X9_pass se_X9_pass (mm_u4 63 rfl rfl) ⟨by decide, rfl⟩ rfl (Nat.le_of_ble_eq_true rfl) ⟨rfl, rfl⟩ (W_kd_0 (hI h Ih)) (W_s_0 (hI h Ih)) (mm_MV.mono (fun v h1 k1 => ?_) (op  h Ih))
  obtain ⟨⟨z1, z2⟩, k1⟩ := k1
  refine vl_aload (pc := 702) (k := 2) (by decide +kernel) rfl rfl ?_
  refine vl_cv (pc := 703) (idx := 93) (As := []) (rest := v.toList ++ []) (ci := 10) (b := b) (bb := (0, 0)) (by decide +kernel) mf_X10_pass im_X10_pass se_X10_pass (mm_u7 45 rfl rfl) ⟨by decide, rfl⟩ rfl ?_ ⟨(Nat.zero_add _).symm, (Nat.zero_add _).symm⟩ z1 z2 (mm_MV.mono (fun v2 h2 k2 => ?_) k1)
  · cases v with
    | none => decide
    | some w => simp; rcases lv_cat w with z | z <;> omega
  obtain ⟨⟨r, rfl, rfl⟩, k2⟩ := k2
  exact vl_same (pc := 706) (off := 536) (tgt := 1242) (by decide +kernel) (by decide) rfl (K h2 k2)
def OP_19 (I : mmH → Prop) : Prop := PR q_X9_undo q_X10_undo (0, 0) I []
theorem lcs_19 {L : Nat} {xs : Nat → Int32} {b : Nat × Nat} {I : mmH → Prop} (hI : ∀ h, I h → WS h) (op : OP_19 I) {i : Nat} (hi : i + 6 ≤ L) (hL : L ≤ 3072) (K : ∀ h, I h → mm_VL L xs b 1242 [some (.retAddr 300), some (.ref 0), some (.ref 91), some (.int (nI i))] [] h) {h : mmH} (Ih : I h) : mm_VL L xs ((0, 0).1 + b.1, (0, 0).2 + b.2) 711 [some (.retAddr 300), some (.ref 0), some (.ref 91), some (.int (nI i))] [] h := by
  refine vl_aload (pc := 711) (k := 1) (by decide +kernel) rfl rfl ?_
  refine vl_cv (pc := 712) (idx := 94) (As := []) (rest := []) (ci := 9) (b := b) (bb := (0, 0)) (by decide +kernel) mf_X9_undo im_X9_undo se_X9_undo (mm_u4 67 rfl rfl) ⟨by decide, rfl⟩ rfl (Nat.le_of_ble_eq_true rfl) ⟨rfl, rfl⟩ (W_kd_0 (hI h Ih)) (W_s_0 (hI h Ih)) (mm_MV.mono (fun v h1 k1 => ?_) (op  h Ih))
  obtain ⟨⟨z1, z2⟩, k1⟩ := k1
  refine vl_aload (pc := 715) (k := 2) (by decide +kernel) rfl rfl ?_
  refine vl_cv (pc := 716) (idx := 97) (As := []) (rest := v.toList ++ []) (ci := 10) (b := b) (bb := (0, 0)) (by decide +kernel) mf_X10_undo im_X10_undo se_X10_undo (mm_u5 203 rfl rfl) ⟨by decide, rfl⟩ rfl ?_ ⟨(Nat.zero_add _).symm, (Nat.zero_add _).symm⟩ z1 z2 (mm_MV.mono (fun v2 h2 k2 => ?_) k1)
  · cases v with
    | none => decide
    | some w => simp; rcases lv_cat w with z | z <;> omega
  obtain ⟨⟨r, rfl, rfl⟩, k2⟩ := k2
  exact vl_same (pc := 719) (off := 523) (tgt := 1242) (by decide +kernel) (by decide) rfl (K h2 k2)
def OP_20 (I : mmH → Prop) : Prop := ∀ x1 x2 x3 : Int32, PR q_X9_lesson q_X10_lesson (0, 0) I [.int x1, .int x2, .int x3]
theorem lcs_20 {L : Nat} {xs : Nat → Int32} {b : Nat × Nat} {I : mmH → Prop} (hI : ∀ h, I h → WS h) (op : OP_20 I) {i : Nat} (hi : i + 6 ≤ L) (hL : L ≤ 3072) (K : ∀ h, I h → mm_VL L xs b 1242 [some (.retAddr 300), some (.ref 0), some (.ref 91), some (.int (nI i))] [] h) {h : mmH} (Ih : I h) : mm_VL L xs ((0, 0).1 + b.1, (0, 0).2 + b.2) 724 [some (.retAddr 300), some (.ref 0), some (.ref 91), some (.int (nI i))] [] h := by
  refine vl_aload (pc := 724) (k := 1) (by decide +kernel) rfl rfl ?_
  refine vl_arg (pc := 725) (k := 1) (n := 1) (by decide +kernel) (by decide +kernel) (by decide +kernel) (by decide) (by decide +kernel) (by decide +kernel) (by omega) hL ?_
  refine vl_arg (pc := 730) (k := 2) (n := 2) (by decide +kernel) (by decide +kernel) (by decide +kernel) (by decide) (by decide +kernel) (by decide +kernel) (by omega) hL ?_
  refine vl_arg (pc := 735) (k := 3) (n := 3) (by decide +kernel) (by decide +kernel) (by decide +kernel) (by decide) (by decide +kernel) (by decide +kernel) (by omega) hL ?_
  refine vl_cv (pc := 740) (idx := 98) (As := [.int (xs (i + 1)), .int (xs (i + 2)), .int (xs (i + 3))]) (rest := []) (ci := 9) (b := b) (bb := (0, 0)) (by decide +kernel) mf_X9_lesson im_X9_lesson se_X9_lesson (mm_u4 75 rfl rfl) ⟨by decide, rfl⟩ rfl (Nat.le_of_ble_eq_true rfl) ⟨rfl, rfl⟩ (W_kd_0 (hI h Ih)) (W_s_0 (hI h Ih)) (mm_MV.mono (fun v h1 k1 => ?_) (op (xs (i + 1)) (xs (i + 2)) (xs (i + 3)) h Ih))
  obtain ⟨⟨z1, z2⟩, k1⟩ := k1
  refine vl_aload (pc := 743) (k := 2) (by decide +kernel) rfl rfl ?_
  refine vl_arg (pc := 744) (k := 1) (n := 1) (by decide +kernel) (by decide +kernel) (by decide +kernel) (by decide) (by decide +kernel) (by decide +kernel) (by omega) hL ?_
  refine vl_arg (pc := 749) (k := 2) (n := 2) (by decide +kernel) (by decide +kernel) (by decide +kernel) (by decide) (by decide +kernel) (by decide +kernel) (by omega) hL ?_
  refine vl_arg (pc := 754) (k := 3) (n := 3) (by decide +kernel) (by decide +kernel) (by decide +kernel) (by decide) (by decide +kernel) (by decide +kernel) (by omega) hL ?_
  refine vl_cv (pc := 759) (idx := 101) (As := [.int (xs (i + 1)), .int (xs (i + 2)), .int (xs (i + 3))]) (rest := v.toList ++ []) (ci := 10) (b := b) (bb := (0, 0)) (by decide +kernel) mf_X10_lesson im_X10_lesson se_X10_lesson (mm_u7 61 rfl rfl) ⟨by decide, rfl⟩ rfl ?_ ⟨(Nat.zero_add _).symm, (Nat.zero_add _).symm⟩ z1 z2 (mm_MV.mono (fun v2 h2 k2 => ?_) k1)
  · cases v with
    | none => decide
    | some w => simp; rcases lv_cat w with z | z <;> omega
  obtain ⟨⟨r, rfl, rfl⟩, k2⟩ := k2
  exact vl_same (pc := 762) (off := 480) (tgt := 1242) (by decide +kernel) (by decide) rfl (K h2 k2)
def OP_21 (I : mmH → Prop) : Prop := ∀ x1 x2 : Int32, PR q_X9_told q_X10_told (0, 0) I [.int x1, .int x2]
theorem lcs_21 {L : Nat} {xs : Nat → Int32} {b : Nat × Nat} {I : mmH → Prop} (hI : ∀ h, I h → WS h) (op : OP_21 I) {i : Nat} (hi : i + 6 ≤ L) (hL : L ≤ 3072) (K : ∀ h, I h → mm_VL L xs b 1242 [some (.retAddr 300), some (.ref 0), some (.ref 91), some (.int (nI i))] [] h) {h : mmH} (Ih : I h) : mm_VL L xs ((0, 0).1 + b.1, (0, 0).2 + b.2) 767 [some (.retAddr 300), some (.ref 0), some (.ref 91), some (.int (nI i))] [] h := by
  refine vl_aload (pc := 767) (k := 1) (by decide +kernel) rfl rfl ?_
  refine vl_arg (pc := 768) (k := 1) (n := 1) (by decide +kernel) (by decide +kernel) (by decide +kernel) (by decide) (by decide +kernel) (by decide +kernel) (by omega) hL ?_
  refine vl_arg (pc := 773) (k := 2) (n := 2) (by decide +kernel) (by decide +kernel) (by decide +kernel) (by decide) (by decide +kernel) (by decide +kernel) (by omega) hL ?_
  refine vl_cv (pc := 778) (idx := 102) (As := [.int (xs (i + 1)), .int (xs (i + 2))]) (rest := []) (ci := 9) (b := b) (bb := (0, 0)) (by decide +kernel) mf_X9_told im_X9_told se_X9_told (mm_u4 92 rfl rfl) ⟨by decide, rfl⟩ rfl (Nat.le_of_ble_eq_true rfl) ⟨rfl, rfl⟩ (W_kd_0 (hI h Ih)) (W_s_0 (hI h Ih)) (mm_MV.mono (fun v h1 k1 => ?_) (op (xs (i + 1)) (xs (i + 2)) h Ih))
  obtain ⟨⟨z1, z2⟩, k1⟩ := k1
  refine vl_aload (pc := 781) (k := 2) (by decide +kernel) rfl rfl ?_
  refine vl_arg (pc := 782) (k := 1) (n := 1) (by decide +kernel) (by decide +kernel) (by decide +kernel) (by decide) (by decide +kernel) (by decide +kernel) (by omega) hL ?_
  refine vl_arg (pc := 787) (k := 2) (n := 2) (by decide +kernel) (by decide +kernel) (by decide +kernel) (by decide) (by decide +kernel) (by decide +kernel) (by omega) hL ?_
  refine vl_cv (pc := 792) (idx := 105) (As := [.int (xs (i + 1)), .int (xs (i + 2))]) (rest := v.toList ++ []) (ci := 10) (b := b) (bb := (0, 0)) (by decide +kernel) mf_X10_told im_X10_told se_X10_told (mm_u7 78 rfl rfl) ⟨by decide, rfl⟩ rfl ?_ ⟨(Nat.zero_add _).symm, (Nat.zero_add _).symm⟩ z1 z2 (mm_MV.mono (fun v2 h2 k2 => ?_) k1)
  · cases v with
    | none => decide
    | some w => simp; rcases lv_cat w with z | z <;> omega
  obtain ⟨⟨r, rfl, rfl⟩, k2⟩ := k2
  exact vl_same (pc := 795) (off := 447) (tgt := 1242) (by decide +kernel) (by decide) rfl (K h2 k2)
def OP_22 (I : mmH → Prop) : Prop := PR q_X9_forget q_X10_forget (0, 0) I []
theorem lcs_22 {L : Nat} {xs : Nat → Int32} {b : Nat × Nat} {I : mmH → Prop} (hI : ∀ h, I h → WS h) (op : OP_22 I) {i : Nat} (hi : i + 6 ≤ L) (hL : L ≤ 3072) (K : ∀ h, I h → mm_VL L xs b 1242 [some (.retAddr 300), some (.ref 0), some (.ref 91), some (.int (nI i))] [] h) {h : mmH} (Ih : I h) : mm_VL L xs ((0, 0).1 + b.1, (0, 0).2 + b.2) 800 [some (.retAddr 300), some (.ref 0), some (.ref 91), some (.int (nI i))] [] h := by
  refine vl_aload (pc := 800) (k := 1) (by decide +kernel) rfl rfl ?_
  refine vl_cv (pc := 801) (idx := 106) (As := []) (rest := []) (ci := 9) (b := b) (bb := (0, 0)) (by decide +kernel) mf_X9_forget im_X9_forget se_X9_forget (mm_u4 100 rfl rfl) ⟨by decide, rfl⟩ rfl (Nat.le_of_ble_eq_true rfl) ⟨rfl, rfl⟩ (W_kd_0 (hI h Ih)) (W_s_0 (hI h Ih)) (mm_MV.mono (fun v h1 k1 => ?_) (op  h Ih))
  obtain ⟨⟨z1, z2⟩, k1⟩ := k1
  refine vl_aload (pc := 804) (k := 2) (by decide +kernel) rfl rfl ?_
  refine vl_cv (pc := 805) (idx := 109) (As := []) (rest := v.toList ++ []) (ci := 10) (b := b) (bb := (0, 0)) (by decide +kernel) mf_X10_forget im_X10_forget se_X10_forget (mm_u7 82 rfl rfl) ⟨by decide, rfl⟩ rfl ?_ ⟨(Nat.zero_add _).symm, (Nat.zero_add _).symm⟩ z1 z2 (mm_MV.mono (fun v2 h2 k2 => ?_) k1)
  · cases v with
    | none => decide
    | some w => simp; rcases lv_cat w with z | z <;> omega
  obtain ⟨⟨r, rfl, rfl⟩, k2⟩ := k2
  exact vl_same (pc := 808) (off := 434) (tgt := 1242) (by decide +kernel) (by decide) rfl (K h2 k2)
def OP_23 (I : mmH → Prop) : Prop := ∀ x1 x2 : Int32, PR q_X9_heard q_X10_heard (0, 0) I [.int x1, .int x2]
theorem lcs_23 {L : Nat} {xs : Nat → Int32} {b : Nat × Nat} {I : mmH → Prop} (hI : ∀ h, I h → WS h) (op : OP_23 I) {i : Nat} (hi : i + 6 ≤ L) (hL : L ≤ 3072) (K : ∀ h, I h → mm_VL L xs b 1242 [some (.retAddr 300), some (.ref 0), some (.ref 91), some (.int (nI i))] [] h) {h : mmH} (Ih : I h) : mm_VL L xs ((0, 0).1 + b.1, (0, 0).2 + b.2) 813 [some (.retAddr 300), some (.ref 0), some (.ref 91), some (.int (nI i))] [] h := by
  refine vl_aload (pc := 813) (k := 1) (by decide +kernel) rfl rfl ?_
  refine vl_arg (pc := 814) (k := 1) (n := 1) (by decide +kernel) (by decide +kernel) (by decide +kernel) (by decide) (by decide +kernel) (by decide +kernel) (by omega) hL ?_
  refine vl_arg (pc := 819) (k := 2) (n := 2) (by decide +kernel) (by decide +kernel) (by decide +kernel) (by decide) (by decide +kernel) (by decide +kernel) (by omega) hL ?_
  refine vl_cv (pc := 824) (idx := 110) (As := [.int (xs (i + 1)), .int (xs (i + 2))]) (rest := []) (ci := 9) (b := b) (bb := (0, 0)) (by decide +kernel) mf_X9_heard im_X9_heard se_X9_heard (mm_u4 104 rfl rfl) ⟨by decide, rfl⟩ rfl (Nat.le_of_ble_eq_true rfl) ⟨rfl, rfl⟩ (W_kd_0 (hI h Ih)) (W_s_0 (hI h Ih)) (mm_MV.mono (fun v h1 k1 => ?_) (op (xs (i + 1)) (xs (i + 2)) h Ih))
  obtain ⟨⟨z1, z2⟩, k1⟩ := k1
  refine vl_aload (pc := 827) (k := 2) (by decide +kernel) rfl rfl ?_
  refine vl_arg (pc := 828) (k := 1) (n := 1) (by decide +kernel) (by decide +kernel) (by decide +kernel) (by decide) (by decide +kernel) (by decide +kernel) (by omega) hL ?_
  refine vl_arg (pc := 833) (k := 2) (n := 2) (by decide +kernel) (by decide +kernel) (by decide +kernel) (by decide) (by decide +kernel) (by decide +kernel) (by omega) hL ?_
  refine vl_cv (pc := 838) (idx := 113) (As := [.int (xs (i + 1)), .int (xs (i + 2))]) (rest := v.toList ++ []) (ci := 10) (b := b) (bb := (0, 0)) (by decide +kernel) mf_X10_heard im_X10_heard se_X10_heard (mm_u7 86 rfl rfl) ⟨by decide, rfl⟩ rfl ?_ ⟨(Nat.zero_add _).symm, (Nat.zero_add _).symm⟩ z1 z2 (mm_MV.mono (fun v2 h2 k2 => ?_) k1)
  · cases v with
    | none => decide
    | some w => simp; rcases lv_cat w with z | z <;> omega
  obtain ⟨⟨r, rfl, rfl⟩, k2⟩ := k2
  exact vl_same (pc := 841) (off := 401) (tgt := 1242) (by decide +kernel) (by decide) rfl (K h2 k2)
def OP_24 (I : mmH → Prop) : Prop := ∀ x1 x2 : Int32, PR q_X9_ask q_X10_ask (0, 0) I [.int x1, .int x2]
theorem lcs_24 {L : Nat} {xs : Nat → Int32} {b : Nat × Nat} {I : mmH → Prop} (hI : ∀ h, I h → WS h) (op : OP_24 I) {i : Nat} (hi : i + 6 ≤ L) (hL : L ≤ 3072) (K : ∀ h, I h → mm_VL L xs b 1242 [some (.retAddr 300), some (.ref 0), some (.ref 91), some (.int (nI i))] [] h) {h : mmH} (Ih : I h) : mm_VL L xs ((0, 0).1 + b.1, (0, 0).2 + b.2) 846 [some (.retAddr 300), some (.ref 0), some (.ref 91), some (.int (nI i))] [] h := by
  refine vl_aload (pc := 846) (k := 1) (by decide +kernel) rfl rfl ?_
  refine vl_arg (pc := 847) (k := 1) (n := 1) (by decide +kernel) (by decide +kernel) (by decide +kernel) (by decide) (by decide +kernel) (by decide +kernel) (by omega) hL ?_
  refine vl_arg (pc := 852) (k := 2) (n := 2) (by decide +kernel) (by decide +kernel) (by decide +kernel) (by decide) (by decide +kernel) (by decide +kernel) (by omega) hL ?_
  refine vl_cv (pc := 857) (idx := 114) (As := [.int (xs (i + 1)), .int (xs (i + 2))]) (rest := []) (ci := 9) (b := b) (bb := (0, 0)) (by decide +kernel) mf_X9_ask im_X9_ask se_X9_ask (mm_u4 116 rfl rfl) ⟨by decide, rfl⟩ rfl (Nat.le_of_ble_eq_true rfl) ⟨rfl, rfl⟩ (W_kd_0 (hI h Ih)) (W_s_0 (hI h Ih)) (mm_MV.mono (fun v h1 k1 => ?_) (op (xs (i + 1)) (xs (i + 2)) h Ih))
  obtain ⟨⟨z1, z2⟩, k1⟩ := k1
  refine vl_aload (pc := 860) (k := 2) (by decide +kernel) rfl rfl ?_
  refine vl_arg (pc := 861) (k := 1) (n := 1) (by decide +kernel) (by decide +kernel) (by decide +kernel) (by decide) (by decide +kernel) (by decide +kernel) (by omega) hL ?_
  refine vl_arg (pc := 866) (k := 2) (n := 2) (by decide +kernel) (by decide +kernel) (by decide +kernel) (by decide) (by decide +kernel) (by decide +kernel) (by omega) hL ?_
  refine vl_cv (pc := 871) (idx := 117) (As := [.int (xs (i + 1)), .int (xs (i + 2))]) (rest := v.toList ++ []) (ci := 10) (b := b) (bb := (0, 0)) (by decide +kernel) mf_X10_ask im_X10_ask se_X10_ask (mm_u7 98 rfl rfl) ⟨by decide, rfl⟩ rfl ?_ ⟨(Nat.zero_add _).symm, (Nat.zero_add _).symm⟩ z1 z2 (mm_MV.mono (fun v2 h2 k2 => ?_) k1)
  · cases v with
    | none => decide
    | some w => simp; rcases lv_cat w with z | z <;> omega
  obtain ⟨⟨r, rfl, rfl⟩, k2⟩ := k2
  exact vl_same (pc := 874) (off := 368) (tgt := 1242) (by decide +kernel) (by decide) rfl (K h2 k2)
def OP_25 (I : mmH → Prop) : Prop := ∀ x1 : Int32, PR q_X9_matched q_X10_matched (0, 0) I [.int x1]
theorem lcs_25 {L : Nat} {xs : Nat → Int32} {b : Nat × Nat} {I : mmH → Prop} (hI : ∀ h, I h → WS h) (op : OP_25 I) {i : Nat} (hi : i + 6 ≤ L) (hL : L ≤ 3072) (K : ∀ h, I h → mm_VL L xs b 1242 [some (.retAddr 300), some (.ref 0), some (.ref 91), some (.int (nI i))] [] h) {h : mmH} (Ih : I h) : mm_VL L xs ((0, 0).1 + b.1, (0, 0).2 + b.2) 879 [some (.retAddr 300), some (.ref 0), some (.ref 91), some (.int (nI i))] [] h := by
  refine vl_aload (pc := 879) (k := 1) (by decide +kernel) rfl rfl ?_
  refine vl_arg (pc := 880) (k := 1) (n := 1) (by decide +kernel) (by decide +kernel) (by decide +kernel) (by decide) (by decide +kernel) (by decide +kernel) (by omega) hL ?_
  refine vl_cv (pc := 885) (idx := 118) (As := [.int (xs (i + 1))]) (rest := []) (ci := 9) (b := b) (bb := (0, 0)) (by decide +kernel) mf_X9_matched im_X9_matched se_X9_matched (mm_u4 125 rfl rfl) ⟨by decide, rfl⟩ rfl (Nat.le_of_ble_eq_true rfl) ⟨rfl, rfl⟩ (W_kd_0 (hI h Ih)) (W_s_0 (hI h Ih)) (mm_MV.mono (fun v h1 k1 => ?_) (op (xs (i + 1)) h Ih))
  obtain ⟨⟨z1, z2⟩, k1⟩ := k1
  refine vl_aload (pc := 888) (k := 2) (by decide +kernel) rfl rfl ?_
  refine vl_arg (pc := 889) (k := 1) (n := 1) (by decide +kernel) (by decide +kernel) (by decide +kernel) (by decide) (by decide +kernel) (by decide +kernel) (by omega) hL ?_
  refine vl_cv (pc := 894) (idx := 121) (As := [.int (xs (i + 1))]) (rest := v.toList ++ []) (ci := 10) (b := b) (bb := (0, 0)) (by decide +kernel) mf_X10_matched im_X10_matched se_X10_matched (mm_u7 102 rfl rfl) ⟨by decide, rfl⟩ rfl ?_ ⟨(Nat.zero_add _).symm, (Nat.zero_add _).symm⟩ z1 z2 (mm_MV.mono (fun v2 h2 k2 => ?_) k1)
  · cases v with
    | none => decide
    | some w => simp; rcases lv_cat w with z | z <;> omega
  obtain ⟨⟨r, rfl, rfl⟩, k2⟩ := k2
  exact vl_same (pc := 897) (off := 345) (tgt := 1242) (by decide +kernel) (by decide) rfl (K h2 k2)
def OP_26 (I : mmH → Prop) : Prop := ∀ x1 x2 : Int32, PR q_X9_together q_X10_together (0, 0) I [.int x1, .int x2]
theorem lcs_26 {L : Nat} {xs : Nat → Int32} {b : Nat × Nat} {I : mmH → Prop} (hI : ∀ h, I h → WS h) (op : OP_26 I) {i : Nat} (hi : i + 6 ≤ L) (hL : L ≤ 3072) (K : ∀ h, I h → mm_VL L xs b 1242 [some (.retAddr 300), some (.ref 0), some (.ref 91), some (.int (nI i))] [] h) {h : mmH} (Ih : I h) : mm_VL L xs ((0, 0).1 + b.1, (0, 0).2 + b.2) 902 [some (.retAddr 300), some (.ref 0), some (.ref 91), some (.int (nI i))] [] h := by
  refine vl_aload (pc := 902) (k := 1) (by decide +kernel) rfl rfl ?_
  refine vl_arg (pc := 903) (k := 1) (n := 1) (by decide +kernel) (by decide +kernel) (by decide +kernel) (by decide) (by decide +kernel) (by decide +kernel) (by omega) hL ?_
  refine vl_arg (pc := 908) (k := 2) (n := 2) (by decide +kernel) (by decide +kernel) (by decide +kernel) (by decide) (by decide +kernel) (by decide +kernel) (by omega) hL ?_
  refine vl_cv (pc := 913) (idx := 122) (As := [.int (xs (i + 1)), .int (xs (i + 2))]) (rest := []) (ci := 9) (b := b) (bb := (0, 0)) (by decide +kernel) mf_X9_together im_X9_together se_X9_together (mm_u4 149 rfl rfl) ⟨by decide, rfl⟩ rfl (Nat.le_of_ble_eq_true rfl) ⟨rfl, rfl⟩ (W_kd_0 (hI h Ih)) (W_s_0 (hI h Ih)) (mm_MV.mono (fun v h1 k1 => ?_) (op (xs (i + 1)) (xs (i + 2)) h Ih))
  obtain ⟨⟨z1, z2⟩, k1⟩ := k1
  refine vl_aload (pc := 916) (k := 2) (by decide +kernel) rfl rfl ?_
  refine vl_arg (pc := 917) (k := 1) (n := 1) (by decide +kernel) (by decide +kernel) (by decide +kernel) (by decide) (by decide +kernel) (by decide +kernel) (by omega) hL ?_
  refine vl_arg (pc := 922) (k := 2) (n := 2) (by decide +kernel) (by decide +kernel) (by decide +kernel) (by decide) (by decide +kernel) (by decide +kernel) (by omega) hL ?_
  refine vl_cv (pc := 927) (idx := 125) (As := [.int (xs (i + 1)), .int (xs (i + 2))]) (rest := v.toList ++ []) (ci := 10) (b := b) (bb := (0, 0)) (by decide +kernel) mf_X10_together im_X10_together se_X10_together (mm_u7 114 rfl rfl) ⟨by decide, rfl⟩ rfl ?_ ⟨(Nat.zero_add _).symm, (Nat.zero_add _).symm⟩ z1 z2 (mm_MV.mono (fun v2 h2 k2 => ?_) k1)
  · cases v with
    | none => decide
    | some w => simp; rcases lv_cat w with z | z <;> omega
  obtain ⟨⟨r, rfl, rfl⟩, k2⟩ := k2
  exact vl_same (pc := 930) (off := 312) (tgt := 1242) (by decide +kernel) (by decide) rfl (K h2 k2)
def OP_27 (I : mmH → Prop) : Prop := ∀ x1 : Int32, PR q_X9_clashes q_X10_clashes (0, 0) I [.int x1]
theorem lcs_27 {L : Nat} {xs : Nat → Int32} {b : Nat × Nat} {I : mmH → Prop} (hI : ∀ h, I h → WS h) (op : OP_27 I) {i : Nat} (hi : i + 6 ≤ L) (hL : L ≤ 3072) (K : ∀ h, I h → mm_VL L xs b 1242 [some (.retAddr 300), some (.ref 0), some (.ref 91), some (.int (nI i))] [] h) {h : mmH} (Ih : I h) : mm_VL L xs ((0, 0).1 + b.1, (0, 0).2 + b.2) 935 [some (.retAddr 300), some (.ref 0), some (.ref 91), some (.int (nI i))] [] h := by
  refine vl_aload (pc := 935) (k := 1) (by decide +kernel) rfl rfl ?_
  refine vl_arg (pc := 936) (k := 1) (n := 1) (by decide +kernel) (by decide +kernel) (by decide +kernel) (by decide) (by decide +kernel) (by decide +kernel) (by omega) hL ?_
  refine vl_cv (pc := 941) (idx := 126) (As := [.int (xs (i + 1))]) (rest := []) (ci := 9) (b := b) (bb := (0, 0)) (by decide +kernel) mf_X9_clashes im_X9_clashes se_X9_clashes (mm_u4 161 rfl rfl) ⟨by decide, rfl⟩ rfl (Nat.le_of_ble_eq_true rfl) ⟨rfl, rfl⟩ (W_kd_0 (hI h Ih)) (W_s_0 (hI h Ih)) (mm_MV.mono (fun v h1 k1 => ?_) (op (xs (i + 1)) h Ih))
  obtain ⟨⟨z1, z2⟩, k1⟩ := k1
  refine vl_aload (pc := 944) (k := 2) (by decide +kernel) rfl rfl ?_
  refine vl_arg (pc := 945) (k := 1) (n := 1) (by decide +kernel) (by decide +kernel) (by decide +kernel) (by decide) (by decide +kernel) (by decide +kernel) (by omega) hL ?_
  refine vl_cv (pc := 950) (idx := 129) (As := [.int (xs (i + 1))]) (rest := v.toList ++ []) (ci := 10) (b := b) (bb := (0, 0)) (by decide +kernel) mf_X10_clashes im_X10_clashes se_X10_clashes (mm_u7 118 rfl rfl) ⟨by decide, rfl⟩ rfl ?_ ⟨(Nat.zero_add _).symm, (Nat.zero_add _).symm⟩ z1 z2 (mm_MV.mono (fun v2 h2 k2 => ?_) k1)
  · cases v with
    | none => decide
    | some w => simp; rcases lv_cat w with z | z <;> omega
  obtain ⟨⟨r, rfl, rfl⟩, k2⟩ := k2
  exact vl_same (pc := 953) (off := 289) (tgt := 1242) (by decide +kernel) (by decide) rfl (K h2 k2)
def OP_28 (I : mmH → Prop) : Prop := ∀ x1 x2 : Int32, PR q_X9_later q_X10_later (0, 0) I [.int x1, .int x2]
theorem lcs_28 {L : Nat} {xs : Nat → Int32} {b : Nat × Nat} {I : mmH → Prop} (hI : ∀ h, I h → WS h) (op : OP_28 I) {i : Nat} (hi : i + 6 ≤ L) (hL : L ≤ 3072) (K : ∀ h, I h → mm_VL L xs b 1242 [some (.retAddr 300), some (.ref 0), some (.ref 91), some (.int (nI i))] [] h) {h : mmH} (Ih : I h) : mm_VL L xs ((0, 0).1 + b.1, (0, 0).2 + b.2) 958 [some (.retAddr 300), some (.ref 0), some (.ref 91), some (.int (nI i))] [] h := by
  refine vl_aload (pc := 958) (k := 1) (by decide +kernel) rfl rfl ?_
  refine vl_arg (pc := 959) (k := 1) (n := 1) (by decide +kernel) (by decide +kernel) (by decide +kernel) (by decide) (by decide +kernel) (by decide +kernel) (by omega) hL ?_
  refine vl_arg (pc := 964) (k := 2) (n := 2) (by decide +kernel) (by decide +kernel) (by decide +kernel) (by decide) (by decide +kernel) (by decide +kernel) (by omega) hL ?_
  refine vl_cv (pc := 969) (idx := 130) (As := [.int (xs (i + 1)), .int (xs (i + 2))]) (rest := []) (ci := 9) (b := b) (bb := (0, 0)) (by decide +kernel) mf_X9_later im_X9_later se_X9_later (mm_u4 169 rfl rfl) ⟨by decide, rfl⟩ rfl (Nat.le_of_ble_eq_true rfl) ⟨rfl, rfl⟩ (W_kd_0 (hI h Ih)) (W_s_0 (hI h Ih)) (mm_MV.mono (fun v h1 k1 => ?_) (op (xs (i + 1)) (xs (i + 2)) h Ih))
  obtain ⟨⟨z1, z2⟩, k1⟩ := k1
  refine vl_aload (pc := 972) (k := 2) (by decide +kernel) rfl rfl ?_
  refine vl_arg (pc := 973) (k := 1) (n := 1) (by decide +kernel) (by decide +kernel) (by decide +kernel) (by decide) (by decide +kernel) (by decide +kernel) (by omega) hL ?_
  refine vl_arg (pc := 978) (k := 2) (n := 2) (by decide +kernel) (by decide +kernel) (by decide +kernel) (by decide) (by decide +kernel) (by decide +kernel) (by omega) hL ?_
  refine vl_cv (pc := 983) (idx := 133) (As := [.int (xs (i + 1)), .int (xs (i + 2))]) (rest := v.toList ++ []) (ci := 10) (b := b) (bb := (0, 0)) (by decide +kernel) mf_X10_later im_X10_later se_X10_later (mm_u7 126 rfl rfl) ⟨by decide, rfl⟩ rfl ?_ ⟨(Nat.zero_add _).symm, (Nat.zero_add _).symm⟩ z1 z2 (mm_MV.mono (fun v2 h2 k2 => ?_) k1)
  · cases v with
    | none => decide
    | some w => simp; rcases lv_cat w with z | z <;> omega
  obtain ⟨⟨r, rfl, rfl⟩, k2⟩ := k2
  exact vl_same (pc := 986) (off := 256) (tgt := 1242) (by decide +kernel) (by decide) rfl (K h2 k2)
def OP_29 (I : mmH → Prop) : Prop := ∀ x1 x2 : Int32, PR q_X9_likest q_X10_likest (0, 0) I [.int x1, .int x2]
theorem lcs_29 {L : Nat} {xs : Nat → Int32} {b : Nat × Nat} {I : mmH → Prop} (hI : ∀ h, I h → WS h) (op : OP_29 I) {i : Nat} (hi : i + 6 ≤ L) (hL : L ≤ 3072) (K : ∀ h, I h → mm_VL L xs b 1242 [some (.retAddr 300), some (.ref 0), some (.ref 91), some (.int (nI i))] [] h) {h : mmH} (Ih : I h) : mm_VL L xs ((0, 0).1 + b.1, (0, 0).2 + b.2) 991 [some (.retAddr 300), some (.ref 0), some (.ref 91), some (.int (nI i))] [] h := by
  refine vl_aload (pc := 991) (k := 1) (by decide +kernel) rfl rfl ?_
  refine vl_arg (pc := 992) (k := 1) (n := 1) (by decide +kernel) (by decide +kernel) (by decide +kernel) (by decide) (by decide +kernel) (by decide +kernel) (by omega) hL ?_
  refine vl_arg (pc := 997) (k := 2) (n := 2) (by decide +kernel) (by decide +kernel) (by decide +kernel) (by decide) (by decide +kernel) (by decide +kernel) (by omega) hL ?_
  refine vl_cv (pc := 1002) (idx := 134) (As := [.int (xs (i + 1)), .int (xs (i + 2))]) (rest := []) (ci := 9) (b := b) (bb := (0, 0)) (by decide +kernel) mf_X9_likest im_X9_likest se_X9_likest (mm_u4 174 rfl rfl) ⟨by decide, rfl⟩ rfl (Nat.le_of_ble_eq_true rfl) ⟨rfl, rfl⟩ (W_kd_0 (hI h Ih)) (W_s_0 (hI h Ih)) (mm_MV.mono (fun v h1 k1 => ?_) (op (xs (i + 1)) (xs (i + 2)) h Ih))
  obtain ⟨⟨z1, z2⟩, k1⟩ := k1
  refine vl_aload (pc := 1005) (k := 2) (by decide +kernel) rfl rfl ?_
  refine vl_arg (pc := 1006) (k := 1) (n := 1) (by decide +kernel) (by decide +kernel) (by decide +kernel) (by decide) (by decide +kernel) (by decide +kernel) (by omega) hL ?_
  refine vl_arg (pc := 1011) (k := 2) (n := 2) (by decide +kernel) (by decide +kernel) (by decide +kernel) (by decide) (by decide +kernel) (by decide +kernel) (by omega) hL ?_
  refine vl_cv (pc := 1016) (idx := 137) (As := [.int (xs (i + 1)), .int (xs (i + 2))]) (rest := v.toList ++ []) (ci := 10) (b := b) (bb := (0, 0)) (by decide +kernel) mf_X10_likest im_X10_likest se_X10_likest (mm_u7 131 rfl rfl) ⟨by decide, rfl⟩ rfl ?_ ⟨(Nat.zero_add _).symm, (Nat.zero_add _).symm⟩ z1 z2 (mm_MV.mono (fun v2 h2 k2 => ?_) k1)
  · cases v with
    | none => decide
    | some w => simp; rcases lv_cat w with z | z <;> omega
  obtain ⟨⟨r, rfl, rfl⟩, k2⟩ := k2
  exact vl_same (pc := 1019) (off := 223) (tgt := 1242) (by decide +kernel) (by decide) rfl (K h2 k2)
def OP_30 (I : mmH → Prop) : Prop := PR q_X9_lost q_X10_lost (0, 0) I []
theorem lcs_30 {L : Nat} {xs : Nat → Int32} {b : Nat × Nat} {I : mmH → Prop} (hI : ∀ h, I h → WS h) (op : OP_30 I) {i : Nat} (hi : i + 6 ≤ L) (hL : L ≤ 3072) (K : ∀ h, I h → mm_VL L xs b 1242 [some (.retAddr 300), some (.ref 0), some (.ref 91), some (.int (nI i))] [] h) {h : mmH} (Ih : I h) : mm_VL L xs ((0, 0).1 + b.1, (0, 0).2 + b.2) 1024 [some (.retAddr 300), some (.ref 0), some (.ref 91), some (.int (nI i))] [] h := by
  refine vl_aload (pc := 1024) (k := 1) (by decide +kernel) rfl rfl ?_
  refine vl_cv (pc := 1025) (idx := 138) (As := []) (rest := []) (ci := 9) (b := b) (bb := (0, 0)) (by decide +kernel) mf_X9_lost im_X9_lost se_X9_lost (mm_u4 178 rfl rfl) ⟨by decide, rfl⟩ rfl (Nat.le_of_ble_eq_true rfl) ⟨rfl, rfl⟩ (W_kd_0 (hI h Ih)) (W_s_0 (hI h Ih)) (mm_MV.mono (fun v h1 k1 => ?_) (op  h Ih))
  obtain ⟨⟨z1, z2⟩, k1⟩ := k1
  refine vl_aload (pc := 1028) (k := 2) (by decide +kernel) rfl rfl ?_
  refine vl_cv (pc := 1029) (idx := 141) (As := []) (rest := v.toList ++ []) (ci := 10) (b := b) (bb := (0, 0)) (by decide +kernel) mf_X10_lost im_X10_lost se_X10_lost (mm_u7 135 rfl rfl) ⟨by decide, rfl⟩ rfl ?_ ⟨(Nat.zero_add _).symm, (Nat.zero_add _).symm⟩ z1 z2 (mm_MV.mono (fun v2 h2 k2 => ?_) k1)
  · cases v with
    | none => decide
    | some w => simp; rcases lv_cat w with z | z <;> omega
  obtain ⟨⟨r, rfl, rfl⟩, k2⟩ := k2
  exact vl_same (pc := 1032) (off := 210) (tgt := 1242) (by decide +kernel) (by decide) rfl (K h2 k2)
def OP_31 (I : mmH → Prop) : Prop := ∀ x1 x2 : Int32, PRl q_X9_few q_X10_few (0, 0) I [.int x1, .int x2]
theorem lcs_31 {L : Nat} {xs : Nat → Int32} {b : Nat × Nat} {I : mmH → Prop} (hI : ∀ h, I h → WS h) (op : OP_31 I) {i : Nat} (hi : i + 6 ≤ L) (hL : L ≤ 3072) (K : ∀ h, I h → mm_VL L xs b 1242 [some (.retAddr 300), some (.ref 0), some (.ref 91), some (.int (nI i))] [] h) {h : mmH} (Ih : I h) : mm_VL L xs ((0, 0).1 + b.1, (0, 0).2 + b.2) 1037 [some (.retAddr 300), some (.ref 0), some (.ref 91), some (.int (nI i))] [] h := by
  refine vl_aload (pc := 1037) (k := 1) (by decide +kernel) rfl rfl ?_
  refine vl_arg (pc := 1038) (k := 1) (n := 1) (by decide +kernel) (by decide +kernel) (by decide +kernel) (by decide) (by decide +kernel) (by decide +kernel) (by omega) hL ?_
  refine vl_arg (pc := 1043) (k := 2) (n := 2) (by decide +kernel) (by decide +kernel) (by decide +kernel) (by decide) (by decide +kernel) (by decide +kernel) (by omega) hL ?_
  refine vl_cv (pc := 1048) (idx := 142) (As := [.int (xs (i + 1)), .int (xs (i + 2))]) (rest := []) (ci := 9) (b := b) (bb := (0, 0)) (by decide +kernel) mf_X9_few im_X9_few se_X9_few (mm_u4 183 rfl rfl) ⟨by decide, rfl⟩ rfl (Nat.le_of_ble_eq_true rfl) ⟨rfl, rfl⟩ (W_kd_0 (hI h Ih)) (W_s_0 (hI h Ih)) (mm_MV.mono (fun v h1 k1 => ?_) (op (xs (i + 1)) (xs (i + 2)) h Ih))
  obtain ⟨⟨z1, z2⟩, k1⟩ := k1
  refine vl_aload (pc := 1051) (k := 2) (by decide +kernel) rfl rfl ?_
  refine vl_arg (pc := 1052) (k := 1) (n := 1) (by decide +kernel) (by decide +kernel) (by decide +kernel) (by decide) (by decide +kernel) (by decide +kernel) (by omega) hL ?_
  refine vl_arg (pc := 1057) (k := 2) (n := 2) (by decide +kernel) (by decide +kernel) (by decide +kernel) (by decide) (by decide +kernel) (by decide +kernel) (by omega) hL ?_
  refine vl_cv (pc := 1062) (idx := 146) (As := [.int (xs (i + 1)), .int (xs (i + 2))]) (rest := v.toList ++ []) (ci := 10) (b := b) (bb := (0, 0)) (by decide +kernel) mf_X10_few im_X10_few se_X10_few (mm_u7 139 rfl rfl) ⟨by decide, rfl⟩ rfl ?_ ⟨(Nat.zero_add _).symm, (Nat.zero_add _).symm⟩ z1 z2 (mm_MV.mono (fun v2 h2 k2 => ?_) k1)
  · cases v with
    | none => decide
    | some w => simp; rcases lv_cat w with z | z <;> omega
  obtain ⟨⟨r, rfl, rfl⟩, k2⟩ := k2
  exact vl_samel (pc := 1065) (off := 176) (tgt := 1242) (by decide +kernel) (by decide +kernel) (by decide) rfl (K h2 k2)
def OP_32 (I : mmH → Prop) : Prop := ∀ x1 : Int32, PR q_X9_compare q_X10_compare (0, 0) I [.int x1]
theorem lcs_32 {L : Nat} {xs : Nat → Int32} {b : Nat × Nat} {I : mmH → Prop} (hI : ∀ h, I h → WS h) (op : OP_32 I) {i : Nat} (hi : i + 6 ≤ L) (hL : L ≤ 3072) (K : ∀ h, I h → mm_VL L xs b 1242 [some (.retAddr 300), some (.ref 0), some (.ref 91), some (.int (nI i))] [] h) {h : mmH} (Ih : I h) : mm_VL L xs ((0, 0).1 + b.1, (0, 0).2 + b.2) 1071 [some (.retAddr 300), some (.ref 0), some (.ref 91), some (.int (nI i))] [] h := by
  refine vl_aload (pc := 1071) (k := 1) (by decide +kernel) rfl rfl ?_
  refine vl_arg (pc := 1072) (k := 1) (n := 1) (by decide +kernel) (by decide +kernel) (by decide +kernel) (by decide) (by decide +kernel) (by decide +kernel) (by omega) hL ?_
  refine vl_cv (pc := 1077) (idx := 147) (As := [.int (xs (i + 1))]) (rest := []) (ci := 9) (b := b) (bb := (0, 0)) (by decide +kernel) mf_X9_compare im_X9_compare se_X9_compare (mm_u4 197 rfl rfl) ⟨by decide, rfl⟩ rfl (Nat.le_of_ble_eq_true rfl) ⟨rfl, rfl⟩ (W_kd_0 (hI h Ih)) (W_s_0 (hI h Ih)) (mm_MV.mono (fun v h1 k1 => ?_) (op (xs (i + 1)) h Ih))
  obtain ⟨⟨z1, z2⟩, k1⟩ := k1
  refine vl_aload (pc := 1080) (k := 2) (by decide +kernel) rfl rfl ?_
  refine vl_arg (pc := 1081) (k := 1) (n := 1) (by decide +kernel) (by decide +kernel) (by decide +kernel) (by decide) (by decide +kernel) (by decide +kernel) (by omega) hL ?_
  refine vl_cv (pc := 1086) (idx := 150) (As := [.int (xs (i + 1))]) (rest := v.toList ++ []) (ci := 10) (b := b) (bb := (0, 0)) (by decide +kernel) mf_X10_compare im_X10_compare se_X10_compare (mm_u7 145 rfl rfl) ⟨by decide, rfl⟩ rfl ?_ ⟨(Nat.zero_add _).symm, (Nat.zero_add _).symm⟩ z1 z2 (mm_MV.mono (fun v2 h2 k2 => ?_) k1)
  · cases v with
    | none => decide
    | some w => simp; rcases lv_cat w with z | z <;> omega
  obtain ⟨⟨r, rfl, rfl⟩, k2⟩ := k2
  exact vl_same (pc := 1089) (off := 153) (tgt := 1242) (by decide +kernel) (by decide) rfl (K h2 k2)
def OP_33 (I : mmH → Prop) : Prop := ∀ x1 x2 : Int32, PR q_X9_schools q_X10_schools (0, 0) I [.int x1, .int x2]
theorem lcs_33 {L : Nat} {xs : Nat → Int32} {b : Nat × Nat} {I : mmH → Prop} (hI : ∀ h, I h → WS h) (op : OP_33 I) {i : Nat} (hi : i + 6 ≤ L) (hL : L ≤ 3072) (K : ∀ h, I h → mm_VL L xs b 1242 [some (.retAddr 300), some (.ref 0), some (.ref 91), some (.int (nI i))] [] h) {h : mmH} (Ih : I h) : mm_VL L xs ((0, 0).1 + b.1, (0, 0).2 + b.2) 1094 [some (.retAddr 300), some (.ref 0), some (.ref 91), some (.int (nI i))] [] h := by
  refine vl_aload (pc := 1094) (k := 1) (by decide +kernel) rfl rfl ?_
  refine vl_arg (pc := 1095) (k := 1) (n := 1) (by decide +kernel) (by decide +kernel) (by decide +kernel) (by decide) (by decide +kernel) (by decide +kernel) (by omega) hL ?_
  refine vl_arg (pc := 1100) (k := 2) (n := 2) (by decide +kernel) (by decide +kernel) (by decide +kernel) (by decide) (by decide +kernel) (by decide +kernel) (by omega) hL ?_
  refine vl_cv (pc := 1105) (idx := 151) (As := [.int (xs (i + 1)), .int (xs (i + 2))]) (rest := []) (ci := 9) (b := b) (bb := (0, 0)) (by decide +kernel) mf_X9_schools im_X9_schools se_X9_schools (mm_u4 201 rfl rfl) ⟨by decide, rfl⟩ rfl (Nat.le_of_ble_eq_true rfl) ⟨rfl, rfl⟩ (W_kd_0 (hI h Ih)) (W_s_0 (hI h Ih)) (mm_MV.mono (fun v h1 k1 => ?_) (op (xs (i + 1)) (xs (i + 2)) h Ih))
  obtain ⟨⟨z1, z2⟩, k1⟩ := k1
  refine vl_aload (pc := 1108) (k := 2) (by decide +kernel) rfl rfl ?_
  refine vl_arg (pc := 1109) (k := 1) (n := 1) (by decide +kernel) (by decide +kernel) (by decide +kernel) (by decide) (by decide +kernel) (by decide +kernel) (by omega) hL ?_
  refine vl_arg (pc := 1114) (k := 2) (n := 2) (by decide +kernel) (by decide +kernel) (by decide +kernel) (by decide) (by decide +kernel) (by decide +kernel) (by omega) hL ?_
  refine vl_cv (pc := 1119) (idx := 154) (As := [.int (xs (i + 1)), .int (xs (i + 2))]) (rest := v.toList ++ []) (ci := 10) (b := b) (bb := (0, 0)) (by decide +kernel) mf_X10_schools im_X10_schools se_X10_schools (mm_u7 186 rfl rfl) ⟨by decide, rfl⟩ rfl ?_ ⟨(Nat.zero_add _).symm, (Nat.zero_add _).symm⟩ z1 z2 (mm_MV.mono (fun v2 h2 k2 => ?_) k1)
  · cases v with
    | none => decide
    | some w => simp; rcases lv_cat w with z | z <;> omega
  obtain ⟨⟨r, rfl, rfl⟩, k2⟩ := k2
  exact vl_same (pc := 1122) (off := 120) (tgt := 1242) (by decide +kernel) (by decide) rfl (K h2 k2)
def OP_34 (I : mmH → Prop) : Prop := ∀ x1 x2 : Int32, PR q_X9_drawn q_X10_drawn (0, 0) I [.int x1, .int x2]
theorem lcs_34 {L : Nat} {xs : Nat → Int32} {b : Nat × Nat} {I : mmH → Prop} (hI : ∀ h, I h → WS h) (op : OP_34 I) {i : Nat} (hi : i + 6 ≤ L) (hL : L ≤ 3072) (K : ∀ h, I h → mm_VL L xs b 1242 [some (.retAddr 300), some (.ref 0), some (.ref 91), some (.int (nI i))] [] h) {h : mmH} (Ih : I h) : mm_VL L xs ((0, 0).1 + b.1, (0, 0).2 + b.2) 1127 [some (.retAddr 300), some (.ref 0), some (.ref 91), some (.int (nI i))] [] h := by
  refine vl_aload (pc := 1127) (k := 1) (by decide +kernel) rfl rfl ?_
  refine vl_arg (pc := 1128) (k := 1) (n := 1) (by decide +kernel) (by decide +kernel) (by decide +kernel) (by decide) (by decide +kernel) (by decide +kernel) (by omega) hL ?_
  refine vl_arg (pc := 1133) (k := 2) (n := 2) (by decide +kernel) (by decide +kernel) (by decide +kernel) (by decide) (by decide +kernel) (by decide +kernel) (by omega) hL ?_
  refine vl_cv (pc := 1138) (idx := 155) (As := [.int (xs (i + 1)), .int (xs (i + 2))]) (rest := []) (ci := 9) (b := b) (bb := (0, 0)) (by decide +kernel) mf_X9_drawn im_X9_drawn se_X9_drawn (mm_u4 220 rfl rfl) ⟨by decide, rfl⟩ rfl (Nat.le_of_ble_eq_true rfl) ⟨rfl, rfl⟩ (W_kd_0 (hI h Ih)) (W_s_0 (hI h Ih)) (mm_MV.mono (fun v h1 k1 => ?_) (op (xs (i + 1)) (xs (i + 2)) h Ih))
  obtain ⟨⟨z1, z2⟩, k1⟩ := k1
  refine vl_aload (pc := 1141) (k := 2) (by decide +kernel) rfl rfl ?_
  refine vl_arg (pc := 1142) (k := 1) (n := 1) (by decide +kernel) (by decide +kernel) (by decide +kernel) (by decide) (by decide +kernel) (by decide +kernel) (by omega) hL ?_
  refine vl_arg (pc := 1147) (k := 2) (n := 2) (by decide +kernel) (by decide +kernel) (by decide +kernel) (by decide) (by decide +kernel) (by decide +kernel) (by omega) hL ?_
  refine vl_cv (pc := 1152) (idx := 158) (As := [.int (xs (i + 1)), .int (xs (i + 2))]) (rest := v.toList ++ []) (ci := 10) (b := b) (bb := (0, 0)) (by decide +kernel) mf_X10_drawn im_X10_drawn se_X10_drawn (mm_u7 197 rfl rfl) ⟨by decide, rfl⟩ rfl ?_ ⟨(Nat.zero_add _).symm, (Nat.zero_add _).symm⟩ z1 z2 (mm_MV.mono (fun v2 h2 k2 => ?_) k1)
  · cases v with
    | none => decide
    | some w => simp; rcases lv_cat w with z | z <;> omega
  obtain ⟨⟨r, rfl, rfl⟩, k2⟩ := k2
  exact vl_same (pc := 1155) (off := 87) (tgt := 1242) (by decide +kernel) (by decide) rfl (K h2 k2)
def OP_35 (I : mmH → Prop) : Prop := ∀ x1 : Int32, PR q_X9_image q_X10_image (0, 0) I [.int x1]
theorem lcs_35 {L : Nat} {xs : Nat → Int32} {b : Nat × Nat} {I : mmH → Prop} (hI : ∀ h, I h → WS h) (op : OP_35 I) {i : Nat} (hi : i + 6 ≤ L) (hL : L ≤ 3072) (K : ∀ h, I h → mm_VL L xs b 1242 [some (.retAddr 300), some (.ref 0), some (.ref 91), some (.int (nI i))] [] h) {h : mmH} (Ih : I h) : mm_VL L xs ((0, 0).1 + b.1, (0, 0).2 + b.2) 1160 [some (.retAddr 300), some (.ref 0), some (.ref 91), some (.int (nI i))] [] h := by
  refine vl_aload (pc := 1160) (k := 1) (by decide +kernel) rfl rfl ?_
  refine vl_arg (pc := 1161) (k := 1) (n := 1) (by decide +kernel) (by decide +kernel) (by decide +kernel) (by decide) (by decide +kernel) (by decide +kernel) (by omega) hL ?_
  refine vl_cv (pc := 1166) (idx := 159) (As := [.int (xs (i + 1))]) (rest := []) (ci := 9) (b := b) (bb := (0, 0)) (by decide +kernel) mf_X9_image im_X9_image se_X9_image (mm_u4 224 rfl rfl) ⟨by decide, rfl⟩ rfl (Nat.le_of_ble_eq_true rfl) ⟨rfl, rfl⟩ (W_kd_0 (hI h Ih)) (W_s_0 (hI h Ih)) (mm_MV.mono (fun v h1 k1 => ?_) (op (xs (i + 1)) h Ih))
  obtain ⟨⟨z1, z2⟩, k1⟩ := k1
  refine vl_aload (pc := 1169) (k := 2) (by decide +kernel) rfl rfl ?_
  refine vl_arg (pc := 1170) (k := 1) (n := 1) (by decide +kernel) (by decide +kernel) (by decide +kernel) (by decide) (by decide +kernel) (by decide +kernel) (by omega) hL ?_
  refine vl_cv (pc := 1175) (idx := 162) (As := [.int (xs (i + 1))]) (rest := v.toList ++ []) (ci := 10) (b := b) (bb := (0, 0)) (by decide +kernel) mf_X10_image im_X10_image se_X10_image (mm_u5 215 rfl rfl) ⟨by decide, rfl⟩ rfl ?_ ⟨(Nat.zero_add _).symm, (Nat.zero_add _).symm⟩ z1 z2 (mm_MV.mono (fun v2 h2 k2 => ?_) k1)
  · cases v with
    | none => decide
    | some w => simp; rcases lv_cat w with z | z <;> omega
  obtain ⟨⟨r, rfl, rfl⟩, k2⟩ := k2
  exact vl_same (pc := 1178) (off := 64) (tgt := 1242) (by decide +kernel) (by decide) rfl (K h2 k2)
def OP_36 (I : mmH → Prop) : Prop := ∀ x1 : Int32, PR q_X9_back q_X10_back (0, 0) I [.int x1]
theorem lcs_36 {L : Nat} {xs : Nat → Int32} {b : Nat × Nat} {I : mmH → Prop} (hI : ∀ h, I h → WS h) (op : OP_36 I) {i : Nat} (hi : i + 6 ≤ L) (hL : L ≤ 3072) (K : ∀ h, I h → mm_VL L xs b 1242 [some (.retAddr 300), some (.ref 0), some (.ref 91), some (.int (nI i))] [] h) {h : mmH} (Ih : I h) : mm_VL L xs ((0, 0).1 + b.1, (0, 0).2 + b.2) 1183 [some (.retAddr 300), some (.ref 0), some (.ref 91), some (.int (nI i))] [] h := by
  refine vl_aload (pc := 1183) (k := 1) (by decide +kernel) rfl rfl ?_
  refine vl_arg (pc := 1184) (k := 1) (n := 1) (by decide +kernel) (by decide +kernel) (by decide +kernel) (by decide) (by decide +kernel) (by decide +kernel) (by omega) hL ?_
  refine vl_cv (pc := 1189) (idx := 163) (As := [.int (xs (i + 1))]) (rest := []) (ci := 9) (b := b) (bb := (0, 0)) (by decide +kernel) mf_X9_back im_X9_back se_X9_back (mm_u4 228 rfl rfl) ⟨by decide, rfl⟩ rfl (Nat.le_of_ble_eq_true rfl) ⟨rfl, rfl⟩ (W_kd_0 (hI h Ih)) (W_s_0 (hI h Ih)) (mm_MV.mono (fun v h1 k1 => ?_) (op (xs (i + 1)) h Ih))
  obtain ⟨⟨z1, z2⟩, k1⟩ := k1
  refine vl_aload (pc := 1192) (k := 2) (by decide +kernel) rfl rfl ?_
  refine vl_arg (pc := 1193) (k := 1) (n := 1) (by decide +kernel) (by decide +kernel) (by decide +kernel) (by decide) (by decide +kernel) (by decide +kernel) (by omega) hL ?_
  refine vl_cv (pc := 1198) (idx := 166) (As := [.int (xs (i + 1))]) (rest := v.toList ++ []) (ci := 10) (b := b) (bb := (0, 0)) (by decide +kernel) mf_X10_back im_X10_back se_X10_back (mm_u5 222 rfl rfl) ⟨by decide, rfl⟩ rfl ?_ ⟨(Nat.zero_add _).symm, (Nat.zero_add _).symm⟩ z1 z2 (mm_MV.mono (fun v2 h2 k2 => ?_) k1)
  · cases v with
    | none => decide
    | some w => simp; rcases lv_cat w with z | z <;> omega
  obtain ⟨⟨r, rfl, rfl⟩, k2⟩ := k2
  exact vl_same (pc := 1201) (off := 41) (tgt := 1242) (by decide +kernel) (by decide) rfl (K h2 k2)
def OP_37 (I : mmH → Prop) : Prop := ∀ x1 : Int32, PR q_X9_count q_X10_count (0, 0) I [.int x1]
theorem lcs_37 {L : Nat} {xs : Nat → Int32} {b : Nat × Nat} {I : mmH → Prop} (hI : ∀ h, I h → WS h) (op : OP_37 I) {i : Nat} (hi : i + 6 ≤ L) (hL : L ≤ 3072) (K : ∀ h, I h → mm_VL L xs b 1242 [some (.retAddr 300), some (.ref 0), some (.ref 91), some (.int (nI i))] [] h) {h : mmH} (Ih : I h) : mm_VL L xs ((0, 0).1 + b.1, (0, 0).2 + b.2) 1206 [some (.retAddr 300), some (.ref 0), some (.ref 91), some (.int (nI i))] [] h := by
  refine vl_aload (pc := 1206) (k := 1) (by decide +kernel) rfl rfl ?_
  refine vl_arg (pc := 1207) (k := 1) (n := 1) (by decide +kernel) (by decide +kernel) (by decide +kernel) (by decide) (by decide +kernel) (by decide +kernel) (by omega) hL ?_
  refine vl_cv (pc := 1212) (idx := 167) (As := [.int (xs (i + 1))]) (rest := []) (ci := 9) (b := b) (bb := (0, 0)) (by decide +kernel) mf_X9_count im_X9_count se_X9_count (mm_u4 232 rfl rfl) ⟨by decide, rfl⟩ rfl (Nat.le_of_ble_eq_true rfl) ⟨rfl, rfl⟩ (W_kd_0 (hI h Ih)) (W_s_0 (hI h Ih)) (mm_MV.mono (fun v h1 k1 => ?_) (op (xs (i + 1)) h Ih))
  obtain ⟨⟨z1, z2⟩, k1⟩ := k1
  refine vl_aload (pc := 1215) (k := 2) (by decide +kernel) rfl rfl ?_
  refine vl_arg (pc := 1216) (k := 1) (n := 1) (by decide +kernel) (by decide +kernel) (by decide +kernel) (by decide) (by decide +kernel) (by decide +kernel) (by omega) hL ?_
  refine vl_cv (pc := 1221) (idx := 170) (As := [.int (xs (i + 1))]) (rest := v.toList ++ []) (ci := 10) (b := b) (bb := (0, 0)) (by decide +kernel) mf_X10_count im_X10_count se_X10_count (mm_u7 201 rfl rfl) ⟨by decide, rfl⟩ rfl ?_ ⟨(Nat.zero_add _).symm, (Nat.zero_add _).symm⟩ z1 z2 (mm_MV.mono (fun v2 h2 k2 => ?_) k1)
  · cases v with
    | none => decide
    | some w => simp; rcases lv_cat w with z | z <;> omega
  obtain ⟨⟨r, rfl, rfl⟩, k2⟩ := k2
  exact vl_same (pc := 1224) (off := 18) (tgt := 1242) (by decide +kernel) (by decide) rfl (K h2 k2)
def OP_38 (I : mmH → Prop) : Prop := PR q_X9_status q_X10_status (0, 0) I []
theorem lcs_38 {L : Nat} {xs : Nat → Int32} {b : Nat × Nat} {I : mmH → Prop} (hI : ∀ h, I h → WS h) (op : OP_38 I) {i : Nat} (hi : i + 6 ≤ L) (hL : L ≤ 3072) (K : ∀ h, I h → mm_VL L xs b 1242 [some (.retAddr 300), some (.ref 0), some (.ref 91), some (.int (nI i))] [] h) {h : mmH} (Ih : I h) : mm_VL L xs ((0, 0).1 + b.1, (0, 0).2 + b.2) 1229 [some (.retAddr 300), some (.ref 0), some (.ref 91), some (.int (nI i))] [] h := by
  refine vl_aload (pc := 1229) (k := 1) (by decide +kernel) rfl rfl ?_
  refine vl_cv (pc := 1230) (idx := 171) (As := []) (rest := []) (ci := 9) (b := b) (bb := (0, 0)) (by decide +kernel) mf_X9_status im_X9_status se_X9_status (mm_u4 237 rfl rfl) ⟨by decide, rfl⟩ rfl (Nat.le_of_ble_eq_true rfl) ⟨rfl, rfl⟩ (W_kd_0 (hI h Ih)) (W_s_0 (hI h Ih)) (mm_MV.mono (fun v h1 k1 => ?_) (op  h Ih))
  obtain ⟨⟨z1, z2⟩, k1⟩ := k1
  refine vl_aload (pc := 1233) (k := 2) (by decide +kernel) rfl rfl ?_
  refine vl_cv (pc := 1234) (idx := 174) (As := []) (rest := v.toList ++ []) (ci := 10) (b := b) (bb := (0, 0)) (by decide +kernel) mf_X10_status im_X10_status se_X10_status (mm_u7 207 rfl rfl) ⟨by decide, rfl⟩ rfl ?_ ⟨(Nat.zero_add _).symm, (Nat.zero_add _).symm⟩ z1 z2 (mm_MV.mono (fun v2 h2 k2 => ?_) k1)
  · cases v with
    | none => decide
    | some w => simp; rcases lv_cat w with z | z <;> omega
  obtain ⟨⟨r, rfl, rfl⟩, k2⟩ := k2
  exact vl_same (pc := 1237) (off := 5) (tgt := 1242) (by decide +kernel) (by decide) rfl (K h2 k2)
theorem law_loop_open {L : Nat} {xs : Nat → Int32} {I : mmH → Prop} (hI : ∀ h, I h → WS h) (hL : L ≤ 3072) (op0 : OP_0 I) (op1 : OP_1 I) (op2 : OP_2 I) (op3 : OP_3 I) (op4 : OP_4 I) (op5 : OP_5 I) (op6 : OP_6 I) (op7 : OP_7 I) (op8 : OP_8 I) (op9 : OP_9 I) (op10 : OP_10 I) (op11 : OP_11 I) (op12 : OP_12 I) (op13 : OP_13 I) (op14 : OP_14 I) (op15 : OP_15 I) (op16 : OP_16 I) (op17 : OP_17 I) (op18 : OP_18 I) (op19 : OP_19 I) (op20 : OP_20 I) (op21 : OP_21 I) (op22 : OP_22 I) (op23 : OP_23 I) (op24 : OP_24 I) (op25 : OP_25 I) (op26 : OP_26 I) (op27 : OP_27 I) (op28 : OP_28 I) (op29 : OP_29 I) (op30 : OP_30 I) (op31 : OP_31 I) (op32 : OP_32 I) (op33 : OP_33 I) (op34 : OP_34 I) (op35 : OP_35 I) (op36 : OP_36 I) (op37 : OP_37 I) (op38 : OP_38 I) : ∀ n i h, L ≤ i + 6 * n → i ≤ 3072 → I h → mm_VL L xs (8 * n, 880 * n) 18 [some (.retAddr 300), some (.ref 0), some (.ref 91), some (.int (nI i))] [] h := by
  intro n
  induction n with
  | zero =>
    intro i h h1 h2 Ih
    refine vl_iload (pc := 18) (k := 3) (by decide +kernel) rfl rfl (vl_script (pc := 19) (k := 0) (by decide +kernel) rfl rfl (vl_slen (pc := 20) (by decide +kernel) (vl_bipush (pc := 21) (n := 6) (x := nI 6) (by decide +kernel) (by decide) (vl_isub (pc := 23) (by decide +kernel) (vl_gt (pc := 24) (off := 1224) (tgt := 1248) (by decide +kernel) (by decide) (fun _ => ?_) (fun c => ?_))))))
    · exact vl_iconst (pc := 1248) (n := 1) (by decide +kernel) (by decide) (vl_end (pc := 1249) (by decide +kernel))
    · exfalso
      apply c
      rw [Int32.lt_iff_toInt_lt, pk_sub_toInt (by omega) (by omega), nI_toInt (by omega)]
      omega
  | succ n ih =>
    intro i h h1 h2 Ih
    refine vl_iload (pc := 18) (k := 3) (by decide +kernel) rfl rfl (vl_script (pc := 19) (k := 0) (by decide +kernel) rfl rfl (vl_slen (pc := 20) (by decide +kernel) (vl_bipush (pc := 21) (n := 6) (x := nI 6) (by decide +kernel) (by decide) (vl_isub (pc := 23) (by decide +kernel) (vl_gt (pc := 24) (off := 1224) (tgt := 1248) (by decide +kernel) (by decide) (fun _ => ?_) (fun c => ?_))))))
    · exact vl_iconst (pc := 1248) (n := 1) (by decide +kernel) (by decide) (vl_end (pc := 1249) (by decide +kernel))
    · have hi : i + 6 ≤ L := by
        rw [Int32.lt_iff_toInt_lt, pk_sub_toInt (by omega) (by omega), nI_toInt (by omega)] at c
        omega
      have K : ∀ h, I h → mm_VL L xs (8 * n, 880 * n) 1242 [some (.retAddr 300), some (.ref 0), some (.ref 91), some (.int (nI i))] [] h := by
        intro h Ih
        refine vl_iinc (pc := 1242) (i := 3) (n := 6) (x0 := nI 6) (by decide +kernel) (by decide) (by decide) rfl ?_
        refine vl_goto (pc := 1245) (off := (-1227)) (tgt := 18) (by decide +kernel) (by decide) ?_
        rw [nI_add]
        exact ih (i + 6) h (by omega) (by omega) Ih
      refine vl_script (pc := 27) (k := 0) (by decide +kernel) rfl rfl (vl_iload (pc := 28) (k := 3) (by decide +kernel) rfl rfl (vl_sald (pc := 29) (by decide +kernel) (show i < L by omega) (by omega) (vl_bipush (pc := 30) (n := 63) (x := 63) (by decide +kernel) (by decide) (vl_iand (pc := 32) (by decide +kernel) ?_))))
      refine vl_sw (pc := 33) (dflt := 1209) (hi := 38) (offs := #[171, 214, 247, 270, 303, 346, 379, 442, 465, 478, 491, 504, 517, 530, 543, 566, 599, 632, 665, 678, 691, 734, 767, 780, 813, 846, 869, 902, 925, 958, 991, 1004, 1038, 1061, 1094, 1127, 1150, 1173, 1196]) (len := 171) (tgd := 1242) (by decide +kernel) (by decide) [204, 247, 280, 303, 336, 379, 412, 475, 498, 511, 524, 537, 550, 563, 576, 599, 632, 665, 698, 711, 724, 767, 800, 813, 846, 879, 902, 935, 958, 991, 1024, 1037, 1071, 1094, 1127, 1160, 1183, 1206, 1229] (by decide) (by decide +kernel) (fun j hj e => ?_) (mm_VL.mono (b := (8 * n, 880 * n)) (by show 8 * n ≤ 8 * (n + 1); omega) (by show 880 * n ≤ 880 * (n + 1); omega) (K h Ih)) (by decide)
      match j, hj with
      | 0, _ => exact mm_VL.mono (b := ((0, 0).1 + 8 * n, (0, 0).2 + 880 * n)) (by show _ ≤ 8 * (n + 1); omega) (by show _ ≤ 880 * (n + 1); omega) (lcs_0 (b := (8 * n, 880 * n)) hI op0 hi hL K Ih)
      | 1, _ => exact mm_VL.mono (b := ((0, 0).1 + 8 * n, (0, 0).2 + 880 * n)) (by show _ ≤ 8 * (n + 1); omega) (by show _ ≤ 880 * (n + 1); omega) (lcs_1 (b := (8 * n, 880 * n)) hI op1 hi hL K Ih)
      | 2, _ => exact mm_VL.mono (b := ((0, 0).1 + 8 * n, (0, 0).2 + 880 * n)) (by show _ ≤ 8 * (n + 1); omega) (by show _ ≤ 880 * (n + 1); omega) (lcs_2 (b := (8 * n, 880 * n)) hI op2 hi hL K Ih)
      | 3, _ => exact mm_VL.mono (b := ((0, 0).1 + 8 * n, (0, 0).2 + 880 * n)) (by show _ ≤ 8 * (n + 1); omega) (by show _ ≤ 880 * (n + 1); omega) (lcs_3 (b := (8 * n, 880 * n)) hI op3 hi hL K Ih)
      | 4, _ => exact mm_VL.mono (b := ((0, 0).1 + 8 * n, (0, 0).2 + 880 * n)) (by show _ ≤ 8 * (n + 1); omega) (by show _ ≤ 880 * (n + 1); omega) (lcs_4 (b := (8 * n, 880 * n)) hI op4 hi hL K Ih)
      | 5, _ => exact mm_VL.mono (b := ((0, 0).1 + 8 * n, (0, 0).2 + 880 * n)) (by show _ ≤ 8 * (n + 1); omega) (by show _ ≤ 880 * (n + 1); omega) (lcs_5 (b := (8 * n, 880 * n)) hI op5 hi hL K Ih)
      | 6, _ => exact mm_VL.mono (b := ((0, 0).1 + 8 * n, (0, 0).2 + 880 * n)) (by show _ ≤ 8 * (n + 1); omega) (by show _ ≤ 880 * (n + 1); omega) (lcs_6 (b := (8 * n, 880 * n)) hI op6 hi hL K Ih)
      | 7, _ => exact mm_VL.mono (b := ((0, 0).1 + 8 * n, (0, 0).2 + 880 * n)) (by show _ ≤ 8 * (n + 1); omega) (by show _ ≤ 880 * (n + 1); omega) (lcs_7 (b := (8 * n, 880 * n)) hI op7 hi hL K Ih)
      | 8, _ => exact mm_VL.mono (b := ((0, 0).1 + 8 * n, (0, 0).2 + 880 * n)) (by show _ ≤ 8 * (n + 1); omega) (by show _ ≤ 880 * (n + 1); omega) (lcs_8 (b := (8 * n, 880 * n)) hI op8 hi hL K Ih)
      | 9, _ => exact mm_VL.mono (b := ((0, 0).1 + 8 * n, (0, 0).2 + 880 * n)) (by show _ ≤ 8 * (n + 1); omega) (by show _ ≤ 880 * (n + 1); omega) (lcs_9 (b := (8 * n, 880 * n)) hI op9 hi hL K Ih)
      | 10, _ => exact mm_VL.mono (b := ((8, 880).1 + 8 * n, (8, 880).2 + 880 * n)) (by show _ ≤ 8 * (n + 1); omega) (by show _ ≤ 880 * (n + 1); omega) (lcs_10 (b := (8 * n, 880 * n)) hI op10 hi hL K Ih)
      | 11, _ => exact mm_VL.mono (b := ((0, 0).1 + 8 * n, (0, 0).2 + 880 * n)) (by show _ ≤ 8 * (n + 1); omega) (by show _ ≤ 880 * (n + 1); omega) (lcs_11 (b := (8 * n, 880 * n)) hI op11 hi hL K Ih)
      | 12, _ => exact mm_VL.mono (b := ((0, 0).1 + 8 * n, (0, 0).2 + 880 * n)) (by show _ ≤ 8 * (n + 1); omega) (by show _ ≤ 880 * (n + 1); omega) (lcs_12 (b := (8 * n, 880 * n)) hI op12 hi hL K Ih)
      | 13, _ => exact mm_VL.mono (b := ((0, 0).1 + 8 * n, (0, 0).2 + 880 * n)) (by show _ ≤ 8 * (n + 1); omega) (by show _ ≤ 880 * (n + 1); omega) (lcs_13 (b := (8 * n, 880 * n)) hI op13 hi hL K Ih)
      | 14, _ => exact mm_VL.mono (b := ((0, 0).1 + 8 * n, (0, 0).2 + 880 * n)) (by show _ ≤ 8 * (n + 1); omega) (by show _ ≤ 880 * (n + 1); omega) (lcs_14 (b := (8 * n, 880 * n)) hI op14 hi hL K Ih)
      | 15, _ => exact mm_VL.mono (b := ((0, 0).1 + 8 * n, (0, 0).2 + 880 * n)) (by show _ ≤ 8 * (n + 1); omega) (by show _ ≤ 880 * (n + 1); omega) (lcs_15 (b := (8 * n, 880 * n)) hI op15 hi hL K Ih)
      | 16, _ => exact mm_VL.mono (b := ((0, 0).1 + 8 * n, (0, 0).2 + 880 * n)) (by show _ ≤ 8 * (n + 1); omega) (by show _ ≤ 880 * (n + 1); omega) (lcs_16 (b := (8 * n, 880 * n)) hI op16 hi hL K Ih)
      | 17, _ => exact mm_VL.mono (b := ((0, 0).1 + 8 * n, (0, 0).2 + 880 * n)) (by show _ ≤ 8 * (n + 1); omega) (by show _ ≤ 880 * (n + 1); omega) (lcs_17 (b := (8 * n, 880 * n)) hI op17 hi hL K Ih)
      | 18, _ => exact mm_VL.mono (b := ((0, 0).1 + 8 * n, (0, 0).2 + 880 * n)) (by show _ ≤ 8 * (n + 1); omega) (by show _ ≤ 880 * (n + 1); omega) (lcs_18 (b := (8 * n, 880 * n)) hI op18 hi hL K Ih)
      | 19, _ => exact mm_VL.mono (b := ((0, 0).1 + 8 * n, (0, 0).2 + 880 * n)) (by show _ ≤ 8 * (n + 1); omega) (by show _ ≤ 880 * (n + 1); omega) (lcs_19 (b := (8 * n, 880 * n)) hI op19 hi hL K Ih)
      | 20, _ => exact mm_VL.mono (b := ((0, 0).1 + 8 * n, (0, 0).2 + 880 * n)) (by show _ ≤ 8 * (n + 1); omega) (by show _ ≤ 880 * (n + 1); omega) (lcs_20 (b := (8 * n, 880 * n)) hI op20 hi hL K Ih)
      | 21, _ => exact mm_VL.mono (b := ((0, 0).1 + 8 * n, (0, 0).2 + 880 * n)) (by show _ ≤ 8 * (n + 1); omega) (by show _ ≤ 880 * (n + 1); omega) (lcs_21 (b := (8 * n, 880 * n)) hI op21 hi hL K Ih)
      | 22, _ => exact mm_VL.mono (b := ((0, 0).1 + 8 * n, (0, 0).2 + 880 * n)) (by show _ ≤ 8 * (n + 1); omega) (by show _ ≤ 880 * (n + 1); omega) (lcs_22 (b := (8 * n, 880 * n)) hI op22 hi hL K Ih)
      | 23, _ => exact mm_VL.mono (b := ((0, 0).1 + 8 * n, (0, 0).2 + 880 * n)) (by show _ ≤ 8 * (n + 1); omega) (by show _ ≤ 880 * (n + 1); omega) (lcs_23 (b := (8 * n, 880 * n)) hI op23 hi hL K Ih)
      | 24, _ => exact mm_VL.mono (b := ((0, 0).1 + 8 * n, (0, 0).2 + 880 * n)) (by show _ ≤ 8 * (n + 1); omega) (by show _ ≤ 880 * (n + 1); omega) (lcs_24 (b := (8 * n, 880 * n)) hI op24 hi hL K Ih)
      | 25, _ => exact mm_VL.mono (b := ((0, 0).1 + 8 * n, (0, 0).2 + 880 * n)) (by show _ ≤ 8 * (n + 1); omega) (by show _ ≤ 880 * (n + 1); omega) (lcs_25 (b := (8 * n, 880 * n)) hI op25 hi hL K Ih)
      | 26, _ => exact mm_VL.mono (b := ((0, 0).1 + 8 * n, (0, 0).2 + 880 * n)) (by show _ ≤ 8 * (n + 1); omega) (by show _ ≤ 880 * (n + 1); omega) (lcs_26 (b := (8 * n, 880 * n)) hI op26 hi hL K Ih)
      | 27, _ => exact mm_VL.mono (b := ((0, 0).1 + 8 * n, (0, 0).2 + 880 * n)) (by show _ ≤ 8 * (n + 1); omega) (by show _ ≤ 880 * (n + 1); omega) (lcs_27 (b := (8 * n, 880 * n)) hI op27 hi hL K Ih)
      | 28, _ => exact mm_VL.mono (b := ((0, 0).1 + 8 * n, (0, 0).2 + 880 * n)) (by show _ ≤ 8 * (n + 1); omega) (by show _ ≤ 880 * (n + 1); omega) (lcs_28 (b := (8 * n, 880 * n)) hI op28 hi hL K Ih)
      | 29, _ => exact mm_VL.mono (b := ((0, 0).1 + 8 * n, (0, 0).2 + 880 * n)) (by show _ ≤ 8 * (n + 1); omega) (by show _ ≤ 880 * (n + 1); omega) (lcs_29 (b := (8 * n, 880 * n)) hI op29 hi hL K Ih)
      | 30, _ => exact mm_VL.mono (b := ((0, 0).1 + 8 * n, (0, 0).2 + 880 * n)) (by show _ ≤ 8 * (n + 1); omega) (by show _ ≤ 880 * (n + 1); omega) (lcs_30 (b := (8 * n, 880 * n)) hI op30 hi hL K Ih)
      | 31, _ => exact mm_VL.mono (b := ((0, 0).1 + 8 * n, (0, 0).2 + 880 * n)) (by show _ ≤ 8 * (n + 1); omega) (by show _ ≤ 880 * (n + 1); omega) (lcs_31 (b := (8 * n, 880 * n)) hI op31 hi hL K Ih)
      | 32, _ => exact mm_VL.mono (b := ((0, 0).1 + 8 * n, (0, 0).2 + 880 * n)) (by show _ ≤ 8 * (n + 1); omega) (by show _ ≤ 880 * (n + 1); omega) (lcs_32 (b := (8 * n, 880 * n)) hI op32 hi hL K Ih)
      | 33, _ => exact mm_VL.mono (b := ((0, 0).1 + 8 * n, (0, 0).2 + 880 * n)) (by show _ ≤ 8 * (n + 1); omega) (by show _ ≤ 880 * (n + 1); omega) (lcs_33 (b := (8 * n, 880 * n)) hI op33 hi hL K Ih)
      | 34, _ => exact mm_VL.mono (b := ((0, 0).1 + 8 * n, (0, 0).2 + 880 * n)) (by show _ ≤ 8 * (n + 1); omega) (by show _ ≤ 880 * (n + 1); omega) (lcs_34 (b := (8 * n, 880 * n)) hI op34 hi hL K Ih)
      | 35, _ => exact mm_VL.mono (b := ((0, 0).1 + 8 * n, (0, 0).2 + 880 * n)) (by show _ ≤ 8 * (n + 1); omega) (by show _ ≤ 880 * (n + 1); omega) (lcs_35 (b := (8 * n, 880 * n)) hI op35 hi hL K Ih)
      | 36, _ => exact mm_VL.mono (b := ((0, 0).1 + 8 * n, (0, 0).2 + 880 * n)) (by show _ ≤ 8 * (n + 1); omega) (by show _ ≤ 880 * (n + 1); omega) (lcs_36 (b := (8 * n, 880 * n)) hI op36 hi hL K Ih)
      | 37, _ => exact mm_VL.mono (b := ((0, 0).1 + 8 * n, (0, 0).2 + 880 * n)) (by show _ ≤ 8 * (n + 1); omega) (by show _ ≤ 880 * (n + 1); omega) (lcs_37 (b := (8 * n, 880 * n)) hI op37 hi hL K Ih)
      | 38, _ => exact mm_VL.mono (b := ((0, 0).1 + 8 * n, (0, 0).2 + 880 * n)) (by show _ ≤ 8 * (n + 1); omega) (by show _ ≤ 880 * (n + 1); omega) (lcs_38 (b := (8 * n, 880 * n)) hI op38 hi hL K Ih)
      | j + 39, hj => exact absurd hj (by simp)
