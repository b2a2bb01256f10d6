/-! String constants: length and charAt -/
section
variable {d : Nat} {b : Nat × Nat} {h : mmH} {K Q : Option Value → mmH → Prop} {i j : Nat}
theorem t_coder_0 : ∀ (lv : mmL) (st : List Value) (h : mmH), (s_gsc (s_ifeq (mm_V q_J0_coder_7d493 d b Q 13) (s_al 0 (s_scod (s_kret .byte Q))))) lv st h → mm_V q_J0_coder_7d493 d b Q 0 lv st h := v_gsc (pc := 0) (idx := 38) (by decide +kernel) (mm_u3 91 rfl rfl) (v_ifeq (pc := 3) (off := 10) (tgt := 13) (by decide +kernel) (by decide) (fun _ _ _ h => h) (v_aload_n (pc := 6) (k := 0) (by decide +kernel) rfl (v_scod (pc := 7) (idx := 15) (by decide +kernel) (mm_u7 212 rfl rfl) (v_goto (pc := 10) (off := 4) (tgt := 14) (by decide +kernel) (by decide) (v_kret (pc := 14) (by decide +kernel) rfl)))))
theorem sp_coder (hi : i < 10) (k : K (some (.int 0)) h) : mm_MV q_J0_coder_7d493 d (0, 0) [.retAddr i] h K := by
  refine mm_of mf_J0_coder_7d493.2.2.2.2.2 (Nat.le_of_ble_eq_true rfl) (t_coder_0 _ _ _ ?_)
  show ((1 : Int32) = 0 → _) ∧ (¬ (1 : Int32) = 0 → _)
  exact ⟨fun z => absurd z (by decide), fun _ => ⟨hi, by decide, k⟩⟩
theorem t_isLatin1_0 : ∀ (lv : mmL) (st : List Value) (h : mmH), (s_gsc (s_ifeq (mm_V q_J0_isLatin1_aae02 d b Q 17) (s_al 0 (s_scod (s_ifne (mm_V q_J0_isLatin1_aae02 d b Q 17) (s_ic 1 (s_zret Q))))))) lv st h → mm_V q_J0_isLatin1_aae02 d b Q 0 lv st h := v_gsc (pc := 0) (idx := 38) (by decide +kernel) (mm_u3 91 rfl rfl) (v_ifeq (pc := 3) (off := 14) (tgt := 17) (by decide +kernel) (by decide) (fun _ _ _ h => h) (v_aload_n (pc := 6) (k := 0) (by decide +kernel) rfl (v_scod (pc := 7) (idx := 15) (by decide +kernel) (mm_u7 212 rfl rfl) (v_ifne (pc := 10) (off := 7) (tgt := 17) (by decide +kernel) (by decide) (fun _ _ _ h => h) (v_iconst (pc := 13) (n := 1) (by decide +kernel) (by decide) (v_goto (pc := 14) (off := 4) (tgt := 18) (by decide +kernel) (by decide) (v_zret (pc := 18) (by decide +kernel) rfl)))))))
theorem sp_isLatin1 (hi : i < 10) (k : K (some (.int 1)) h) : mm_MV q_J0_isLatin1_aae02 d (0, 0) [.retAddr i] h K := by
  refine mm_of mf_J0_isLatin1_aae02.2.2.2.2.2 (Nat.le_of_ble_eq_true rfl) (t_isLatin1_0 _ _ _ ?_)
  show ((1 : Int32) = 0 → _) ∧ (¬ (1 : Int32) = 0 → _)
  refine ⟨fun z => absurd z (by decide), fun _ => ⟨hi, ?_⟩⟩
  show (¬ (0 : Int32) = 0 → _) ∧ ((0 : Int32) = 0 → _)
  exact ⟨fun z => absurd rfl z, fun _ => ⟨Or.inr rfl, k⟩⟩
theorem t_slength_0 : ∀ (lv : mmL) (st : List Value) (h : mmH), (s_al 0 (s_sval (s_slen (s_al 0 (mm_V q_J0_length_8abf5 d b Q 6))))) lv st h → mm_V q_J0_length_8abf5 d b Q 0 lv st h := v_aload_n (pc := 0) (k := 0) (by decide +kernel) rfl (v_sval (pc := 1) (idx := 9) (by decide +kernel) (mm_u7 211 rfl rfl) (v_slen (pc := 4) (by decide +kernel) (v_aload_n (pc := 5) (k := 0) (by decide +kernel) rfl (fun _ _ _ h => h))))
theorem t_slength_9 : ∀ (lv : mmL) (st : List Value) (h : mmH), (s_ishr (s_iret Q)) lv st h → mm_V q_J0_length_8abf5 d b Q 9 lv st h := v_ishr (pc := 9) (by decide +kernel) (v_iret (pc := 10) (by decide +kernel) rfl)
theorem sk_shr : ∀ i, i < 10 → nI (skL i) >>> ((0 : Int32) &&& 31) = nI (skL i) := by decide +kernel
theorem sp_slength (hi : i < 10) (k : K (some (.int (nI (skL i)))) h) : mm_MV q_J0_length_8abf5 (d + 1) (0, 0) [.retAddr i] h K := by
  refine mm_of mf_J0_length_8abf5.2.2.2.2.2 (Nat.le_of_ble_eq_true rfl) (t_slength_0 _ _ _ ?_)
  refine ⟨hi, i, rfl, hi, ?_⟩
  refine v_cvS (idx := 335) (As := []) (rest := [.int (nI (skL i))]) (bb := (0, 0)) (b := (0, 0)) (by decide +kernel) mf_J0_coder_7d493 im_J0_coder_7d493 se_J0_coder_7d493 (Or.inl (mm_u3 87 rfl rfl)) rfl hi rfl (Nat.le_of_ble_eq_true rfl) ⟨rfl, rfl⟩ (sp_coder hi ?_)
  refine t_slength_9 _ _ _ ?_
  show K (some (.int (nI (skL i) >>> ((0 : Int32) &&& 31)))) h
  rw [sk_shr i hi]
  exact k
theorem t_pcheck_0 : ∀ (lv : mmL) (st : List Value) (h : mmH), (s_il 0 (s_iflt (mm_V q_J3_checkIndex_8e157 d b Q 9) (s_il 0 (s_il 1 (s_iclt (s_il 0 (s_iret Q)) (mm_V q_J3_checkIndex_8e157 d b Q 9)))))) lv st h → mm_V q_J3_checkIndex_8e157 d b Q 0 lv st h := v_iload_n (pc := 0) (k := 0) (by decide +kernel) rfl (v_iflt (pc := 1) (off := 8) (tgt := 9) (by decide +kernel) (by decide) (fun _ _ _ h => h) (v_iload_n (pc := 4) (k := 0) (by decide +kernel) rfl (v_iload_n (pc := 5) (k := 1) (by decide +kernel) rfl (v_iclt (pc := 6) (off := 10) (tgt := 16) (by decide +kernel) (by decide) (v_iload_n (pc := 16) (k := 0) (by decide +kernel) rfl (v_iret (pc := 17) (by decide +kernel) rfl)) (fun _ _ _ h => h)))))
theorem sp_pcheck {m : Nat} {f : Value} (hf : f = .null ∨ f = .retAddr 200) (hj : j < m) (hm : m < 2 ^ 31) (k : K (some (.int (nI j))) h) : mm_MV q_J3_checkIndex_8e157 d (0, 0) [.int (nI j), .int (nI m), f] h K := by
  rcases hf with rfl | rfl
  · refine mm_of mf_J3_checkIndex_8e157.2.2.2.2.2 (Nat.le_of_ble_eq_true rfl) (t_pcheck_0 _ _ _ ?_)
    show (nI j < 0 → _) ∧ (¬ nI j < 0 → (nI j < nI m → _) ∧ (¬ nI j < nI m → _))
    exact ⟨fun z => absurd z (nI_pos (by omega)), fun _ => ⟨fun _ => k, fun z => absurd (nI_lt hj hm) z⟩⟩
  · refine mm_of mf_J3_checkIndex_8e157.2.2.2.2.2 (Nat.le_of_ble_eq_true rfl) (t_pcheck_0 _ _ _ ?_)
    show (nI j < 0 → _) ∧ (¬ nI j < 0 → (nI j < nI m → _) ∧ (¬ nI j < nI m → _))
    exact ⟨fun z => absurd z (nI_pos (by omega)), fun _ => ⟨fun _ => k, fun z => absurd (nI_lt hj hm) z⟩⟩
theorem t_scheck_0 : ∀ (lv : mmL) (st : List Value) (h : mmH), (s_il 0 (s_il 1 (s_gsf (mm_V q_J0_checkIndex_df160 d b Q 5)))) lv st h → mm_V q_J0_checkIndex_df160 d b Q 0 lv st h := v_iload_n (pc := 0) (k := 0) (by decide +kernel) rfl (v_iload_n (pc := 1) (k := 1) (by decide +kernel) rfl (v_gsf (pc := 2) (idx := 1053) (by decide +kernel) (mm_u3 107 rfl rfl) (fun _ _ _ h => h)))
theorem t_scheck_8 : ∀ (lv : mmL) (st : List Value) (h : mmH), (s_pop (s_vret Q)) lv st h → mm_V q_J0_checkIndex_df160 d b Q 8 lv st h := v_pop (pc := 8) (by decide +kernel) (v_vret (pc := 9) (by decide +kernel) rfl)
theorem sp_scheck {m : Nat} (hj : j < m) (hm : m < 2 ^ 31) (k : K none h) : mm_MV q_J0_checkIndex_df160 (d + 1) (0, 0) [.int (nI j), .int (nI m)] h K := by
  refine mm_of mf_J0_checkIndex_df160.2.2.2.2.2 (Nat.le_of_ble_eq_true rfl) (t_scheck_0 _ _ _ ?_)
  have fin : ∀ f, f = .null ∨ f = .retAddr 200 → mm_V q_J0_checkIndex_df160 (d + 1) (0, 0) K 5 (mm_en [.int (nI j), .int (nI m)] q_J0_checkIndex_df160.2.2.1) [f, .int (nI m), .int (nI j)] h := by
    intro f hf
    refine v_cs (idx := 1059) (As := [.int (nI j), .int (nI m), f]) (rest := []) (bb := (0, 0)) (b := (0, 0)) (by decide +kernel) mf_J3_checkIndex_8e157 st_J3_checkIndex_8e157 (Or.inl (mm_u3 109 rfl rfl)) rfl (Nat.le_of_ble_eq_true rfl) ⟨rfl, rfl⟩ (sp_pcheck hf hj hm ?_)
    refine t_scheck_8 _ _ _ ?_
    exact ⟨rfl, k⟩
  exact ⟨fin _ (Or.inl rfl), fin _ (Or.inr rfl)⟩
theorem t_lcharAt_0 : ∀ (lv : mmL) (st : List Value) (h : mmH), (s_il 1 (s_al 0 (s_slen (mm_V q_J1_charAt_3b067 d b Q 3)))) lv st h → mm_V q_J1_charAt_3b067 d b Q 0 lv st h := v_iload_n (pc := 0) (k := 1) (by decide +kernel) rfl (v_aload_n (pc := 1) (k := 0) (by decide +kernel) rfl (v_slen (pc := 2) (by decide +kernel) (fun _ _ _ h => h)))
theorem t_lcharAt_6 : ∀ (lv : mmL) (st : List Value) (h : mmH), (s_al 0 (s_il 1 (s_sbyt (s_ic 255 (s_iand (s_i2c (s_kret .char Q))))))) lv st h → mm_V q_J1_charAt_3b067 d b Q 6 lv st h := v_aload_n (pc := 6) (k := 0) (by decide +kernel) rfl (v_iload_n (pc := 7) (k := 1) (by decide +kernel) rfl (v_sbyt (pc := 8) (by decide +kernel) (v_sipush (pc := 9) (n := 255) (by decide +kernel) (by decide) (v_iand (pc := 12) (by decide +kernel) (v_i2c (pc := 13) (by decide +kernel) (v_kret (pc := 14) (by decide +kernel) rfl))))))
theorem sk_len : ∀ i, i < 10 → skL i < 100 := by decide +kernel
theorem sk_chr : ∀ i, i < 10 → ∀ j, j < skL i → ((skB i j &&& 255).toUInt32 % 65536).toInt32 = skB i j ∧ narrow .char (.int (skB i j)) = .int (skB i j) := by decide +kernel
theorem sp_lcharAt (hi : i < 10) (hj : j < skL i) (k : K (some (.int (skB i j))) h) : mm_MV q_J1_charAt_3b067 (d + 2) (0, 0) [.retAddr (100 + i), .int (nI j)] h K := by
  have l100 := sk_len i hi
  obtain ⟨c1, c2⟩ := sk_chr i hi j hj
  refine mm_of mf_J1_charAt_3b067.2.2.2.2.2 (Nat.le_of_ble_eq_true rfl) (t_lcharAt_0 _ _ _ ?_)
  refine ⟨i, rfl, hi, ?_⟩
  refine v_cs (idx := 9) (As := [.int (nI j), .int (nI (skL i))]) (rest := []) (bb := (0, 0)) (b := (0, 0)) (by decide +kernel) mf_J0_checkIndex_df160 st_J0_checkIndex_df160 (Or.inl (mm_u3 104 rfl rfl)) rfl (Nat.le_of_ble_eq_true rfl) ⟨rfl, rfl⟩ (sp_scheck hj (by omega) ?_)
  refine t_lcharAt_6 _ _ _ ?_
  refine ⟨i, rfl, ⟨hi, vp_in_nI hj (by omega)⟩, ?_⟩
  show narrow .char (.int ((skB i (nI j).toNatClampNeg &&& 255).toUInt32 % 65536).toInt32) = _ ∧ K (some (.int ((skB i (nI j).toNatClampNeg &&& 255).toUInt32 % 65536).toInt32)) h
  rw [nI_clamp (by omega), c1]
  exact ⟨c2, k⟩
theorem t_charAt_0 : ∀ (lv : mmL) (st : List Value) (h : mmH), (s_al 0 (mm_V q_J0_charAt_5068e d b Q 1)) lv st h → mm_V q_J0_charAt_5068e d b Q 0 lv st h := v_aload_n (pc := 0) (k := 0) (by decide +kernel) rfl (fun _ _ _ h => h)
theorem t_charAt_4 : ∀ (lv : mmL) (st : List Value) (h : mmH), (s_ifeq (mm_V q_J0_charAt_5068e d b Q 16) (s_al 0 (s_sval (s_il 1 (mm_V q_J0_charAt_5068e d b Q 12))))) lv st h → mm_V q_J0_charAt_5068e d b Q 4 lv st h := v_ifeq (pc := 4) (off := 12) (tgt := 16) (by decide +kernel) (by decide) (fun _ _ _ h => h) (v_aload_n (pc := 7) (k := 0) (by decide +kernel) rfl (v_sval (pc := 8) (idx := 9) (by decide +kernel) (mm_u7 211 rfl rfl) (v_iload_n (pc := 11) (k := 1) (by decide +kernel) rfl (fun _ _ _ h => h))))
theorem t_charAt_15 : ∀ (lv : mmL) (st : List Value) (h : mmH), (s_kret .char Q) lv st h → mm_V q_J0_charAt_5068e d b Q 15 lv st h := v_kret (pc := 15) (by decide +kernel) rfl
theorem sp_charAt (hi : i < 10) (hj : j < skL i) (k : K (some (.int (skB i j))) h) : mm_MV q_J0_charAt_5068e (d + 3) (0, 0) [.retAddr i, .int (nI j)] h K := by
  refine mm_of mf_J0_charAt_5068e.2.2.2.2.2 (Nat.le_of_ble_eq_true rfl) (t_charAt_0 _ _ _ ?_)
  refine v_cvS (idx := 492) (As := []) (rest := []) (bb := (0, 0)) (b := (0, 0)) (by decide +kernel) mf_J0_isLatin1_aae02 im_J0_isLatin1_aae02 se_J0_isLatin1_aae02 (Or.inl (mm_u3 97 rfl rfl)) rfl hi rfl (Nat.le_of_ble_eq_true rfl) ⟨rfl, rfl⟩ (sp_isLatin1 hi ?_)
  refine t_charAt_4 _ _ _ ?_
  show ((1 : Int32) = 0 → _) ∧ (¬ (1 : Int32) = 0 → _)
  refine ⟨fun z => absurd z (by decide), fun _ => ⟨hi, ?_⟩⟩
  refine v_cs (idx := 495) (As := [.retAddr (100 + i), .int (nI j)]) (rest := []) (bb := (0, 0)) (b := (0, 0)) (by decide +kernel) mf_J1_charAt_3b067 st_J1_charAt_3b067 (Or.inl (mm_u3 101 rfl rfl)) rfl (Nat.le_of_ble_eq_true rfl) ⟨rfl, rfl⟩ (sp_lcharAt hi hj ?_)
  exact t_charAt_15 _ _ _ ⟨(sk_chr i hi j hj).2, k⟩
end
