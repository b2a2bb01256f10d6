/-! String constants: length, charAt -/
def skL (i : Nat) : Nat := (mm_sk.map (fun x => x.2.2.2.length)).getD i 0
def skB (i j : Nat) : Int32 := ((mm_sk.map (fun x => x.2.2.2)).getD i []).getD j 0
def s_sval (K : mmK) : mmK := fun lv st h => match st with
  | .retAddr i :: r => i < 10 ∧ K lv (.retAddr (100 + i) :: r) h
  | _ => False
def s_scod (K : mmK) : mmK := fun lv st h => match st with
  | .retAddr i :: r => i < 10 ∧ K lv (.int 0 :: r) h
  | _ => False
def s_slen (K : mmK) : mmK := fun lv st h => match st with
  | .retAddr j :: r => ∃ i, j = 100 + i ∧ i < 10 ∧ K lv (.int (nI (skL i)) :: r) h
  | _ => False
def s_sbyt (K : mmK) : mmK := fun lv st h => match st with
  | .int x :: .retAddr j :: r => ∃ i, j = 100 + i ∧ (i < 10 ∧ vp_in x (skL i)) ∧ K lv (.int (skB i x.toNatClampNeg) :: r) h
  | _ => False
section
variable {q q' : mmM} {d n idx pc : Nat} {b bb b0 : Nat × Nat} {Q : Option Value → mmH → Prop} {K : mmK}
theorem v_sval (hd : decode q.2.1 pc = .ok (.getfield idx, 3)) (hlk : Cond.fieldLink q.1.cls idx "java/lang/String" "value" "[B" ∈ mm_tb) (hK : ∀ lv st h, K lv st h → mm_V q d b Q (pc + 3) lv st h) (lv : mmL) (st : List Value) (h : mmH) (hs : s_sval K lv st h) : mm_V q d b Q pc lv st h := by
  unfold s_sval at hs
  split at hs
  · rename_i i r
    intro p l e R s m args below meth c G A ρ ρ0 n0 H locs cells slots MC MS ls hX hS hR hn hρ hc hm hl hv hvs
    exact vk_getf hX.1.1 hX.1.2.1 (hX.2.2.2.2.1.2.1.1 i hs.1).2.2.1 hS hX.1.2.2.2.1 (hX.1.2.2.2.2 _ hlk) (fun x h => h) hd (hK _ _ _ hs.2 p l e R s m args below meth c G A ρ ρ0 n0 H locs cells slots MC MS ls hX hS hR hn hρ hc hm hl hv (fun v hm => by
      rcases List.mem_cons.mp hm with rfl | hm
      · exact mm_vok_s _ _
      · exact hvs v (List.mem_cons_of_mem _ hm)))
  · exact hs.elim
theorem v_scod (hd : decode q.2.1 pc = .ok (.getfield idx, 3)) (hlk : Cond.fieldLink q.1.cls idx "java/lang/String" "coder" "B" ∈ mm_tb) (hK : ∀ lv st h, K lv st h → mm_V q d b Q (pc + 3) lv st h) (lv : mmL) (st : List Value) (h : mmH) (hs : s_scod K lv st h) : mm_V q d b Q pc lv st h := by
  unfold s_scod at hs
  split at hs
  · rename_i i r
    intro p l e R s m args below meth c G A ρ ρ0 n0 H locs cells slots MC MS ls hX hS hR hn hρ hc hm hl hv hvs
    exact vk_getf hX.1.1 hX.1.2.1 (hX.2.2.2.2.1.2.1.1 i hs.1).2.1 hS hX.1.2.2.2.1 (hX.1.2.2.2.2 _ hlk) (fun x h => h) hd (hK _ _ _ hs.2 p l e R s m args below meth c G A ρ ρ0 n0 H locs cells slots MC MS ls hX hS hR hn hρ hc hm hl hv (fun v hm => by
      rcases List.mem_cons.mp hm with rfl | hm
      · exact mm_vok_i _ _
      · exact hvs v (List.mem_cons_of_mem _ hm)))
  · exact hs.elim
theorem v_slen (hd : decode q.2.1 pc = .ok (.arraylength, 1)) (hK : ∀ lv st h, K lv st h → mm_V q d b Q (pc + 1) lv st h) (lv : mmL) (st : List Value) (h : mmH) (hs : s_slen K lv st h) : mm_V q d b Q pc lv st h := by
  unfold s_slen at hs
  split at hs
  · rename_i j r
    obtain ⟨i, rfl, hi, hs⟩ := hs
    intro p l e R s m args below meth c G A ρ ρ0 n0 H locs cells slots MC MS ls hX hS hR hn hρ hc hm hl hv hvs
    exact va_tlen hX.1.1 hX.1.2.1 (hX.2.2.2.2.1.2.1.1 i hi).2.2.2 hS rfl hd (hK _ _ _ hs p l e R s m args below meth c G A ρ ρ0 n0 H locs cells slots MC MS ls hX hS hR hn hρ hc hm hl hv (fun v hm => by
      rcases List.mem_cons.mp hm with rfl | hm
      · exact mm_vok_i _ _
      · exact hvs v (List.mem_cons_of_mem _ hm)))
  · exact hs.elim
theorem v_sbyt (hd : decode q.2.1 pc = .ok (.baload, 1)) (hK : ∀ lv st h, K lv st h → mm_V q d b Q (pc + 1) lv st h) (lv : mmL) (st : List Value) (h : mmH) (hs : s_sbyt K lv st h) : mm_V q d b Q pc lv st h := by
  unfold s_sbyt at hs
  split at hs
  · rename_i x j r
    obtain ⟨i, rfl, hi, hs⟩ := hs
    intro p l e R s m args below meth c G A ρ ρ0 n0 H locs cells slots MC MS ls hX hS hR hn hρ hc hm hl hv hvs
    exact va_tb hX.1.1 hX.1.2.1 (hX.2.2.2.2.1.2.1.1 i hi.1).2.2.2 hS hi.2 rfl hd (hK _ _ _ hs p l e R s m args below meth c G A ρ ρ0 n0 H locs cells slots MC MS ls hX hS hR hn hρ hc hm hl hv (fun v hm => by
      rcases List.mem_cons.mp hm with rfl | hm
      · exact mm_vok_i _ _
      · exact hvs v (List.mem_cons_of_mem _ (List.mem_cons_of_mem _ hm))))
  · exact hs.elim
/-- a call of a String's method -/
theorem v_cvS {i : Nat} {As rest : List Value} {lv : mmL} {h : mmH} (hd : decode q.2.1 pc = .ok (.invokevirtual idx, 3)) (hmf : mm_mf q' n) (hi : Cond.instanceMethod q'.1 ∈ mm_tb) (hsel : Cond.selects q'.1.cls q'.1 q'.1 ∈ mm_tb) (hlk : mm_lk q.1.cls idx q'.1) (hC : q'.1.cls = "java/lang/String") (hi10 : i < 10) (hn : As.length = n) (hst : (rest.map fun v => v.category).sum ≤ 8) (hb0 : b0.1 = bb.1 + b.1 ∧ b0.2 = bb.2 + b.2)
    (k : mm_MV q' d bb (.retAddr i :: As) h (fun v h' => mm_V q (d + 1) b Q (pc + 3) lv (v.toList ++ rest) h')) : mm_V q (d + 1) b0 Q pc lv (As.reverse ++ .retAddr i :: rest) h := by
  intro p l e R s m args below meth c G A ρ ρ0 n0 H locs cells slots MC MS ls hX hS hR hn0 hρ hc hm hl hv hvs
  obtain ⟨hcw, hini, hnm, hpar, hmax, -⟩ := hmf
  have hvA : ∀ v ∈ (.retAddr i :: As : List Value), mm_vok h v := by
    intro v hv1
    apply hvs
    rcases List.mem_cons.mp hv1 with rfl | h1
    · exact List.mem_append_right _ List.mem_cons_self
    · exact List.mem_append_left _ (List.mem_reverse.mpr h1)
  have hvr : ∀ v ∈ rest, mm_vok h v := fun v h1 => hvs v (List.mem_append_right _ (List.mem_cons_of_mem _ h1))
  have hM := k l G A ρ hvA
  obtain ⟨hfix, hlocks, hret, hname, hG, hA, hrf, hrl, hrc, hrs⟩ := id hX
  have hts := hfix.2.2.2.2
  have hwd := mm_words hts hcw
  have hrecv := vk_recv hG.2.1 hi10 hS
  have hPre : PreV s H q'.1.cls (G.2.2 i) (mm_Pc G A ρ (.retAddr i :: As) h) (As.map (mm_tv G ρ)) := by
    refine ⟨mm_blind, ?_, fun U hU hW => ⟨rfl, mm_GK.go hW (fun x h1 h2 => by rw [hU]; exact hS.2.1 x h1 h2) hG, by rw [hU]; exact hR, fun x hx => hA x (Nat.le_trans hS.1 (by rw [← hU]; exact hx))⟩⟩
    rw [hC]
    exact hrecv
  refine mm_cont (a := (Value.ref (G.2.2 i) :: As.map (mm_tv G ρ)).toArray) (b := b) (bb := bb) hX hS hn0 hρ (by omega) (by omega) hl hv hvr ?_
  have hfr : (mm_rm d bb).frames + 1 ≤ R.frames := hrf
  have hlo : 8 + (q'.2.2.1 + 11) + (mm_rm d bb).locals ≤ R.locals := by show 8 + (q'.2.2.1 + 11) + 60 * d ≤ R.locals; omega
  have hstack : (As.reverse ++ .retAddr i :: rest : List Value).map (mm_tv G ρ) = (As.map (mm_tv G ρ)).reverse ++ .ref (G.2.2 i) :: rest.map (mm_tv G ρ) := by simp [mm_tv]
  have hsum : ((rest.map (mm_tv G ρ)).map fun v => v.category).sum ≤ 8 := by rw [List.map_map]; simpa [Function.comp_def, mm_tv_cat] using hst
  rcases hlk with hlk | ⟨host, hlk⟩
  · exact va_runV (g := F0 m pc ls _) hfix hM ⟨⟨rfl, rfl, hfr, hlo, hwd, List.mem_cons_self, hts _ hcw, hts _ hini, hnm, mm_npar hpar, hts _ hlk⟩, hts _ hi, hts _ hsel⟩ hPre rfl (by simp [hn]) hl.1 hstack (lv_room hsum) hd ⟨by omega, by omega⟩
  · exact va_runVN (g := F0 m pc ls _) hfix hM ⟨⟨⟨rfl, rfl, hfr, hlo, hwd, List.mem_cons_self⟩, hts _ hcw, hts _ hini, hnm, mm_npar hpar, hts _ hlk⟩, hts _ hi, hts _ hsel⟩ hPre rfl (by simp [hn]) hl.1 hstack (lv_room hsum) hd ⟨by omega, by omega⟩
end
