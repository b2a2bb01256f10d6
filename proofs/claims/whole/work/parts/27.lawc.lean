/-! the law's calls -/
theorem vl_cont {L : Nat} {xs : Nat → Int32} {b bb : Nat × Nat} {pc : Nat} {lv : mmL} {rest : List Value} {h : mmH} {p : Program} {l : Launch} {e : Env} {s : State} {m : MethodId} {below : List Frame} {meth : Method} {c : Code} {bA : Nat} {G : mmG} {ρ : Nat → Nat} {H : Heap} {locs : List Loc} {cells slots : Nat} {ls : Array Slot} {st0 : List Value} {a : Array Value}
    (hX : lw_At p s m meth c bA L xs) (hbA : G.2.2 300 = bA) (hG : mm_GK G (fun q => s.heap.size ≤ q) s) (hS : va_S (fun q => s.heap.size ≤ q) s.heap H locs) (hc : cells + (bb.1 + b.1) ≤ 600000) (hm : slots + (bb.2 + b.2) ≤ 7302250) (hl : lv_has ls 4 (mm_al G ρ 0 lv)) (hv : ∀ v, some v ∈ lv → mm_vok h v) (hvs : ∀ v ∈ rest, mm_vok h v)
    (hr : va_Run p l e room_1 s m #[Value.ref bA] below meth c H locs cells slots bb.1 bb.2 (F0 m pc ls st0) (rest.map (mm_tv G ρ)) (mm_Qc G (fun q => s.heap.size ≤ q) ρ (mm_sz h) (fun v h' => mm_VL L xs b (pc + 3) lv (v.toList ++ rest) h') a) (fun q => s.heap.size ≤ q)) :
    W p l e room_1 s m #[Value.ref bA] below meth c H locs cells slots (lw_Z below #[Value.ref bA] s) (F0 m pc ls st0) := by
  refine mm_after hr hS (fun v ρ' h' H1 locs1 g1 g2 g3 g4 g5 g6 => ?_)
  have e1 : (v.map (mm_tv G ρ')).toList ++ rest.map (mm_tv G ρ) = (v.toList ++ rest).map (mm_tv G ρ') := by
    have e2 : rest.map (mm_tv G ρ) = rest.map (mm_tv G ρ') := List.map_congr_left (fun x hx => (mm_tv_eq (hvs x hx) g1).symm)
    rw [e2]
    cases v <;> simp
  rw [e1]
  have mono : ∀ x, mm_vok h x → mm_vok h' x := fun x hx a ha => Nat.lt_of_lt_of_le (hx a ha) g2
  refine g5 p l e s m below meth c bA G ρ' H1 locs1 (cells + bb.1) (slots + bb.2) ls hX hbA hG g6 g3 (by omega) (by omega) (by rw [mm_al_cg g1 lv 0 hv]; exact hl) (fun x hx => mono x (hv x hx)) (fun x hx => ?_)
  rcases List.mem_append.mp hx with hx | hx
  · cases v with
    | none => cases hx
    | some w =>
      have hx2 : x = w := by simpa using hx
      rw [hx2]
      exact g4 w rfl
  · exact mono x (hvs x hx)
section
variable {L : Nat} {xs : Nat → Int32} {b bb b0 : Nat × Nat} {pc idx n : Nat} {lv : mmL} {As rest : List Value} {h : mmH} {a ci : Nat} {q' : mmM}
theorem vl_cv (hd : decode code pc = .ok (.invokevirtual idx, 3)) (hmf : mm_mf q' n) (hi : Cond.instanceMethod q'.1 ∈ mm_tb) (hsel : Cond.selects q'.1.cls q'.1 q'.1 ∈ mm_tb) (hlk : Cond.methodLink R_law idx q'.1 ∈ mm_tb) (hC : ci < 11 ∧ mm_R ci = q'.1.cls) (hn : As.length = n) (hst : (rest.map fun v => v.category).sum ≤ 8) (hb0 : b0.1 = bb.1 + b.1 ∧ b0.2 = bb.2 + b.2) (hk : mm_kd h a = ci) (ha : a < mm_sz h)
    (k : mm_MV q' 1000 bb (.ref a :: As) h (fun v h' => mm_VL L xs b (pc + 3) lv (v.toList ++ rest) h')) : mm_VL L xs b0 pc lv (As.reverse ++ .ref a :: rest) h := by
  intro p l e s m below meth c bA G ρ H locs cells slots ls hX hbA hG hS hR hc hm hl hv hvs
  obtain ⟨hcw, hini, hnm, hpar, hmax, -⟩ := hmf
  have hvA : ∀ v ∈ (.ref a :: As : List Value), mm_vok h v := by
    intro v hv1
    apply hvs
    rcases List.mem_cons.mp hv1 with rfl | h1
    · exact List.mem_append_right _ List.mem_cons_self
    · exact List.mem_append_left _ (List.mem_reverse.mpr h1)
  have hvr : ∀ v ∈ rest, mm_vok h v := fun v h1 => hvs v (List.mem_append_right _ (List.mem_cons_of_mem _ h1))
  have hM := k l G (fun q => s.heap.size ≤ q) ρ hvA
  have hts := lw_tb hX
  have hwd := mm_words hts hcw
  have hrecv := va_recv (q0 := a) hG.1 hR.1 (mm_cl ci hC.1) (by rw [mm_wl_at ha, mm_ce_obj hk hC.1])
  have hPre : PreV s H q'.1.cls (ρ a) (mm_Pc G (fun q => s.heap.size ≤ q) ρ (.ref a :: As) h) (As.map (mm_tv G ρ)) := by
    refine ⟨mm_blind, ?_, fun U hU hW => ⟨rfl, mm_GK.go hW (fun x h1 h2 => by rw [hU]; exact hS.2.1 x h1 h2) hG, by rw [hU]; exact hR, fun x hx => Nat.le_trans hS.1 (by rw [← hU]; exact hx)⟩⟩
    rw [← hC.2]
    exact hrecv
  refine vl_cont (a := (Value.ref (ρ a) :: As.map (mm_tv G ρ)).toArray) (b := b) (bb := bb) hX hbA hG hS (by omega) (by omega) hl hv hvr ?_
  have hfr : (mm_rm 1000 bb).frames + 1 ≤ room_1.frames := by show 1000 + 1 ≤ 2048; decide
  have hlo : 8 + (q'.2.2.1 + 11) + (mm_rm 1000 bb).locals ≤ room_1.locals := by show 8 + (q'.2.2.1 + 11) + 60 * 1000 ≤ 84000; omega
  have hstack : (As.reverse ++ .ref a :: rest : List Value).map (mm_tv G ρ) = (As.map (mm_tv G ρ)).reverse ++ .ref (ρ a) :: rest.map (mm_tv G ρ) := by simp [mm_tv]
  have hsum : ((rest.map (mm_tv G ρ)).map fun v => v.category).sum ≤ 8 := by rw [List.map_map]; simpa [Function.comp_def, mm_tv_cat] using hst
  exact va_runV (g := F0 m pc ls _) ⟨hX.1, hX.2.1, hX.2.2.2.1, hX.2.2.2.2.1, hts⟩ hM ⟨⟨rfl, rfl, hfr, hlo, hwd, List.mem_cons_self, hts _ hcw, hts _ hini, hnm, mm_npar hpar, hts _ hlk⟩, hts _ hi, hts _ hsel⟩ hPre rfl (by simp [hn]) hl.1 hstack (lv_room hsum) hd ⟨show cells + bb.1 ≤ 600000 by omega, show slots + bb.2 ≤ 7302250 by omega⟩
theorem vl_ci (hd : decode code pc = .ok (.invokespecial idx, 3)) (hmf : mm_mf q' n) (hq : q'.1.name = "<init>" ∧ q'.2.2.2 = none) (hi : Cond.instanceMethod q'.1 ∈ mm_tb) (hlk : Cond.methodLink R_law idx q'.1 ∈ mm_tb) (hn : As.length = n) (hst : (rest.map fun v => v.category).sum ≤ 8) (hb0 : b0.1 = bb.1 + b.1 ∧ b0.2 = bb.2 + b.2)
    (k : mm_MV q' 1000 bb (.ref a :: As) h (fun v h' => mm_VL L xs b (pc + 3) lv (v.toList ++ rest) h')) : mm_VL L xs b0 pc lv (As.reverse ++ .ref a :: rest) h := by
  intro p l e s m below meth c bA G ρ H locs cells slots ls hX hbA hG hS hR hc hm hl hv hvs
  obtain ⟨hcw, hini, hnm, hpar, hmax, -⟩ := hmf
  have hvA : ∀ v ∈ (.ref a :: As : List Value), mm_vok h v := by
    intro v hv1
    apply hvs
    rcases List.mem_cons.mp hv1 with rfl | h1
    · exact List.mem_append_right _ List.mem_cons_self
    · exact List.mem_append_left _ (List.mem_reverse.mpr h1)
  have hvr : ∀ v ∈ rest, mm_vok h v := fun v h1 => hvs v (List.mem_append_right _ (List.mem_cons_of_mem _ h1))
  have hM := k l G (fun q => s.heap.size ≤ q) ρ hvA
  have hts := lw_tb hX
  have hwd := mm_words hts hcw
  have hPre : PreS s H (mm_Pc G (fun q => s.heap.size ≤ q) ρ (.ref a :: As) h) (.ref (ρ a) :: As.map (mm_tv G ρ)) :=
    ⟨mm_blind, fun U hU hW => ⟨rfl, mm_GK.go hW (fun x h1 h2 => by rw [hU]; exact hS.2.1 x h1 h2) hG, by rw [hU]; exact hR, fun x hx => Nat.le_trans hS.1 (by rw [← hU]; exact hx)⟩⟩
  refine vl_cont (a := (Value.ref (ρ a) :: As.map (mm_tv G ρ)).toArray) (b := b) (bb := bb) hX hbA hG hS (by omega) (by omega) hl hv hvr ?_
  have hfr : (mm_rm 1000 bb).frames + 1 ≤ room_1.frames := by show 1000 + 1 ≤ 2048; decide
  have hlo : 8 + (q'.2.2.1 + 11) + (mm_rm 1000 bb).locals ≤ room_1.locals := by show 8 + (q'.2.2.1 + 11) + 60 * 1000 ≤ 84000; omega
  have hstack : (As.reverse ++ .ref a :: rest : List Value).map (mm_tv G ρ) = (As.map (mm_tv G ρ)).reverse ++ .ref (ρ a) :: rest.map (mm_tv G ρ) := by simp [mm_tv]
  have hsum : ((rest.map (mm_tv G ρ)).map fun v => v.category).sum ≤ 8 := by rw [List.map_map]; simpa [Function.comp_def, mm_tv_cat] using hst
  obtain ⟨y, by1, mx, rt⟩ := q'
  obtain ⟨hq1, hq2⟩ := hq
  dsimp only at hq1 hq2
  subst hq2
  exact va_runI (g := F0 m pc ls _) ⟨hX.1, hX.2.1, hX.2.2.2.1, hX.2.2.2.2.1, hts⟩ hM ⟨⟨rfl, rfl, hfr, hlo, hwd, List.mem_cons_self, hts _ hcw, hts _ hini, hnm, mm_npar hpar, hts _ hlk⟩, hq1, hts _ hi⟩ hPre rfl (by simp [hn]) hl.1 hstack (lv_room hsum) hd ⟨show cells + bb.1 ≤ 600000 by omega, show slots + bb.2 ≤ 7302250 by omega⟩
theorem vl_new {st : List Value} (hd : decode code pc = .ok (.new idx, 3)) (hci : ci < 11) (hcl : Cond.classLink R_law idx (mm_R ci) ∈ mm_tb) (hinst : Cond.instantiable (mm_R ci) (mm_N ci) ∈ mm_tb) (hini : Cond.initialized (mm_R ci) ∈ mm_tb) (hb0 : b0.1 = 1 + b.1 ∧ b0.2 = mm_N ci + b.2)
    (k : mm_VL L xs b (pc + 3) lv (.ref (mm_sz h) :: st) (mm_nw h ci (mm_N ci))) : mm_VL L xs b0 pc lv st h := by
  intro p l e s m below meth c bA G ρ H locs cells slots ls hX hbA hG hS hR hc hm hl hv hvs
  have hts := lw_tb hX
  have hfv : ∀ ρ' : Nat → Nat, (List.range (mm_N ci)).map (mm_fv ρ' (mm_nw h ci (mm_N ci)) (mm_sz h) ci) = (List.range (mm_N ci)).map (fun j => defaultValue (mm_ty ci j)) := by
    intro ρ'
    apply List.map_congr_left
    intro j hj
    rw [mm_dv ci hci j (List.mem_range.mp hj)]
    unfold mm_fv
    rw [mm_gl_nw, mm_gr_nw, mm_gi_nw]
    simp only [if_pos]
    generalize mm_tc (mm_ty ci j) = t
    match t with
    | 0 => rfl
    | 1 => rfl
    | 2 => rfl
    | t + 3 => simp
  refine va_new (ci := ci) (fs := (List.range (mm_N ci)).map (fun j => defaultValue (mm_ty ci j))) (T := mm_T ci) hX.1 hX.2.1 hts (mm_lays ci hci) (mm_ty ci) (mm_tyok ci hci) hX.2.2.2.2.1 (hts _ hcl) (hts _ hinst) (hts _ hini) hG.1 hR.1 hR.2.1 hS (fun _ z => z) (mm_cl ci hci) (fun j hj => by simp [vp_V, hj]) (show cells + 1 ≤ 600000 by omega) (show slots + mm_N ci ≤ 7302250 by omega) hd (fun q0 H1 hP hD hS1 => ?_)
  have hag : ∀ a, a < mm_sz h → (fun z => if z = mm_sz h then q0 else ρ z) a = ρ a := fun a ha => by simp [show a ≠ mm_sz h by omega]
  have mono : ∀ v, mm_vok h v → mm_vok (mm_nw h ci (mm_N ci)) v := fun v hv a ha => by rw [mm_sz_nw]; exact Nat.lt_succ_of_lt (hv a ha)
  rw [mm_wl_new (h' := mm_nw h ci (mm_N ci)) rfl (by rw [mm_ce_obj (by rw [mm_kd_nw, if_pos rfl]) hci, hfv]) (mm_ce_nw hR.2.2)] at hP hD
  have hR1 : mm_RL G (fun q => s.heap.size ≤ q) (fun z => if z = mm_sz h then q0 else ρ z) (mm_nw h ci (mm_N ci)) H1 := ⟨hP, hD, fun a k b ha hb => by
    rw [mm_gr_nw] at hb
    split at hb
    · cases hb
    · rename_i h9
      rw [mm_sz_nw] at ha ⊢
      exact Nat.lt_succ_of_lt (hR.2.2 a k b (by omega) hb)⟩
  have e2 : (.ref q0 :: st.map (mm_tv G ρ) : List Value) = (.ref (mm_sz h) :: st).map (mm_tv G (fun z => if z = mm_sz h then q0 else ρ z)) := by
    have e3 : mm_tv G (fun z => if z = mm_sz h then q0 else ρ z) (.ref (mm_sz h)) = .ref q0 := by show Value.ref (if mm_sz h = mm_sz h then q0 else ρ (mm_sz h)) = _; rw [if_pos rfl]
    have e4 : st.map (mm_tv G (fun z => if z = mm_sz h then q0 else ρ z)) = st.map (mm_tv G ρ) := List.map_congr_left (fun v hv => mm_tv_eq (hvs v hv) hag)
    rw [List.map_cons, e3, e4]
  rw [e2]
  refine k p l e s m below meth c bA G _ H1 locs (cells + 1) (slots + mm_N ci) ls hX hbA hG hS1 hR1 (by omega) (by omega) (by rw [mm_al_cg hag lv 0 hv]; exact hl) (fun v hm => mono v (hv v hm)) (fun v hm => ?_)
  rcases List.mem_cons.mp hm with rfl | hm
  · intro a ha; cases ha; exact Nat.lt_succ_self _
  · exact mono v (hvs v hm)
end
/-- a table switch of the law: the case, or its end -/
theorem vl_sw {L : Nat} {xs : Nat → Int32} {b : Nat × Nat} {pc : Nat} {lv : mmL} {st : List Value} {h : mmH} {x : Int32} {dflt hi : Int} {offs : Array Int} {len tgd : Nat} (hd : decode code pc = .ok (.tableswitch dflt 0 hi offs, len)) (htd : (pc : Int) + dflt = (tgd : Int)) (tg : List Nat) (hlen : (tg.length : Int) = hi + 1) (htg : ∀ j, j < tg.length → ∃ off : Int, offs[j]? = some off ∧ (pc : Int) + off = (tg.getD j 0 : Nat))
    (hk : ∀ j, j < tg.length → x = nI j → mm_VL L xs b (tg.getD j 0) lv st h) (hkd : mm_VL L xs b tgd lv st h) (hL : tg.length < 2 ^ 31) : mm_VL L xs b pc lv (.int x :: st) h := by
  by_cases c : vp_in x tg.length
  · obtain ⟨j, hj, rfl⟩ := vp_in_of c hL
    obtain ⟨off, ho, ht⟩ := htg j hj
    have e : (nI j).toInt = j := nI_toInt (by omega)
    exact vl_pure (fun h1 h2 v hm => h2 v (List.mem_cons_of_mem _ hm)) (fun p l e0 R s m args below meth c G ρ H locs cells slots Z ls hx hb hl kW => lv_tableIn hx hb hd (by omega) (by omega) (by rw [e, show ((j : Int) - 0).toNat = j by omega]; exact ho) ht kW) (hk j hj rfl)
  · rw [vp_in_iff] at c
    exact vl_pure (fun h1 h2 v hm => h2 v (List.mem_cons_of_mem _ hm)) (fun p l e0 R s m args below meth c G ρ H locs cells slots Z ls hx hb hl kW => lv_tableOut hx hb hd (by omega) htd kW) hkd
