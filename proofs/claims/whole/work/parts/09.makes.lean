/-! cells that are made; the native copy; the rest -/
theorem mm_dv : ∀ ci, ci < 11 → ∀ j, j < mm_N ci → defaultValue (mm_ty ci j) = (if mm_tc (mm_ty ci j) = 1 then .long 0 else if mm_tc (mm_ty ci j) = 2 then .null else .int 0) := by decide +kernel
theorem mm_ce_nw {G : mmG} {ρ : Nat → Nat} {h : mmH} {x y q : Nat} (hr : ∀ a k b, a < mm_sz h → mm_gr h a k = some b → b < mm_sz h) (b : Nat) (hb : b < mm_sz h) : mm_ce G (fun z => if z = mm_sz h then q else ρ z) (mm_nw h x y) b = mm_ce G ρ h b := by
  have hb2 : b ≠ mm_sz h := by omega
  refine mm_ce_cg (by rw [mm_kd_nw, if_neg hb2]) (by rw [mm_ln_nw, if_neg hb2]) (by funext j; rw [mm_gi_nw, if_neg hb2]) (by funext j; rw [mm_gl_nw, if_neg hb2]) (fun k => ?_)
  rw [mm_gr_nw, if_neg hb2]
  cases hg : mm_gr h b k with
  | none => rfl
  | some z =>
    have hz := hr b k z hb hg
    simp [show z ≠ mm_sz h by omega]
/-- behind a making -/
theorem mm_made {q : mmM} {d : Nat} {b : Nat × Nat} {Q : Option Value → mmH → Prop} {pc : Nat} {lv : mmL} {st : List Value} {h : mmH} {x y : Nat} {p : Program} {l : Launch} {e : Env} {R : Room} {s : State} {m : MethodId} {args : Array Value} {below : List Frame} {meth : Method} {c : Code} {G : mmG} {A : Nat → Prop} {ρ ρ0 : Nat → Nat} {n0 : Nat} {H H1 : Heap} {locs : List Loc} {cells slots MC MS : Nat} {ls : Array Slot} {e0 : va_E} {q0 : Nat}
    (k : mm_V q d b Q pc lv (.ref (mm_sz h) :: st) (mm_nw h x y)) (hX : mm_CX p R s m args meth c G A q d MC MS) (hR : mm_RL G A ρ h H) (hn : n0 ≤ mm_sz h) (hρ : ∀ a, a < n0 → ρ a = ρ0 a) (hl : lv_has ls q.2.2.1 (mm_al G ρ 0 lv)) (hv : ∀ v, some v ∈ lv → mm_vok h v) (hvs : ∀ v ∈ st, mm_vok h v)
    (he : mm_ce G (fun z => if z = mm_sz h then q0 else ρ z) (mm_nw h x y) (mm_sz h) = e0) (hP : va_P G.1 vwCl (mm_wl G ρ h ++ [(q0, e0)]) H1) (hD : va_D A (mm_wl G ρ h ++ [(q0, e0)])) (hS1 : va_S A s.heap H1 locs) (hc : cells + b.1 ≤ MC) (hm : slots + b.2 ≤ MS) :
    W p l e R s m args below meth c H1 locs cells slots (MQ below (mm_Qc G A ρ0 n0 Q) args s MC MS A) (F0 m pc ls (.ref q0 :: st.map (mm_tv G ρ))) := by
  have hag : ∀ a, a < mm_sz h → (fun z => if z = mm_sz h then q0 else ρ z) a = ρ a := fun a ha => by simp [show a ≠ mm_sz h by omega]
  have mono : ∀ v, mm_vok h v → mm_vok (mm_nw h x y) v := fun v hv a ha => by rw [mm_sz_nw]; exact Nat.lt_succ_of_lt (hv a ha)
  rw [mm_wl_new (h' := mm_nw h x y) rfl he (mm_ce_nw hR.2.2)] at hP hD
  have hR1 : mm_RL G A (fun z => if z = mm_sz h then q0 else ρ z) (mm_nw h x y) H1 := ⟨hP, hD, fun a k b ha hb => by
    rw [mm_gr_nw] at hb
    split at hb
    · cases hb
    · rename_i h9
      rw [mm_sz_nw] at ha ⊢
      exact Nat.lt_succ_of_lt (hR.2.2 a k b (by omega) hb)⟩
  have e2 : (.ref q0 :: st.map (mm_tv G ρ) : List Value) = (.ref (mm_sz h) :: st).map (mm_tv G (fun z => if z = mm_sz h then q0 else ρ z)) := by
    rw [List.map_cons]
    congr 1
    · simp [mm_tv]
    · exact List.map_congr_left (fun v hv => (mm_tv_eq (hvs v hv) hag).symm)
  rw [e2]
  refine k p l e R s m args below meth c G A _ ρ0 n0 H1 locs cells slots MC MS ls hX hS1 hR1 (by rw [mm_sz_nw]; omega) (fun a ha => (hag a (by omega)).trans (hρ a ha)) hc hm (by rw [mm_al_cg hag lv 0 hv]; exact hl) (fun v hm => mono v (hv v hm)) (fun v hm => ?_)
  rcases List.mem_cons.mp hm with rfl | hm
  · intro a ha; cases ha; exact Nat.lt_succ_self _
  · exact mono v (hvs v hm)
section
variable {q : mmM} {d : Nat} {b b0 : Nat × Nat} {Q : Option Value → mmH → Prop} {pc idx : Nat} {lv : mmL} {st : List Value} {h : mmH}
theorem v_new {ci : Nat} (hd : decode q.2.1 pc = .ok (.new idx, 3)) (hci : ci < 11) (hcl : Cond.classLink q.1.cls idx (mm_R ci) ∈ mm_tb) (hinst : Cond.instantiable (mm_R ci) (mm_N ci) ∈ mm_tb) (hini : Cond.initialized (mm_R ci) ∈ mm_tb) (hb0 : b0.1 = 1 + b.1 ∧ b0.2 = mm_N ci + b.2)
    (k : mm_V q d b Q (pc + 3) lv (.ref (mm_sz h) :: st) (mm_nw h ci (mm_N ci))) : mm_V q d b0 Q pc lv st h := by
  intro p l e R s m args below meth c G A ρ ρ0 n0 H locs cells slots MC MS ls hX hS hR hn hρ hc hm hl hv hvs
  obtain ⟨⟨hx, hb, hml, hown, hts⟩, -, -, -, hG, hA, -, -, hrc, hrs⟩ := id hX
  have hfv : ∀ ρ' : Nat → Nat, (List.range (mm_N ci)).map (mm_fv ρ' (mm_nw h ci (mm_N ci)) (mm_sz h) ci) = (List.range (mm_N ci)).map (fun j => defaultValue (mm_ty ci j)) := by
    intro ρ'
    apply List.map_congr_left
    intro j hj
    rw [mm_dv ci hci j (List.mem_range.mp hj)]
    unfold mm_fv
    rw [mm_gl_nw, mm_gr_nw, mm_gi_nw]
    simp only [if_pos]
    generalize mm_tc (mm_ty ci j) = t
    match t with
    | 0 => rfl
    | 1 => rfl
    | 2 => rfl
    | t + 3 => simp
  refine va_new (ci := ci) (fs := (List.range (mm_N ci)).map (fun j => defaultValue (mm_ty ci j))) (T := mm_T ci) hx hb hts (mm_lays ci hci) (mm_ty ci) (mm_tyok ci hci) hown (hts _ hcl) (hts _ hinst) (hts _ hini) hG.1 hR.1 hR.2.1 hS hA (mm_cl ci hci) (fun j hj => by simp [vp_V, hj]) (by omega) (by omega) hd (fun q0 H1 hP hD hS1 => ?_)
  exact mm_made k hX hR hn hρ hl hv hvs (by rw [mm_ce_obj (by rw [mm_kd_nw, if_pos rfl]) hci, hfv]) hP hD hS1 (by omega) (by omega)
theorem v_newi {n : Int32} (hd : decode q.2.1 pc = .ok (.newarray .int, 2)) (harr : Cond.arrayClass .int ∈ mm_tb) (hn0 : ¬ n < 0) (hN : n.toNatClampNeg ≤ 65536) (hb0 : b0.1 = 1 + b.1 ∧ b0.2 = n.toNatClampNeg + b.2)
    (k : mm_V q d b Q (pc + 2) lv (.ref (mm_sz h) :: st) (mm_nw h 100 n.toNatClampNeg)) : mm_V q d b0 Q pc lv (.int n :: st) h := by
  intro p l e R s m args below meth c G A ρ ρ0 n0 H locs cells slots MC MS ls hX hS hR hn hρ hc hm hl hv hvs
  obtain ⟨⟨hx, hb, hml, hown, hts⟩, -, -, -, hG, hA, -, -, hrc, hrs⟩ := id hX
  refine va_newa (a0 := (n.toNatClampNeg, .inl (fun _ => 0))) (atype := .int) (ty := .int) hx hb (hts (Cond.arrayClass .int) harr) rfl hG.1 hR.1 hR.2.1 hS hA (fun _ => rfl) hn0 rfl (by show _ * 4 ≤ _; omega) (by omega) (by omega) hd (fun q0 cA H1 hK hP hD hS1 => ?_)
  have e1 : cA = G.2.1 0 := Option.some.inj ((hK.2 5 (cA, .int) rfl).2.symm.trans (hG.1.2 0 (G.2.1 0, .int) rfl).2)
  subst e1
  refine mm_made k hX hR hn hρ hl hv (fun v hm => hvs v (List.mem_cons_of_mem _ hm)) ?_ hP hD hS1 (by omega) (by omega)
  rw [mm_ce_100 (by rw [mm_kd_nw, if_pos rfl]), mm_ln_nw, if_pos rfl]
  have e2 : mm_gi (mm_nw h 100 n.toNatClampNeg) (mm_sz h) = fun _ => 0 := by funext j; rw [mm_gi_nw, if_pos rfl]
  rw [e2]
theorem v_newz {n : Int32} (hd : decode q.2.1 pc = .ok (.newarray .boolean, 2)) (harr : Cond.arrayClass .boolean ∈ mm_tb) (hn0 : ¬ n < 0) (hN : n.toNatClampNeg ≤ 65536) (hb0 : b0.1 = 1 + b.1 ∧ b0.2 = n.toNatClampNeg + b.2)
    (k : mm_V q d b Q (pc + 2) lv (.ref (mm_sz h) :: st) (mm_nw h 102 n.toNatClampNeg)) : mm_V q d b0 Q pc lv (.int n :: st) h := by
  intro p l e R s m args below meth c G A ρ ρ0 n0 H locs cells slots MC MS ls hX hS hR hn hρ hc hm hl hv hvs
  obtain ⟨⟨hx, hb, hml, hown, hts⟩, -, -, -, hG, hA, -, -, hrc, hrs⟩ := id hX
  refine va_newa (a0 := (n.toNatClampNeg, .inl (fun _ => 0))) (atype := .boolean) (ty := .boolean) hx hb (hts (Cond.arrayClass .boolean) harr) rfl hG.1 hR.1 hR.2.1 hS hA (fun _ => rfl) hn0 rfl (by show _ * 1 ≤ _; omega) (by omega) (by omega) hd (fun q0 cA H1 hK hP hD hS1 => ?_)
  have e1 : cA = G.2.1 2 := Option.some.inj ((hK.2 5 (cA, .boolean) rfl).2.symm.trans (hG.1.2 2 (G.2.1 2, .boolean) rfl).2)
  subst e1
  refine mm_made k hX hR hn hρ hl hv (fun v hm => hvs v (List.mem_cons_of_mem _ hm)) ?_ hP hD hS1 (by omega) (by omega)
  rw [mm_ce_102 (by rw [mm_kd_nw, if_pos rfl]), mm_ln_nw, if_pos rfl]
  have e2 : mm_gi (mm_nw h 102 n.toNatClampNeg) (mm_sz h) = fun _ => 0 := by funext j; rw [mm_gi_nw, if_pos rfl]
  rw [e2]
theorem v_newl {n : Int32} (hd : decode q.2.1 pc = .ok (.newarray .long, 2)) (harr : Cond.arrayClass .long ∈ mm_tb) (hn0 : ¬ n < 0) (hN : n.toNatClampNeg ≤ 65536) (hb0 : b0.1 = 1 + b.1 ∧ b0.2 = n.toNatClampNeg + b.2)
    (k : mm_V q d b Q (pc + 2) lv (.ref (mm_sz h) :: st) (mm_nw h 101 n.toNatClampNeg)) : mm_V q d b0 Q pc lv (.int n :: st) h := by
  intro p l e R s m args below meth c G A ρ ρ0 n0 H locs cells slots MC MS ls hX hS hR hn hρ hc hm hl hv hvs
  obtain ⟨⟨hx, hb, hml, hown, hts⟩, -, -, -, hG, hA, -, -, hrc, hrs⟩ := id hX
  refine va_newa (a0 := (n.toNatClampNeg, .inr (.inl (fun _ => 0)))) (atype := .long) (ty := .long) hx hb (hts (Cond.arrayClass .long) harr) rfl hG.1 hR.1 hR.2.1 hS hA (fun _ => rfl) hn0 rfl (by show _ * 8 ≤ _; omega) (by omega) (by omega) hd (fun q0 cA H1 hK hP hD hS1 => ?_)
  have e1 : cA = G.2.1 1 := Option.some.inj ((hK.2 5 (cA, .long) rfl).2.symm.trans (hG.1.2 1 (G.2.1 1, .long) rfl).2)
  subst e1
  refine mm_made k hX hR hn hρ hl hv (fun v hm => hvs v (List.mem_cons_of_mem _ hm)) ?_ hP hD hS1 (by omega) (by omega)
  rw [mm_ce_101 (by rw [mm_kd_nw, if_pos rfl]), mm_ln_nw, if_pos rfl]
  have e2 : mm_gl (mm_nw h 101 n.toNatClampNeg) (mm_sz h) = fun _ => 0 := by funext j; rw [mm_gl_nw, if_pos rfl]
  rw [e2]
theorem v_newq {n : Int32} {t ci : Nat} (ht : (t = 103 ∧ ci = 6) ∨ (t = 104 ∧ ci = 1)) (hd : decode q.2.1 pc = .ok (.anewarray idx, 3)) (hcl : Cond.classLink q.1.cls idx (mm_R ci) ∈ mm_tb) (hover : Cond.arrayOver (.object (mm_R ci)) ∈ mm_tb) (hn0 : ¬ n < 0) (hN : n.toNatClampNeg ≤ 65536) (hb0 : b0.1 = 1 + b.1 ∧ b0.2 = n.toNatClampNeg + b.2)
    (k : mm_V q d b Q (pc + 3) lv (.ref (mm_sz h) :: st) (mm_nw h t n.toNatClampNeg)) : mm_V q d b0 Q pc lv (.int n :: st) h := by
  intro p l e R s m args below meth c G A ρ ρ0 n0 H locs cells slots MC MS ls hX hS hR hn hρ hc hm hl hv hvs
  obtain ⟨⟨hx, hb, hml, hown, hts⟩, -, -, -, hG, hA, -, -, hrc, hrs⟩ := id hX
  refine va_newq hx hb hown (hts _ hcl) (va_AO.of (hts _ hover)) hG.1 hR.1 hR.2.1 hS hA hn0 rfl (by omega) (by omega) (by omega) hd (fun q0 cA H1 hK hP hD hS1 => ?_)
  have e2 : (fun k => (mm_gr (mm_nw h t n.toNatClampNeg) (mm_sz h) k).map (fun z => if z = mm_sz h then q0 else ρ z)) = fun _ => none := by funext j; rw [mm_gr_nw, if_pos rfl]; rfl
  obtain ⟨kA, comp, f1, f2, f3, f4⟩ := (hK.2 5 (cA, .object (mm_R ci)) rfl).2
  rcases ht with ⟨rfl, rfl⟩ | ⟨rfl, rfl⟩
  · obtain ⟨kB, comp2, g1, g2, g3, g4⟩ := (hG.1.2 3 (G.2.1 3, .object RX6) rfl).2
    have e1 : cA = G.2.1 3 := Option.some.inj (f4.symm.trans g4)
    subst e1
    refine mm_made k hX hR hn hρ hl hv (fun v hm => hvs v (List.mem_cons_of_mem _ hm)) ?_ hP hD hS1 (by omega) (by omega)
    rw [mm_ce_103 (by rw [mm_kd_nw, if_pos rfl]), mm_ln_nw, if_pos rfl, e2]
  · obtain ⟨kB, comp2, g1, g2, g3, g4⟩ := (hG.1.2 4 (G.2.1 4, .object RX1) rfl).2
    have e1 : cA = G.2.1 4 := Option.some.inj (f4.symm.trans g4)
    subst e1
    refine mm_made k hX hR hn hρ hl hv (fun v hm => hvs v (List.mem_cons_of_mem _ hm)) ?_ hP hD hS1 (by omega) (by omega)
    rw [mm_ce_104 (by rw [mm_kd_nw, if_pos rfl]), mm_ln_nw, if_pos rfl, e2]
theorem v_oinit {a : Nat} (hd : decode q.2.1 pc = .ok (.invokespecial idx, 3)) (hlk : Cond.methodLink q.1.cls idx Lib.objectInit ∈ mm_tb) (hin : Cond.instanceMethod Lib.objectInit ∈ mm_tb) (hco : Cond.code Lib.objectInit ⟨#[0xb1]⟩ 1 none ∈ mm_tb) (hst : (st.map fun v => v.category).sum ≤ 8)
    (k : mm_V q (d + 1) b Q (pc + 3) lv st h) : mm_V q (d + 1) b Q pc lv (.ref a :: st) h := by
  intro p l e R s m args below meth c G A ρ ρ0 n0 H locs cells slots MC MS ls hX hS hR hn hρ hc hm hl hv hvs
  obtain ⟨⟨hx, hb, hml, hown, hts⟩, -, -, -, hG, hA, hrf, hrl, hrc, hrs⟩ := id hX
  have hsum : ((st.map (mm_tv G ρ)).map fun v => v.category).sum ≤ 8 := by rw [List.map_map]; simpa [Function.comp_def, mm_tv_cat] using hst
  exact W.objInit (g := F0 m pc ls _) hx hb hown (hts _ hlk) (hts _ hin) (hts _ hco) rfl (hl.1.trans hml.symm) rfl hd (by omega) (by show 2 * 0 + _ + 12 ≤ _; omega) (k p l e R s m args below meth c G A ρ ρ0 n0 H locs cells slots MC MS ls hX hS hR hn hρ hc hm hl hv (fun v hm => hvs v (List.mem_cons_of_mem _ hm)))
theorem v_copy {a a0 : Nat} {sp dp n : Int32} (hd : decode q.2.1 pc = .ok (.invokestatic idx, 3)) (hlk : Cond.methodLink q.1.cls idx arraycopyName ∈ mm_tb) (hnat : Cond.native arraycopyName ∈ mm_tb) (hsta : Cond.static arraycopyName ∈ mm_tb) (hini : Cond.initialized "java/lang/System" ∈ mm_tb) (hst : (st.map fun v => v.category).sum ≤ 8)
    (hk : mm_kd h a = 100 ∧ a < mm_sz h) (hk0 : mm_kd h a0 = 100 ∧ a0 < mm_sz h) (h1 : ¬ sp < 0) (h2 : ¬ dp < 0) (h3 : ¬ n < 0) (h4 : sp.toNatClampNeg + n.toNatClampNeg ≤ mm_ln h a0) (h5 : dp.toNatClampNeg + n.toNatClampNeg ≤ mm_ln h a)
    (k : mm_V q (d + 1) b Q (pc + 3) lv st (mm_pa h a (va_cpy (mm_gi h a0) (mm_gi h a) sp.toNatClampNeg dp.toNatClampNeg n.toNatClampNeg))) : mm_V q (d + 1) b Q pc lv (.int n :: .int dp :: .ref a :: .int sp :: .ref a0 :: st) h := by
  intro p l e R s m args below meth c G A ρ ρ0 n0 H locs cells slots MC MS ls hX hS hR hn hρ hc hm hl hv hvs
  obtain ⟨⟨hx, hb, hml, hown, hts⟩, -, -, -, hG, hA, hrf, hrl, hrc, hrs⟩ := id hX
  have hsum : ((st.map (mm_tv G ρ)).map fun v => v.category).sum ≤ 8 := by rw [List.map_map]; simpa [Function.comp_def, mm_tv_cat] using hst
  refine va_copyi (ty := .int) hx hb (hml.trans hl.1.symm) hown (hts _ hlk) (hts _ hnat) (hts _ hsta) (hts _ hini) hG.1 hR.1 hR.2.1 hS a0 a 0 0 (by rw [mm_wl_at hk0.2, mm_ce_100 hk0.1]) (by rw [mm_wl_at hk.2, mm_ce_100 hk.1]) rfl rfl rfl h1 h2 h3 h4 h5 (fun _ _ => rfl) (by omega) (Nat.le_trans (Nat.add_le_add_right hsum _) (Nat.le_trans (by decide : 8 + (nativeFrameWords "java/lang/System" "arraycopy" 5 + 11) ≤ 60) (by omega))) hd (fun H1 locs1 hP hD hS1 => ?_)
  have hR1 : mm_RL G A ρ (mm_pa h a (va_cpy (mm_gi h a0) (mm_gi h a) sp.toNatClampNeg dp.toNatClampNeg n.toNatClampNeg)) H1 := mm_RL_upd (h := h) rfl (by rw [mm_ce_100 (show mm_kd (mm_pa h a _) a = 100 from hk.1), show mm_gi (mm_pa h a (va_cpy (mm_gi h a0) (mm_gi h a) sp.toNatClampNeg dp.toNatClampNeg n.toNatClampNeg)) a = va_cpy (mm_gi h a0) (mm_gi h a) sp.toNatClampNeg dp.toNatClampNeg n.toNatClampNeg by funext j; rw [mm_gi_pa, if_pos rfl], mm_ln_pa]) mm_ce_pa hR.2.2 hP hD
  exact k p l e R s m args below meth c G A ρ ρ0 n0 H1 locs1 cells slots MC MS ls hX hS1 hR1 hn hρ hc hm hl hv (fun v hm => hvs v (List.mem_cons_of_mem _ (List.mem_cons_of_mem _ (List.mem_cons_of_mem _ (List.mem_cons_of_mem _ (List.mem_cons_of_mem _ hm))))))
/-- a store into an array of references -/
def s_aast (t ci : Nat) (K : mmK) : mmK := fun lv st h => match st with
  | .ref v :: .int i :: .ref a :: r => (mm_kd h a = t ∧ a < mm_sz h ∧ vp_in i (mm_ln h a)) ∧ (mm_kd h v = ci ∧ v < mm_sz h) ∧ K lv r (mm_pr h a i.toNatClampNeg (some v))
  | .null :: .int i :: .ref a :: r => (mm_kd h a = t ∧ a < mm_sz h ∧ vp_in i (mm_ln h a)) ∧ K lv r (mm_pr h a i.toNatClampNeg none)
  | _ => False
theorem mm_up {ρ : Nat → Nat} {h : mmH} {a k : Nat} {o : Option Nat} : (fun j => (mm_gr (mm_pr h a k o) a j).map ρ) = va_up (fun j => (mm_gr h a j).map ρ) k (o.map ρ) := by
  funext j
  rw [mm_gr_pr]
  by_cases hj : j = k <;> simp [va_up, hj]
theorem v_aast {K : mmK} {t ci : Nat} (ht : (t = 103 ∧ ci = 6) ∨ (t = 104 ∧ ci = 1)) (hd : decode q.2.1 pc = .ok (.aastore, 1)) (hK : ∀ lv st h, K lv st h → mm_V q d b Q (pc + 1) lv st h) (lv : mmL) (st : List Value) (h : mmH) (hs : s_aast t ci K lv st h) : mm_V q d b Q pc lv st h := by
  unfold s_aast at hs
  split at hs
  · rename_i v i a r
    intro p l e R s m args below meth c G A ρ ρ0 n0 H locs cells slots MC MS ls hX hS hR hn hρ hc hm hl hv hvs
    have hrr : ∀ a' k' b', a' < mm_sz h → mm_gr (mm_pr h a i.toNatClampNeg (some v)) a' k' = some b' → b' < mm_sz h := by
      intro a' k' b' g1 g2
      rw [mm_gr_pr] at g2
      split at g2
      · cases g2; exact hs.2.1.2
      · exact hR.2.2 a' k' b' g1 g2
    have fin : ∀ (H1 : Heap) (locs1 : List Loc), mm_RL G A ρ (mm_pr h a i.toNatClampNeg (some v)) H1 → va_S A s.heap H1 locs1 → W p l e R s m args below meth c H1 locs1 cells slots (MQ below (mm_Qc G A ρ0 n0 Q) args s MC MS A) (F0 m (pc + 1) ls (r.map (mm_tv G ρ))) := fun H1 locs1 hR1 hS1 => hK _ _ _ hs.2.2 p l e R s m args below meth c G A ρ ρ0 n0 H1 locs1 cells slots MC MS ls hX hS1 hR1 hn hρ hc hm hl hv (fun v hm => hvs v (List.mem_cons_of_mem _ (List.mem_cons_of_mem _ (List.mem_cons_of_mem _ hm))))
    rcases ht with ⟨rfl, rfl⟩ | ⟨rfl, rfl⟩
    · exact va_astq (r := (mm_R 6, mm_T 6, mm_N 6)) hX.1.1 hX.1.2.1 hX.2.2.2.2.1.1 hR.1 hR.2.1 hS a 3 v 6 (by rw [mm_wl_at hs.1.2.1, mm_ce_103 hs.1.1]) rfl (by rw [mm_wl_at hs.2.1.2, mm_ce_obj hs.2.1.1 (by decide)]) (mm_cl 6 (by decide)) hs.1.2.2 hd (fun H1 locs1 hP hD hS1 => fin H1 locs1 (mm_RL_upd (h := h) rfl (by rw [mm_ce_103 (show mm_kd (mm_pr h a i.toNatClampNeg (some v)) a = 103 from hs.1.1), mm_up, mm_ln_pr]; rfl) mm_ce_pr hrr hP hD) hS1)
    · exact va_astq (r := (mm_R 1, mm_T 1, mm_N 1)) hX.1.1 hX.1.2.1 hX.2.2.2.2.1.1 hR.1 hR.2.1 hS a 4 v 1 (by rw [mm_wl_at hs.1.2.1, mm_ce_104 hs.1.1]) rfl (by rw [mm_wl_at hs.2.1.2, mm_ce_obj hs.2.1.1 (by decide)]) (mm_cl 1 (by decide)) hs.1.2.2 hd (fun H1 locs1 hP hD hS1 => fin H1 locs1 (mm_RL_upd (h := h) rfl (by rw [mm_ce_104 (show mm_kd (mm_pr h a i.toNatClampNeg (some v)) a = 104 from hs.1.1), mm_up, mm_ln_pr]; rfl) mm_ce_pr hrr hP hD) hS1)
  · rename_i i a r
    intro p l e R s m args below meth c G A ρ ρ0 n0 H locs cells slots MC MS ls hX hS hR hn hρ hc hm hl hv hvs
    have hrr : ∀ a' k' b', a' < mm_sz h → mm_gr (mm_pr h a i.toNatClampNeg none) a' k' = some b' → b' < mm_sz h := by
      intro a' k' b' g1 g2
      rw [mm_gr_pr] at g2
      split at g2
      · cases g2
      · exact hR.2.2 a' k' b' g1 g2
    have fin : ∀ (H1 : Heap) (locs1 : List Loc), mm_RL G A ρ (mm_pr h a i.toNatClampNeg none) H1 → va_S A s.heap H1 locs1 → W p l e R s m args below meth c H1 locs1 cells slots (MQ below (mm_Qc G A ρ0 n0 Q) args s MC MS A) (F0 m (pc + 1) ls (r.map (mm_tv G ρ))) := fun H1 locs1 hR1 hS1 => hK _ _ _ hs.2 p l e R s m args below meth c G A ρ ρ0 n0 H1 locs1 cells slots MC MS ls hX hS1 hR1 hn hρ hc hm hl hv (fun v hm => hvs v (List.mem_cons_of_mem _ (List.mem_cons_of_mem _ (List.mem_cons_of_mem _ hm))))
    rcases ht with ⟨rfl, rfl⟩ | ⟨rfl, rfl⟩
    · exact va_astqN hX.1.1 hX.1.2.1 hX.2.2.2.2.1.1 hR.1 hR.2.1 hS a 3 (by rw [mm_wl_at hs.1.2.1, mm_ce_103 hs.1.1]) rfl hs.1.2.2 hd (fun H1 locs1 hP hD hS1 => fin H1 locs1 (mm_RL_upd (h := h) rfl (by rw [mm_ce_103 (show mm_kd (mm_pr h a i.toNatClampNeg none) a = 103 from hs.1.1), mm_up, mm_ln_pr]; rfl) mm_ce_pr hrr hP hD) hS1)
    · exact va_astqN hX.1.1 hX.1.2.1 hX.2.2.2.2.1.1 hR.1 hR.2.1 hS a 4 (by rw [mm_wl_at hs.1.2.1, mm_ce_104 hs.1.1]) rfl hs.1.2.2 hd (fun H1 locs1 hP hD hS1 => fin H1 locs1 (mm_RL_upd (h := h) rfl (by rw [mm_ce_104 (show mm_kd (mm_pr h a i.toNatClampNeg none) a = 104 from hs.1.1), mm_up, mm_ln_pr]; rfl) mm_ce_pr hrr hP hD) hS1)
  · exact hs.elim
/-- a String constant -/
theorem v_ldcs {K : mmK} {i : Nat} {x : String × Nat × String × List Int32} (hd : decode q.2.1 pc = .ok (.ldc idx, 2)) (hi : mm_sk[i]? = some x) (hx : x.1 = q.1.cls ∧ x.2.1 = idx) (hK : ∀ lv st h, K lv st h → mm_V q d b Q (pc + 2) lv st h) (lv : mmL) (st : List Value) (h : mmH) (hs : s_str i K lv st h) : mm_V q d b Q pc lv st h := by
  intro p l e R s m args below meth c G A ρ ρ0 n0 H locs cells slots MC MS ls hX hS hR hn hρ hc hm hl hv hvs
  have hZ := hX.2.2.2.2.1.2.2.2.1 i x hi
  rw [hx.1, hx.2] at hZ
  exact va_ldcS hX.1.1 hX.1.2.1 hX.1.2.2.2.1 hZ hd (hK _ _ _ hs p l e R s m args below meth c G A ρ ρ0 n0 H locs cells slots MC MS ls hX hS hR hn hρ hc hm hl hv (fun v hm => by
    rcases List.mem_cons.mp hm with rfl | hm
    · exact mm_vok_s _ _
    · exact hvs v hm))
end
