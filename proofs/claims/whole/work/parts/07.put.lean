/-! writes to cells, arrays, ends -/
theorem mm_RL_upd {G : mmG} {A : Nat → Prop} {ρ : Nat → Nat} {h h' : mmH} {H1 : Heap} {a : Nat} {e : va_E} (hs : mm_sz h' = mm_sz h) (he : mm_ce G ρ h' a = e) (ho : ∀ b, b ≠ a → mm_ce G ρ h' b = mm_ce G ρ h b) (hr : ∀ a k b, a < mm_sz h → mm_gr h' a k = some b → b < mm_sz h) (hP : va_P G.1 vwCl ((mm_wl G ρ h).set a (ρ a, e)) H1) (hD : va_D A ((mm_wl G ρ h).set a (ρ a, e))) : mm_RL G A ρ h' H1 := by
  rw [mm_wl_set hs he ho] at hP hD
  exact ⟨hP, hD, fun a k b ha hb => by rw [hs] at ha ⊢; exact hr a k b ha hb⟩
/-- behind a write: the same walk over the new picture -/
def mm_pw (q : mmM) (idx ci k : Nat) : Prop := (ci < 11 ∧ k < mm_N ci) ∧ (((mm_T ci k).2.2.2 = false ∧ (Cond.fieldLink q.1.cls idx (mm_T ci k).1 (mm_T ci k).2.1 (mm_T ci k).2.2.1 ∈ mm_tb ∨ ∃ host, Cond.fieldLinkNest q.1.cls idx (mm_T ci k).1 (mm_T ci k).2.1 (mm_T ci k).2.2.1 host ∈ mm_tb)) ∨ ((mm_T ci k).2.2.2 = true ∧ q.1.name = "<init>" ∧ (mm_T ci k).1 = q.1.cls ∧ Cond.fieldLink q.1.cls idx (mm_T ci k).1 (mm_T ci k).2.1 (mm_T ci k).2.2.1 ∈ mm_tb))
theorem mm_putW {q : mmM} {d MC MS pc idx ci k a : Nat} {p : Program} {l : Launch} {e : Env} {R : Room} {s : State} {m : MethodId} {args : Array Value} {below : List Frame} {meth : Method} {c : Code} {G : mmG} {A : Nat → Prop} {ρ : Nat → Nat} {h h' : mmH} {H : Heap} {locs : List Loc} {cells slots : Nat} {Z : State → Prop} {ls : Array Slot} {rest : List Value} {v : Value} (hX : mm_CX p R s m args meth c G A q d MC MS) (hS : va_S A s.heap H locs) (hR : mm_RL G A ρ h H) (hd : decode q.2.1 pc = .ok (.putfield idx, 3)) (hw : mm_pw q idx ci k) (hk : mm_kd h a = ci) (ha : a < mm_sz h)
    (hnar : narrow (mm_ty ci k) v = v) (hfit : fits (mm_ty ci k) v = true)
    (hs : mm_sz h' = mm_sz h) (hk' : mm_kd h' a = ci) (hv : mm_fv ρ h' a ci k = v) (hvo : ∀ j, j ≠ k → mm_fv ρ h' a ci j = mm_fv ρ h a ci j) (ho : ∀ b, b ≠ a → mm_ce G ρ h' b = mm_ce G ρ h b) (hr : ∀ a k b, a < mm_sz h → mm_gr h' a k = some b → b < mm_sz h)
    (kk : ∀ (H1 : Heap) (locs1 : List Loc), mm_RL G A ρ h' H1 → va_S A s.heap H1 locs1 → W p l e R s m args below meth c H1 locs1 cells slots Z (F0 m (pc + 3) ls rest)) : W p l e R s m args below meth c H locs cells slots Z (F0 m pc ls (v :: .ref (ρ a) :: rest)) := by
  obtain ⟨⟨hx, hb, hml, hown, hts⟩, -, -, hnm, hG, -⟩ := hX
  obtain ⟨⟨hci, hkN⟩, hw⟩ := hw
  have he : (mm_wl G ρ h)[a]? = some (ρ a, .inr (ci, (List.range (mm_N ci)).map (mm_fv ρ h a ci))) := by rw [mm_wl_at ha, mm_ce_obj hk hci]
  have hlen : k < ((List.range (mm_N ci)).map (mm_fv ρ h a ci)).length := by simp [hkN]
  have hce : mm_ce G ρ h' a = .inr (ci, ((List.range (mm_N ci)).map (mm_fv ρ h a ci)).set k v) := by rw [mm_ce_obj hk' hci, mm_fs_set hkN hv hvo]
  rcases hw with ⟨hfin, hw | ⟨host, hw⟩⟩ | ⟨hfin, hini, hdec, hw⟩
  · exact va_put (D := G.1) hx hb hts (mm_lays ci hci) (mm_ty ci) (mm_tyok ci hci) (mm_nm ci hci) hown hG.1 hR.1 hR.2.1 hS a he (mm_cl ci hci) k hkN (hts _ hw) (fun _ z => z) hfin (mm_tyok ci hci k hkN) hnar hfit hlen hd (fun H1 locs1 hP hD hS1 => kk H1 locs1 (mm_RL_upd hs hce ho hr hP hD) hS1)
  · exact va_putN (D := G.1) hx hb hts (mm_lays ci hci) (mm_ty ci) (mm_tyok ci hci) (mm_nm ci hci) hown hG.1 hR.1 hR.2.1 hS a he (mm_cl ci hci) k hkN (hts _ hw) (fun _ z => z) hfin (mm_tyok ci hci k hkN) hnar hfit hlen hd (fun H1 locs1 hP hD hS1 => kk H1 locs1 (mm_RL_upd hs hce ho hr hP hD) hS1)
  · exact va_putF (D := G.1) hx hb hts (mm_lays ci hci) (mm_ty ci) (mm_tyok ci hci) (mm_nm ci hci) hown hG.1 hR.1 hR.2.1 hS a he (mm_cl ci hci) k hkN (hts _ hw) (fun _ z => z) hfin (hnm.trans hini) hdec (mm_tyok ci hci k hkN) hnar hfit hlen hd (fun H1 locs1 hP hD hS1 => kk H1 locs1 (mm_RL_upd hs hce ho hr hP hD) hS1)
theorem mm_ce_pi {G : mmG} {ρ : Nat → Nat} {h : mmH} {a k : Nat} {x : Int32} (b : Nat) (hb : b ≠ a) : mm_ce G ρ (mm_pi h a k x) b = mm_ce G ρ h b := mm_ce_cg rfl rfl (by funext j; rw [mm_gi_pi]; simp [hb]) rfl (fun _ => rfl)
theorem mm_ce_pl {G : mmG} {ρ : Nat → Nat} {h : mmH} {a k : Nat} {x : Int64} (b : Nat) (hb : b ≠ a) : mm_ce G ρ (mm_pl h a k x) b = mm_ce G ρ h b := mm_ce_cg rfl rfl rfl (by funext j; rw [mm_gl_pl]; simp [hb]) (fun _ => rfl)
theorem mm_ce_pr {G : mmG} {ρ : Nat → Nat} {h : mmH} {a k : Nat} {x : Option Nat} (b : Nat) (hb : b ≠ a) : mm_ce G ρ (mm_pr h a k x) b = mm_ce G ρ h b := mm_ce_cg rfl rfl rfl rfl (fun j => by rw [mm_gr_pr]; simp [hb])
theorem mm_ce_pa {G : mmG} {ρ : Nat → Nat} {h : mmH} {a : Nat} {f : Nat → Int32} (b : Nat) (hb : b ≠ a) : mm_ce G ρ (mm_pa h a f) b = mm_ce G ρ h b := mm_ce_cg rfl rfl (by funext j; rw [mm_gi_pa]; simp [hb]) rfl (fun _ => rfl)
theorem mm_vok_sz {h h' : mmH} (hs : mm_sz h' = mm_sz h) {v : Value} (hv : mm_vok h v) : mm_vok h' v := fun a e => by rw [hs]; exact hv a e
theorem mm_gi_upd (h : mmH) (a k : Nat) (x : Int32) : mm_gi (mm_pi h a k x) a = upd (mm_gi h a) k x := by funext j; rw [mm_gi_pi]; simp [upd]
theorem mm_gl_upd (h : mmH) (a k : Nat) (x : Int64) : mm_gl (mm_pl h a k x) a = vp_updL (mm_gl h a) k x := by funext j; rw [mm_gl_pl]; simp [vp_updL]
section
variable {q : mmM} {d : Nat} {b : Nat × Nat} {Q : Option Value → mmH → Prop} {pc : Nat} {K : mmK}
def s_pi (ci k : Nat) (K : mmK) : mmK := fun lv st h => match st with
  | .int x :: .ref a :: r => (mm_kd h a = ci ∧ a < mm_sz h) ∧ K lv r (mm_pi h a k x)
  | _ => False
/-- a boolean field -/
def s_pz (ci k : Nat) (K : mmK) : mmK := fun lv st h => match st with
  | .int x :: .ref a :: r => (mm_kd h a = ci ∧ a < mm_sz h) ∧ (x = 0 ∨ x = 1) ∧ K lv r (mm_pi h a k x)
  | _ => False
def s_pl (ci k : Nat) (K : mmK) : mmK := fun lv st h => match st with
  | .long x :: .ref a :: r => (mm_kd h a = ci ∧ a < mm_sz h) ∧ K lv r (mm_pl h a k x)
  | _ => False
def s_pr (ci k : Nat) (K : mmK) : mmK := fun lv st h => match st with
  | .ref x :: .ref a :: r => (mm_kd h a = ci ∧ a < mm_sz h) ∧ K lv r (mm_pr h a k (some x))
  | .null :: .ref a :: r => (mm_kd h a = ci ∧ a < mm_sz h) ∧ K lv r (mm_pr h a k none)
  | _ => False
theorem v_pi {idx ci k : Nat} (hd : decode q.2.1 pc = .ok (.putfield idx, 3)) (hw : mm_pw q idx ci k) (ht : mm_ty ci k = .int) (hK : ∀ lv st h, K lv st h → mm_V q d b Q (pc + 3) lv st h) (lv : mmL) (st : List Value) (h : mmH) (hs : s_pi ci k K lv st h) : mm_V q d b Q pc lv st h := by
  unfold s_pi at hs
  split at hs
  · rename_i x a r
    intro p l e R s m args below meth c G A ρ ρ0 n0 H locs cells slots MC MS ls hX hS hR hn hρ hc hm hl hv hvs
    refine mm_putW (h' := mm_pi h a k x) (v := .int x) hX hS hR hd hw hs.1.1 hs.1.2 (by rw [ht]; rfl) (by rw [ht]; rfl) rfl hs.1.1 (by unfold mm_fv; rw [ht]; show Value.int _ = _; rw [mm_gi_pi]; simp) (fun j hj => ?_) mm_ce_pi hR.2.2 (fun H1 locs1 hR1 hS1 => ?_)
    · unfold mm_fv
      rw [mm_gl_pi, mm_gr_pi, mm_gi_pi]
      simp [hj]
    · exact hK _ _ _ hs.2 p l e R s m args below meth c G A ρ ρ0 n0 H1 locs1 cells slots MC MS ls hX hS1 hR1 hn hρ hc hm hl hv (fun v hm => hvs v (List.mem_cons_of_mem _ (List.mem_cons_of_mem _ hm)))
  · exact hs.elim
theorem v_pz {idx ci k : Nat} (hd : decode q.2.1 pc = .ok (.putfield idx, 3)) (hw : mm_pw q idx ci k) (ht : mm_ty ci k = .boolean) (hK : ∀ lv st h, K lv st h → mm_V q d b Q (pc + 3) lv st h) (lv : mmL) (st : List Value) (h : mmH) (hs : s_pz ci k K lv st h) : mm_V q d b Q pc lv st h := by
  unfold s_pz at hs
  split at hs
  · rename_i x a r
    intro p l e R s m args below meth c G A ρ ρ0 n0 H locs cells slots MC MS ls hX hS hR hn hρ hc hm hl hv hvs
    refine mm_putW (h' := mm_pi h a k x) (v := .int x) hX hS hR hd hw hs.1.1 hs.1.2 (by rw [ht]; rcases hs.2.1 with z | z <;> rw [z] <;> decide) (by rw [ht]; rcases hs.2.1 with z | z <;> rw [z] <;> decide) rfl hs.1.1 (by unfold mm_fv; rw [ht]; show Value.int _ = _; rw [mm_gi_pi]; simp) (fun j hj => ?_) mm_ce_pi hR.2.2 (fun H1 locs1 hR1 hS1 => ?_)
    · unfold mm_fv
      rw [mm_gl_pi, mm_gr_pi, mm_gi_pi]
      simp [hj]
    · exact hK _ _ _ hs.2.2 p l e R s m args below meth c G A ρ ρ0 n0 H1 locs1 cells slots MC MS ls hX hS1 hR1 hn hρ hc hm hl hv (fun v hm => hvs v (List.mem_cons_of_mem _ (List.mem_cons_of_mem _ hm)))
  · exact hs.elim
theorem v_pl {idx ci k : Nat} (hd : decode q.2.1 pc = .ok (.putfield idx, 3)) (hw : mm_pw q idx ci k) (ht : mm_ty ci k = .long) (hK : ∀ lv st h, K lv st h → mm_V q d b Q (pc + 3) lv st h) (lv : mmL) (st : List Value) (h : mmH) (hs : s_pl ci k K lv st h) : mm_V q d b Q pc lv st h := by
  unfold s_pl at hs
  split at hs
  · rename_i x a r
    intro p l e R s m args below meth c G A ρ ρ0 n0 H locs cells slots MC MS ls hX hS hR hn hρ hc hm hl hv hvs
    refine mm_putW (h' := mm_pl h a k x) (v := .long x) hX hS hR hd hw hs.1.1 hs.1.2 (by rw [ht]; rfl) (by rw [ht]; rfl) rfl hs.1.1 (by unfold mm_fv; rw [ht]; show Value.long _ = _; rw [mm_gl_pl]; simp) (fun j hj => ?_) mm_ce_pl hR.2.2 (fun H1 locs1 hR1 hS1 => ?_)
    · unfold mm_fv
      rw [mm_gl_pl, mm_gr_pl, mm_gi_pl]
      simp [hj]
    · exact hK _ _ _ hs.2 p l e R s m args below meth c G A ρ ρ0 n0 H1 locs1 cells slots MC MS ls hX hS1 hR1 hn hρ hc hm hl hv (fun v hm => hvs v (List.mem_cons_of_mem _ (List.mem_cons_of_mem _ hm)))
  · exact hs.elim
theorem v_pr {idx ci k : Nat} (hd : decode q.2.1 pc = .ok (.putfield idx, 3)) (hw : mm_pw q idx ci k) (ht : mm_tc (mm_ty ci k) = 2) (hK : ∀ lv st h, K lv st h → mm_V q d b Q (pc + 3) lv st h) (lv : mmL) (st : List Value) (h : mmH) (hs : s_pr ci k K lv st h) : mm_V q d b Q pc lv st h := by
  have hn0 : ∀ v : Value, narrow (mm_ty ci k) v = v := by
    intro v
    generalize mm_ty ci k = t at ht
    cases t <;> first | (cases ht; done) | (cases v <;> rfl)
  have hf0 : ∀ o : Option Nat, fits (mm_ty ci k) (va_rf o) = true := by
    intro o
    generalize mm_ty ci k = t at ht
    cases t <;> first | (cases ht; done) | (cases o <;> rfl)
  have go : ∀ (o : Option Nat) (a : Nat) (r : List Value), (∀ z, o = some z → va_rf o = .ref z) → st = va_rf o :: .ref a :: r → (mm_kd h a = ci ∧ a < mm_sz h) ∧ K lv r (mm_pr h a k o) → mm_V q d b Q pc lv st h := by
    intro o a r ho0 hst hs2
    clear hs
    subst hst
    intro p l e R s m args below meth c G A ρ ρ0 n0 H locs cells slots MC MS ls hX hS hR hn hρ hc hm hl hv hvs
    have hrr : ∀ a' k' b', a' < mm_sz h → mm_gr (mm_pr h a k o) a' k' = some b' → b' < mm_sz h := by
      intro a' k' b' h1 h2
      rw [mm_gr_pr] at h2
      split at h2
      · exact hvs (va_rf o) List.mem_cons_self b' (ho0 b' h2)
      · exact hR.2.2 a' k' b' h1 h2
    show W p l e R s m args below meth c H locs cells slots _ (F0 m pc ls (mm_tv G ρ (va_rf o) :: .ref (ρ a) :: r.map (mm_tv G ρ)))
    rw [mm_tv_rf]
    refine mm_putW (h' := mm_pr h a k o) (v := va_rf (o.map ρ)) hX hS hR hd hw hs2.1.1 hs2.1.2 (hn0 _) (hf0 _) rfl hs2.1.1 (by unfold mm_fv; rw [ht]; show va_rf _ = _; rw [mm_gr_pr]; simp) (fun j hj => ?_) mm_ce_pr hrr (fun H1 locs1 hR1 hS1 => ?_)
    · unfold mm_fv
      rw [mm_gl_pr, mm_gr_pr, mm_gi_pr]
      simp [hj]
    · exact hK _ _ _ hs2.2 p l e R s m args below meth c G A ρ ρ0 n0 H1 locs1 cells slots MC MS ls hX hS1 hR1 hn hρ hc hm hl hv (fun v hm => hvs v (List.mem_cons_of_mem _ (List.mem_cons_of_mem _ hm)))
  unfold s_pr at hs
  split at hs
  · exact go (some _) _ _ (fun z e => by cases e; rfl) rfl hs
  · exact go none _ _ (fun z e => by cases e) rfl hs
  · exact hs.elim
/-! arrays -/
def s_iald (K : mmK) : mmK := fun lv st h => match st with
  | .int i :: .ref a :: r => (mm_kd h a = 100 ∧ a < mm_sz h ∧ vp_in i (mm_ln h a)) ∧ K lv (.int (mm_gi h a i.toNatClampNeg) :: r) h
  | _ => False
def s_zald (K : mmK) : mmK := fun lv st h => match st with
  | .int i :: .ref a :: r => (mm_kd h a = 102 ∧ a < mm_sz h ∧ vp_in i (mm_ln h a)) ∧ K lv (.int (mm_gi h a i.toNatClampNeg) :: r) h
  | _ => False
def s_lald (K : mmK) : mmK := fun lv st h => match st with
  | .int i :: .ref a :: r => (mm_kd h a = 101 ∧ a < mm_sz h ∧ vp_in i (mm_ln h a)) ∧ K lv (.long (mm_gl h a i.toNatClampNeg) :: r) h
  | _ => False
def s_aald (t : Nat) (K : mmK) : mmK := fun lv st h => match st with
  | .int i :: .ref a :: r => (mm_kd h a = t ∧ a < mm_sz h ∧ vp_in i (mm_ln h a)) ∧ K lv (va_rf (mm_gr h a i.toNatClampNeg) :: r) h
  | _ => False
def s_alen (K : mmK) : mmK := fun lv st h => match st with
  | .ref a :: r => ((mm_kd h a = 100 ∨ mm_kd h a = 101) ∧ a < mm_sz h) ∧ K lv (.int (nI (mm_ln h a)) :: r) h
  | _ => False
def s_iast (K : mmK) : mmK := fun lv st h => match st with
  | .int x :: .int i :: .ref a :: r => (mm_kd h a = 100 ∧ a < mm_sz h ∧ vp_in i (mm_ln h a)) ∧ K lv r (mm_pi h a i.toNatClampNeg x)
  | _ => False
def s_zast (K : mmK) : mmK := fun lv st h => match st with
  | .int x :: .int i :: .ref a :: r => (mm_kd h a = 102 ∧ a < mm_sz h ∧ vp_in i (mm_ln h a)) ∧ (x = 0 ∨ x = 1) ∧ K lv r (mm_pi h a i.toNatClampNeg x)
  | _ => False
def s_last (K : mmK) : mmK := fun lv st h => match st with
  | .long x :: .int i :: .ref a :: r => (mm_kd h a = 101 ∧ a < mm_sz h ∧ vp_in i (mm_ln h a)) ∧ K lv r (mm_pl h a i.toNatClampNeg x)
  | _ => False
theorem v_iald (hd : decode q.2.1 pc = .ok (.iaload, 1)) (hK : ∀ lv st h, K lv st h → mm_V q d b Q (pc + 1) lv st h) (lv : mmL) (st : List Value) (h : mmH) (hs : s_iald K lv st h) : mm_V q d b Q pc lv st h := by
  unfold s_iald at hs
  split at hs
  · rename_i i a r
    intro p l e R s m args below meth c G A ρ ρ0 n0 H locs cells slots MC MS ls hX hS hR hn hρ hc hm hl hv hvs
    exact va_iald hX.1.1 hX.1.2.1 hX.2.2.2.2.1.1 hR.1 a 0 (by rw [mm_wl_at hs.1.2.1, mm_ce_100 hs.1.1]) rfl hs.1.2.2 hd (hK _ _ _ hs.2 p l e R s m args below meth c G A ρ ρ0 n0 H locs cells slots MC MS ls hX hS hR hn hρ hc hm hl hv (fun v hm => by
      rcases List.mem_cons.mp hm with rfl | hm
      · exact mm_vok_i _ _
      · exact hvs v (List.mem_cons_of_mem _ (List.mem_cons_of_mem _ hm))))
  · exact hs.elim
theorem v_zald (hd : decode q.2.1 pc = .ok (.baload, 1)) (hK : ∀ lv st h, K lv st h → mm_V q d b Q (pc + 1) lv st h) (lv : mmL) (st : List Value) (h : mmH) (hs : s_zald K lv st h) : mm_V q d b Q pc lv st h := by
  unfold s_zald at hs
  split at hs
  · rename_i i a r
    intro p l e R s m args below meth c G A ρ ρ0 n0 H locs cells slots MC MS ls hX hS hR hn hρ hc hm hl hv hvs
    exact va_zald hX.1.1 hX.1.2.1 hX.2.2.2.2.1.1 hR.1 a 2 (by rw [mm_wl_at hs.1.2.1, mm_ce_102 hs.1.1]) rfl hs.1.2.2 hd (hK _ _ _ hs.2 p l e R s m args below meth c G A ρ ρ0 n0 H locs cells slots MC MS ls hX hS hR hn hρ hc hm hl hv (fun v hm => by
      rcases List.mem_cons.mp hm with rfl | hm
      · exact mm_vok_i _ _
      · exact hvs v (List.mem_cons_of_mem _ (List.mem_cons_of_mem _ hm))))
  · exact hs.elim
theorem v_lald (hd : decode q.2.1 pc = .ok (.laload, 1)) (hK : ∀ lv st h, K lv st h → mm_V q d b Q (pc + 1) lv st h) (lv : mmL) (st : List Value) (h : mmH) (hs : s_lald K lv st h) : mm_V q d b Q pc lv st h := by
  unfold s_lald at hs
  split at hs
  · rename_i i a r
    intro p l e R s m args below meth c G A ρ ρ0 n0 H locs cells slots MC MS ls hX hS hR hn hρ hc hm hl hv hvs
    exact va_lald hX.1.1 hX.1.2.1 hX.2.2.2.2.1.1 hR.1 a 1 (by rw [mm_wl_at hs.1.2.1, mm_ce_101 hs.1.1]) rfl hs.1.2.2 hd (hK _ _ _ hs.2 p l e R s m args below meth c G A ρ ρ0 n0 H locs cells slots MC MS ls hX hS hR hn hρ hc hm hl hv (fun v hm => by
      rcases List.mem_cons.mp hm with rfl | hm
      · exact mm_vok_l _ _
      · exact hvs v (List.mem_cons_of_mem _ (List.mem_cons_of_mem _ hm))))
  · exact hs.elim
theorem v_aald {t : Nat} (ht : t = 103 ∨ t = 104) (hd : decode q.2.1 pc = .ok (.aaload, 1)) (hK : ∀ lv st h, K lv st h → mm_V q d b Q (pc + 1) lv st h) (lv : mmL) (st : List Value) (h : mmH) (hs : s_aald t K lv st h) : mm_V q d b Q pc lv st h := by
  unfold s_aald at hs
  split at hs
  · rename_i i a r
    intro p l e R s m args below meth c G A ρ ρ0 n0 H locs cells slots MC MS ls hX hS hR hn hρ hc hm hl hv hvs
    have kW := hK _ _ _ hs.2 p l e R s m args below meth c G A ρ ρ0 n0 H locs cells slots MC MS ls hX hS hR hn hρ hc hm hl hv (fun v hm => by
      rcases List.mem_cons.mp hm with rfl | hm
      · exact mm_vok_rf (fun b hb => hR.2.2 a _ b hs.1.2.1 hb)
      · exact hvs v (List.mem_cons_of_mem _ (List.mem_cons_of_mem _ hm)))
    rw [List.map_cons, mm_tv_rf] at kW
    rcases ht with ht | ht
    · exact va_aldq hX.1.1 hX.1.2.1 hX.2.2.2.2.1.1 hR.1 a 3 (by rw [mm_wl_at hs.1.2.1, mm_ce_103 (hs.1.1.trans ht)]) rfl hs.1.2.2 hd kW
    · exact va_aldq hX.1.1 hX.1.2.1 hX.2.2.2.2.1.1 hR.1 a 4 (by rw [mm_wl_at hs.1.2.1, mm_ce_104 (hs.1.1.trans ht)]) rfl hs.1.2.2 hd kW
  · exact hs.elim
theorem v_alen (hd : decode q.2.1 pc = .ok (.arraylength, 1)) (hK : ∀ lv st h, K lv st h → mm_V q d b Q (pc + 1) lv st h) (lv : mmL) (st : List Value) (h : mmH) (hs : s_alen K lv st h) : mm_V q d b Q pc lv st h := by
  unfold s_alen at hs
  split at hs
  · rename_i a r
    intro p l e R s m args below meth c G A ρ ρ0 n0 H locs cells slots MC MS ls hX hS hR hn hρ hc hm hl hv hvs
    have kW := hK _ _ _ hs.2 p l e R s m args below meth c G A ρ ρ0 n0 H locs cells slots MC MS ls hX hS hR hn hρ hc hm hl hv (fun v hm => by
      rcases List.mem_cons.mp hm with rfl | hm
      · exact mm_vok_i _ _
      · exact hvs v (List.mem_cons_of_mem _ hm))
    rcases hs.1.1 with hk | hk
    · exact va_alen (x := (mm_ln h a, .inl (mm_gi h a))) hX.1.1 hX.1.2.1 hX.2.2.2.2.1.1 hR.1 a 0 (by rw [mm_wl_at hs.1.2, mm_ce_100 hk]) rfl rfl hd kW
    · exact va_alen (x := (mm_ln h a, .inr (.inl (mm_gl h a)))) hX.1.1 hX.1.2.1 hX.2.2.2.2.1.1 hR.1 a 1 (by rw [mm_wl_at hs.1.2, mm_ce_101 hk]) rfl rfl hd kW
  · exact hs.elim
theorem v_iast (hd : decode q.2.1 pc = .ok (.iastore, 1)) (hK : ∀ lv st h, K lv st h → mm_V q d b Q (pc + 1) lv st h) (lv : mmL) (st : List Value) (h : mmH) (hs : s_iast K lv st h) : mm_V q d b Q pc lv st h := by
  unfold s_iast at hs
  split at hs
  · rename_i x i a r
    intro p l e R s m args below meth c G A ρ ρ0 n0 H locs cells slots MC MS ls hX hS hR hn hρ hc hm hl hv hvs
    refine va_iast hX.1.1 hX.1.2.1 hX.2.2.2.2.1.1 hR.1 hR.2.1 hS a 0 (by rw [mm_wl_at hs.1.2.1, mm_ce_100 hs.1.1]) rfl hs.1.2.2 hd (fun H1 locs1 hP hD hS1 => ?_)
    have hR1 : mm_RL G A ρ (mm_pi h a i.toNatClampNeg x) H1 := mm_RL_upd (h := h) rfl (by rw [mm_ce_100 (show mm_kd (mm_pi h a i.toNatClampNeg x) a = 100 from hs.1.1), mm_gi_upd, mm_ln_pi]) mm_ce_pi hR.2.2 hP hD
    exact hK _ _ _ hs.2 p l e R s m args below meth c G A ρ ρ0 n0 H1 locs1 cells slots MC MS ls hX hS1 hR1 hn hρ hc hm hl hv (fun v hm => hvs v (List.mem_cons_of_mem _ (List.mem_cons_of_mem _ (List.mem_cons_of_mem _ hm))))
  · exact hs.elim
theorem v_zast (hd : decode q.2.1 pc = .ok (.bastore, 1)) (hK : ∀ lv st h, K lv st h → mm_V q d b Q (pc + 1) lv st h) (lv : mmL) (st : List Value) (h : mmH) (hs : s_zast K lv st h) : mm_V q d b Q pc lv st h := by
  unfold s_zast at hs
  split at hs
  · rename_i x i a r
    intro p l e R s m args below meth c G A ρ ρ0 n0 H locs cells slots MC MS ls hX hS hR hn hρ hc hm hl hv hvs
    refine va_zast hX.1.1 hX.1.2.1 hX.2.2.2.2.1.1 hR.1 hR.2.1 hS a 2 (by rw [mm_wl_at hs.1.2.1, mm_ce_102 hs.1.1]) rfl hs.1.2.2 hd (fun H1 locs1 hP hD hS1 => ?_)
    have hx1 : vp_nar .boolean x = x := by rcases hs.2.1 with z | z <;> rw [z] <;> decide
    rw [hx1] at hP hD
    have hR1 : mm_RL G A ρ (mm_pi h a i.toNatClampNeg x) H1 := mm_RL_upd (h := h) rfl (by rw [mm_ce_102 (show mm_kd (mm_pi h a i.toNatClampNeg x) a = 102 from hs.1.1), mm_gi_upd, mm_ln_pi]) mm_ce_pi hR.2.2 hP hD
    exact hK _ _ _ hs.2.2 p l e R s m args below meth c G A ρ ρ0 n0 H1 locs1 cells slots MC MS ls hX hS1 hR1 hn hρ hc hm hl hv (fun v hm => hvs v (List.mem_cons_of_mem _ (List.mem_cons_of_mem _ (List.mem_cons_of_mem _ hm))))
  · exact hs.elim
theorem v_last (hd : decode q.2.1 pc = .ok (.lastore, 1)) (hK : ∀ lv st h, K lv st h → mm_V q d b Q (pc + 1) lv st h) (lv : mmL) (st : List Value) (h : mmH) (hs : s_last K lv st h) : mm_V q d b Q pc lv st h := by
  unfold s_last at hs
  split at hs
  · rename_i x i a r
    intro p l e R s m args below meth c G A ρ ρ0 n0 H locs cells slots MC MS ls hX hS hR hn hρ hc hm hl hv hvs
    refine va_last hX.1.1 hX.1.2.1 hX.2.2.2.2.1.1 hR.1 hR.2.1 hS a 1 (by rw [mm_wl_at hs.1.2.1, mm_ce_101 hs.1.1]) rfl hs.1.2.2 hd (fun H1 locs1 hP hD hS1 => ?_)
    have hR1 : mm_RL G A ρ (mm_pl h a i.toNatClampNeg x) H1 := mm_RL_upd (h := h) rfl (by rw [mm_ce_101 (show mm_kd (mm_pl h a i.toNatClampNeg x) a = 101 from hs.1.1), mm_gl_upd, mm_ln_pl]) mm_ce_pl hR.2.2 hP hD
    exact hK _ _ _ hs.2 p l e R s m args below meth c G A ρ ρ0 n0 H1 locs1 cells slots MC MS ls hX hS1 hR1 hn hρ hc hm hl hv (fun v hm => hvs v (List.mem_cons_of_mem _ (List.mem_cons_of_mem _ (List.mem_cons_of_mem _ hm))))
  · exact hs.elim
end
