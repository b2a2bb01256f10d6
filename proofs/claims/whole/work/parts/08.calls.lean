/-! ends, switches, calls, entry -/
section
variable {q : mmM} {d : Nat} {b : Nat × Nat} {Q : Option Value → mmH → Prop} {pc : Nat} {K : mmK}
def s_iret (Q : Option Value → mmH → Prop) : mmK := fun _ st h => match st with
  | [.int x] => Q (some (.int x)) h
  | _ => False
def s_zret (Q : Option Value → mmH → Prop) : mmK := fun _ st h => match st with
  | [.int x] => (x = 0 ∨ x = 1) ∧ Q (some (.int x)) h
  | _ => False
def s_lret (Q : Option Value → mmH → Prop) : mmK := fun _ st h => match st with
  | [.long x] => Q (some (.long x)) h
  | _ => False
def s_aret (Q : Option Value → mmH → Prop) : mmK := fun _ st h => match st with
  | [.ref x] => Q (some (.ref x)) h
  | [.null] => Q (some .null) h
  | _ => False
def s_vret (Q : Option Value → mmH → Prop) : mmK := fun _ st h => match st with
  | [] => Q none h
  | _ => False
theorem mm_end {A : Nat → Prop} {G : mmG} {ρ ρ0 : Nat → Nat} {n0 : Nat} {h : mmH} {H : Heap} {s : State} {args : Array Value} {locs : List Loc} {v : Option Value} (hS : va_S A s.heap H locs) (hR : mm_RL G A ρ h H) (hn : n0 ≤ mm_sz h) (hρ : ∀ a, a < n0 → ρ a = ρ0 a) (hv : ∀ x, v = some x → mm_vok h x) (hQ : Q v h) (t : State) (ht : t.heap = H) : mm_Qc G A ρ0 n0 Q args s (.returned (v.map (mm_tv G ρ))) t :=
  ⟨⟨v, ρ, h, rfl, hρ, hn, by rw [ht]; exact hR, hv, hQ⟩, hS.F ht⟩
theorem v_iret (hd : decode q.2.1 pc = .ok (.ireturn, 1)) (hr : q.2.2.2 = some .int) (lv : mmL) (st : List Value) (h : mmH) (hs : s_iret Q lv st h) : mm_V q d b Q pc lv st h := by
  unfold s_iret at hs
  split at hs
  · intro p l e R s m args below meth c G A ρ ρ0 n0 H locs cells slots MC MS ls hX hS hR hn hρ hc hm hl hv hvs
    exact W.widen (k := MC) (n := MS) (by omega) (by omega) (W.iret hX.1.1 hX.1.2.1 (hX.2.2.1.trans hr) (fun t ht _ => mm_end hS hR hn hρ (fun x e => by cases e; exact mm_vok_i _ _) hs t ht) hS.2.2 hd (hlocks := hX.2.1))
  · exact hs.elim
theorem v_zret (hd : decode q.2.1 pc = .ok (.ireturn, 1)) (hr : q.2.2.2 = some .boolean) (lv : mmL) (st : List Value) (h : mmH) (hs : s_zret Q lv st h) : mm_V q d b Q pc lv st h := by
  unfold s_zret at hs
  split at hs
  · intro p l e R s m args below meth c G A ρ ρ0 n0 H locs cells slots MC MS ls hX hS hR hn hρ hc hm hl hv hvs
    exact W.widen (k := MC) (n := MS) (by omega) (by omega) (W.zret (ty := .boolean) hX.1.1 hX.1.2.1 (hX.2.2.1.trans hr) (by rcases hs.1 with z | z <;> rw [z] <;> decide) (fun t ht _ => mm_end hS hR hn hρ (fun x e => by cases e; exact mm_vok_i _ _) hs.2 t ht) hS.2.2 hd (hlocks := hX.2.1))
  · exact hs.elim
theorem v_lret (hd : decode q.2.1 pc = .ok (.lreturn, 1)) (hr : q.2.2.2 = some .long) (lv : mmL) (st : List Value) (h : mmH) (hs : s_lret Q lv st h) : mm_V q d b Q pc lv st h := by
  unfold s_lret at hs
  split at hs
  · intro p l e R s m args below meth c G A ρ ρ0 n0 H locs cells slots MC MS ls hX hS hR hn hρ hc hm hl hv hvs
    exact W.widen (k := MC) (n := MS) (by omega) (by omega) (W.lret hX.1.1 hX.1.2.1 (hX.2.2.1.trans hr) (fun t ht _ => mm_end hS hR hn hρ (fun x e => by cases e; exact mm_vok_l _ _) hs t ht) hS.2.2 hd (hlocks := hX.2.1))
  · exact hs.elim
theorem v_aret {C : String} (hd : decode q.2.1 pc = .ok (.areturn, 1)) (hr : q.2.2.2 = some (.object C)) (lv : mmL) (st : List Value) (h : mmH) (hs : s_aret Q lv st h) : mm_V q d b Q pc lv st h := by
  unfold s_aret at hs
  split at hs
  · intro p l e R s m args below meth c G A ρ ρ0 n0 H locs cells slots MC MS ls hX hS hR hn hρ hc hm hl hv hvs
    exact W.widen (k := MC) (n := MS) (by omega) (by omega) (W.aret hX.1.1 hX.1.2.1 (hX.2.2.1.trans hr) (Or.inl ⟨C, rfl⟩) (Or.inr ⟨_, rfl⟩) (fun t ht _ => mm_end hS hR hn hρ (fun x e => by cases e; exact hvs _ List.mem_cons_self) hs t ht) hS.2.2 hd (hlocks := hX.2.1))
  · intro p l e R s m args below meth c G A ρ ρ0 n0 H locs cells slots MC MS ls hX hS hR hn hρ hc hm hl hv hvs
    exact W.widen (k := MC) (n := MS) (by omega) (by omega) (W.aret hX.1.1 hX.1.2.1 (hX.2.2.1.trans hr) (Or.inl ⟨C, rfl⟩) (Or.inl rfl) (fun t ht _ => mm_end hS hR hn hρ (fun x e => by cases e; exact mm_vok_n _) hs t ht) hS.2.2 hd (hlocks := hX.2.1))
  · exact hs.elim
theorem v_vret (hd : decode q.2.1 pc = .ok (.return_, 1)) (hr : q.2.2.2 = none) (lv : mmL) (st : List Value) (h : mmH) (hs : s_vret Q lv st h) : mm_V q d b Q pc lv st h := by
  unfold s_vret at hs
  split at hs
  · intro p l e R s m args below meth c G A ρ ρ0 n0 H locs cells slots MC MS ls hX hS hR hn hρ hc hm hl hv hvs
    exact W.widen (k := MC) (n := MS) (by omega) (by omega) (W.vret hX.1.1 hX.1.2.1 (hX.2.2.1.trans hr) (fun t ht _ => mm_end (v := none) hS hR hn hρ (fun x e => by cases e) hs t ht) hS.2.2 hd (hlocks := hX.2.1))
  · exact hs.elim
/-! switches -/
def mm_sw (x : Int32) (lv : mmL) (r : List Value) (h : mmH) (Kd : mmK) : List (Int32 × mmK) → Prop
  | [] => Kd lv r h
  | (c, K) :: t => (x = c → K lv r h) ∧ (¬ x = c → mm_sw x lv r h Kd t)
def s_sw (cs : List (Int32 × mmK)) (Kd : mmK) : mmK := fun lv st h => match st with
  | .int x :: r => mm_sw x lv r h Kd cs
  | _ => False
def mm_swok (q : mmM) (d : Nat) (b : Nat × Nat) (Q : Option Value → mmH → Prop) (pc : Nat) (lo : Int) (offs : Array Int) : Nat → List (Int32 × mmK) → Prop
  | _, [] => True
  | j, (c, K) :: t => (c.toInt = lo + j ∧ ∃ (off : Int) (tgt : Nat), offs[j]? = some off ∧ (pc : Int) + off = (tgt : Int) ∧ ∀ lv st h, K lv st h → mm_V q d b Q tgt lv st h) ∧ mm_swok q d b Q pc lo offs (j + 1) t
theorem v_tsw {dflt lo hi : Int} {offs : Array Int} {len tgd : Nat} {cs : List (Int32 × mmK)} {Kd : mmK} (hd : decode q.2.1 pc = .ok (.tableswitch dflt lo hi offs, len)) (htd : (pc : Int) + dflt = (tgd : Int)) (hlen : lo + cs.length = hi + 1) (hcs : mm_swok q d b Q pc lo offs 0 cs) (hKd : ∀ lv st h, Kd lv st h → mm_V q d b Q tgd lv st h) (lv : mmL) (st : List Value) (h : mmH) (hs : s_sw cs Kd lv st h) : mm_V q d b Q pc lv st h := by
  unfold s_sw at hs
  split at hs
  · rename_i x r
    have key : ∀ (t : List (Int32 × mmK)) (j : Nat), lo + j + t.length = hi + 1 → lo ≤ lo + j → mm_swok q d b Q pc lo offs j t → mm_sw x lv r h Kd t → (x.toInt < lo ∨ lo + j ≤ x.toInt) → mm_V q d b Q pc lv (.int x :: r) h := by
      intro t
      induction t with
      | nil =>
        intro j h1 h2 h3 h4 h5
        have h6 : x.toInt < lo ∨ hi < x.toInt := by simp at h1; omega
        exact mm_pure (fun _ hv v hm => hv v (List.mem_cons_of_mem _ hm)) (fun p l e R s m args below meth c G ρ H locs cells slots Z ls hx hb ho ht hl kW => lv_tableOut hx hb hd h6 htd kW) (hKd _ _ _ h4)
      | cons y t ih =>
        obtain ⟨c, K⟩ := y
        intro j h1 h2 h3 h4 h5
        obtain ⟨⟨hc, off, tgt, ho, ht, hK⟩, h3⟩ := h3
        by_cases hxc : x = c
        · have hx1 : x.toInt = lo + j := by rw [hxc]; exact hc
          have hx2 : ¬ hi < x.toInt := by simp at h1; omega
          exact mm_pure (fun _ hv v hm => hv v (List.mem_cons_of_mem _ hm)) (fun p l e R s m args below meth c G ρ H locs cells slots Z ls hx hb ho2 ht2 hl kW => lv_tableIn hx hb hd (by omega) hx2 (by rw [show (x.toInt - lo).toNat = j by omega]; exact ho) ht kW) (hK _ _ _ (h4.1 hxc))
        · have hx1 : x.toInt ≠ lo + j := fun z => hxc (Int32.toInt_inj.mp (by rw [z, hc]))
          exact ih (j + 1) (by simp at h1 ⊢; omega) (by omega) h3 (h4.2 hxc) (by omega)
    exact key cs 0 (by simpa using hlen) (by simp) hcs hs (by simp; omega)
  · exact hs.elim
end
/-! calls -/
theorem mm_after {p : Program} {l : Launch} {e : Env} {R : Room} {s : State} {m : MethodId} {args a : Array Value} {below : List Frame} {meth : Method} {c : Code} {G : mmG} {A : Nat → Prop} {ρ : Nat → Nat} {n : Nat} {H : Heap} {locs : List Loc} {cells slots mc ms pc : Nat} {Z : State → Prop} {ls : Array Slot} {st0 rest : List Value} {K : Option Value → mmH → Prop}
    (hr : va_Run p l e R s m args below meth c H locs cells slots mc ms (F0 m pc ls st0) rest (mm_Qc G A ρ n K a) A) (hS : va_S A s.heap H locs)
    (kk : ∀ (v : Option Value) (ρ' : Nat → Nat) (h' : mmH) (H1 : Heap) (locs1 : List Loc), (∀ a, a < n → ρ' a = ρ a) → n ≤ mm_sz h' → mm_RL G A ρ' h' H1 → (∀ x, v = some x → mm_vok h' x) → K v h' → va_S A s.heap H1 locs1 → W p l e R s m args below meth c H1 locs1 (cells + mc) (slots + ms) Z (F0 m (pc + 3) ls ((v.map (mm_tv G ρ')).toList ++ rest))) : W p l e R s m args below meth c H locs cells slots Z (F0 m pc ls st0) := by
  intro T hT X
  obtain ⟨v, st₀, t, T', L, h0, X', hL, e1, e2, ⟨⟨v', ρ', h', hv, h1, h2, h3, h4, h5⟩, hz, hk⟩, st⟩ := hr T hT X
  cases hv
  rw [h0] at hz hk
  obtain ⟨t2, a1, b1⟩ := kk v' ρ' h' T'.heap (locs ++ L) h1 h2 (by rw [e1]; exact h3) h4 h5
    ⟨Nat.le_trans hS.1 (by rw [e1]; exact hz), fun q g1 g2 => by rw [e1, hk q (Nat.lt_of_lt_of_le g1 hS.1) g2]; exact hS.2.1 q g1 g2, fun q hq => by
      rcases List.mem_append.mp hq with h | h
      · exact hS.2.2 q h
      · exact hL q h⟩ T' rfl X'
  exact ⟨t2, st t2 a1, b1⟩
theorem mm_GK.go {G : mmG} {A : Nat → Prop} {s U : State} (hW : s.WarmedH U.vm) (hk : ∀ q, q < s.heap.size → ¬ A q → U.heap[q]? = s.heap[q]?) (h : mm_GK G A s) : mm_GK G A U := ⟨va_K.moved hW.alike h.1, h.2.go hW hk⟩
theorem mm_blind {G : mmG} {A : Nat → Prop} {ρ : Nat → Nat} {as : List Value} {h : mmH} : FrameBlind (mm_Pc G A ρ as h) := by
  intro a U g mk ⟨e, ⟨k1, k2⟩, r, hA⟩
  exact ⟨e, ⟨va_K.moved (u := U) (U := U.calling g mk a) (Vm.Alike.refl U.vm) k1, mm_STR.same (s := U) (U := U.calling g mk a) rfl rfl k2⟩, r, hA⟩
def mm_mf (q : mmM) (n : Nat) : Prop := mm_cw q ∈ mm_tb ∧ Cond.initialized q.1.cls ∈ mm_tb ∧ (q.1.cls ≠ "java/lang/invoke/MethodHandle" ∧ q.1.cls ≠ "java/lang/invoke/VarHandle") ∧ (parseMethodDescriptor q.1.desc).map (fun d => d.parameters.length) = some n ∧ q.2.2.1 ≤ 41 ∧ plainName q.1.cls = true
def mm_lk (own : String) (idx : Nat) (y : MethodName) : Prop := Cond.methodLink own idx y ∈ mm_tb ∨ ∃ host, Cond.methodLinkNest own idx y host ∈ mm_tb
theorem mm_words {args : Array Value} {s : State} (hts : ∀ w ∈ mm_tb, w.before args s = true) {q : mmM} (hq : mm_cw q ∈ mm_tb) : ∀ w ∈ mm_cw q :: mm_tb, ∀ (a' : Array Value) (U : State), s.WarmedH U.vm → w.before a' U = true := by
  intro w hw a' U hW
  have hw2 : w ∈ mm_tb := by
    rcases List.mem_cons.mp hw with rfl | h
    · exact hq
    · exact h
  exact mm_warm hW (List.mem_filter.mp hw2).2 (hts w hw2)
theorem mm_npar {q : mmM} {n : Nat} (h : (parseMethodDescriptor q.1.desc).map (fun d => d.parameters.length) = some n) : ∀ sig, parseMethodDescriptor q.1.desc = some sig → n = sig.parameters.length := by
  intro sig h2
  rw [h2] at h
  exact (Option.some.inj h).symm
/-- what is behind a call, once the machine is there -/
theorem mm_cont {q : mmM} {d : Nat} {b bb : Nat × Nat} {Q : Option Value → mmH → Prop} {pc : Nat} {lv : mmL} {rest : List Value} {h : mmH} {p : Program} {l : Launch} {e : Env} {R : Room} {s : State} {m : MethodId} {args : Array Value} {below : List Frame} {meth : Method} {c : Code} {G : mmG} {A : Nat → Prop} {ρ ρ0 : Nat → Nat} {n0 : Nat} {H : Heap} {locs : List Loc} {cells slots MC MS : Nat} {ls : Array Slot} {st0 : List Value} {a : Array Value}
    (hX : mm_CX p R s m args meth c G A q d MC MS) (hS : va_S A s.heap H locs) (hn : n0 ≤ mm_sz h) (hρ : ∀ a, a < n0 → ρ a = ρ0 a) (hc : cells + (bb.1 + b.1) ≤ MC) (hm : slots + (bb.2 + b.2) ≤ MS) (hl : lv_has ls q.2.2.1 (mm_al G ρ 0 lv)) (hv : ∀ v, some v ∈ lv → mm_vok h v) (hvs : ∀ v ∈ rest, mm_vok h v)
    (hr : va_Run p l e R s m args below meth c H locs cells slots bb.1 bb.2 (F0 m pc ls st0) (rest.map (mm_tv G ρ)) (mm_Qc G A ρ (mm_sz h) (fun v h' => mm_V q d b Q (pc + 3) lv (v.toList ++ rest) h') a) A) :
    W p l e R s m args below meth c H locs cells slots (MQ below (mm_Qc G A ρ0 n0 Q) args s MC MS A) (F0 m pc ls st0) := by
  refine mm_after hr hS (fun v ρ' h' H1 locs1 g1 g2 g3 g4 g5 g6 => ?_)
  have e1 : (v.map (mm_tv G ρ')).toList ++ rest.map (mm_tv G ρ) = (v.toList ++ rest).map (mm_tv G ρ') := by
    have e2 : rest.map (mm_tv G ρ) = rest.map (mm_tv G ρ') := List.map_congr_left (fun x hx => (mm_tv_eq (hvs x hx) g1).symm)
    rw [e2]
    cases v <;> simp
  rw [e1]
  have mono : ∀ x, mm_vok h x → mm_vok h' x := fun x hx a ha => Nat.lt_of_lt_of_le (hx a ha) g2
  refine g5 p l e R s m args below meth c G A ρ' ρ0 n0 H1 locs1 (cells + bb.1) (slots + bb.2) MC MS ls hX g6 g3 (Nat.le_trans hn g2) (fun a ha => (g1 a (Nat.lt_of_lt_of_le ha hn)).trans (hρ a ha)) (by omega) (by omega) (by rw [mm_al_cg g1 lv 0 hv]; exact hl) (fun x hx => mono x (hv x hx)) (fun x hx => ?_)
  rcases List.mem_append.mp hx with hx | hx
  · cases v with
    | none => cases hx
    | some w =>
      have hx2 : x = w := by simpa using hx
      rw [hx2]
      exact g4 w rfl
  · exact mono x (hvs x hx)
section
variable {q q' : mmM} {d : Nat} {b bb b0 : Nat × Nat} {Q : Option Value → mmH → Prop} {pc idx n : Nat} {lv : mmL} {As rest : List Value} {h : mmH} {a ci : Nat}
theorem v_cv (hd : decode q.2.1 pc = .ok (.invokevirtual idx, 3)) (hmf : mm_mf q' n) (hi : Cond.instanceMethod q'.1 ∈ mm_tb) (hsel : Cond.selects q'.1.cls q'.1 q'.1 ∈ mm_tb) (hlk : mm_lk q.1.cls idx q'.1) (hC : ci < 11 ∧ mm_R ci = q'.1.cls) (hn : As.length = n) (hst : (rest.map fun v => v.category).sum ≤ 8) (hb0 : b0.1 = bb.1 + b.1 ∧ b0.2 = bb.2 + b.2) (hk : mm_kd h a = ci) (ha : a < mm_sz h)
    (k : mm_MV q' d bb (.ref a :: As) h (fun v h' => mm_V q (d + 1) b Q (pc + 3) lv (v.toList ++ rest) h')) : mm_V q (d + 1) b0 Q pc lv (As.reverse ++ .ref a :: rest) h := by
  intro p l e R s m args below meth c G A ρ ρ0 n0 H locs cells slots MC MS ls hX hS hR hn0 hρ hc hm hl hv hvs
  obtain ⟨hcw, hini, hnm, hpar, hmax, -⟩ := hmf
  have hvA : ∀ v ∈ (.ref a :: As : List Value), mm_vok h v := by
    intro v hv1
    apply hvs
    rcases List.mem_cons.mp hv1 with rfl | h1
    · exact List.mem_append_right _ List.mem_cons_self
    · exact List.mem_append_left _ (List.mem_reverse.mpr h1)
  have hvr : ∀ v ∈ rest, mm_vok h v := fun v h1 => hvs v (List.mem_append_right _ (List.mem_cons_of_mem _ h1))
  have hM := k l G A ρ hvA
  obtain ⟨hfix, hlocks, hret, hname, hG, hA, hrf, hrl, hrc, hrs⟩ := id hX
  have hts := hfix.2.2.2.2
  have hwd := mm_words hts hcw
  have hrecv := va_recv (q0 := a) hG.1 hR.1 (mm_cl ci hC.1) (by rw [mm_wl_at ha, mm_ce_obj hk hC.1])
  have hPre : PreV s H q'.1.cls (ρ a) (mm_Pc G A ρ (.ref a :: As) h) (As.map (mm_tv G ρ)) := by
    refine ⟨mm_blind, ?_, fun U hU hW => ⟨rfl, mm_GK.go hW (fun x h1 h2 => by rw [hU]; exact hS.2.1 x h1 h2) hG, by rw [hU]; exact hR, fun x hx => hA x (Nat.le_trans hS.1 (by rw [← hU]; exact hx))⟩⟩
    rw [← hC.2]
    exact hrecv
  refine mm_cont (a := (Value.ref (ρ a) :: As.map (mm_tv G ρ)).toArray) (b := b) (bb := bb) hX hS hn0 hρ (by omega) (by omega) hl hv hvr ?_
  have hfr : (mm_rm d bb).frames + 1 ≤ R.frames := hrf
  have hlo : 8 + (q'.2.2.1 + 11) + (mm_rm d bb).locals ≤ R.locals := by show 8 + (q'.2.2.1 + 11) + 60 * d ≤ R.locals; omega
  have hstack : (As.reverse ++ .ref a :: rest : List Value).map (mm_tv G ρ) = (As.map (mm_tv G ρ)).reverse ++ .ref (ρ a) :: rest.map (mm_tv G ρ) := by simp [mm_tv]
  have hsum : ((rest.map (mm_tv G ρ)).map fun v => v.category).sum ≤ 8 := by rw [List.map_map]; simpa [Function.comp_def, mm_tv_cat] using hst
  rcases hlk with hlk | ⟨host, hlk⟩
  · exact va_runV (g := F0 m pc ls _) hfix hM ⟨⟨rfl, rfl, hfr, hlo, hwd, List.mem_cons_self, hts _ hcw, hts _ hini, hnm, mm_npar hpar, hts _ hlk⟩, hts _ hi, hts _ hsel⟩ hPre rfl (by simp [hn]) hl.1 hstack (lv_room hsum) hd ⟨by omega, by omega⟩
  · exact va_runVN (g := F0 m pc ls _) hfix hM ⟨⟨⟨rfl, rfl, hfr, hlo, hwd, List.mem_cons_self⟩, hts _ hcw, hts _ hini, hnm, mm_npar hpar, hts _ hlk⟩, hts _ hi, hts _ hsel⟩ hPre rfl (by simp [hn]) hl.1 hstack (lv_room hsum) hd ⟨by omega, by omega⟩
theorem v_cs (hd : decode q.2.1 pc = .ok (.invokestatic idx, 3)) (hmf : mm_mf q' n) (hi : Cond.static q'.1 ∈ mm_tb) (hlk : mm_lk q.1.cls idx q'.1) (hn : As.length = n) (hst : (rest.map fun v => v.category).sum ≤ 8) (hb0 : b0.1 = bb.1 + b.1 ∧ b0.2 = bb.2 + b.2)
    (k : mm_MV q' d bb As h (fun v h' => mm_V q (d + 1) b Q (pc + 3) lv (v.toList ++ rest) h')) : mm_V q (d + 1) b0 Q pc lv (As.reverse ++ rest) h := by
  intro p l e R s m args below meth c G A ρ ρ0 n0 H locs cells slots MC MS ls hX hS hR hn0 hρ hc hm hl hv hvs
  obtain ⟨hcw, hini, hnm, hpar, hmax, -⟩ := hmf
  have hvA : ∀ v ∈ As, mm_vok h v := fun v h1 => hvs v (List.mem_append_left _ (List.mem_reverse.mpr h1))
  have hvr : ∀ v ∈ rest, mm_vok h v := fun v h1 => hvs v (List.mem_append_right _ h1)
  have hM := k l G A ρ hvA
  obtain ⟨hfix, hlocks, hret, hname, hG, hA, hrf, hrl, hrc, hrs⟩ := id hX
  have hts := hfix.2.2.2.2
  have hwd := mm_words hts hcw
  have hPre : PreS s H (mm_Pc G A ρ As h) (As.map (mm_tv G ρ)) :=
    ⟨mm_blind, fun U hU hW => ⟨rfl, mm_GK.go hW (fun x h1 h2 => by rw [hU]; exact hS.2.1 x h1 h2) hG, by rw [hU]; exact hR, fun x hx => hA x (Nat.le_trans hS.1 (by rw [← hU]; exact hx))⟩⟩
  refine mm_cont (a := (As.map (mm_tv G ρ)).toArray) (b := b) (bb := bb) hX hS hn0 hρ (by omega) (by omega) hl hv hvr ?_
  have hfr : (mm_rm d bb).frames + 1 ≤ R.frames := hrf
  have hlo : 8 + (q'.2.2.1 + 11) + (mm_rm d bb).locals ≤ R.locals := by show 8 + (q'.2.2.1 + 11) + 60 * d ≤ R.locals; omega
  have hstack : (As.reverse ++ rest : List Value).map (mm_tv G ρ) = (As.map (mm_tv G ρ)).reverse ++ rest.map (mm_tv G ρ) := by simp
  have hsum : ((rest.map (mm_tv G ρ)).map fun v => v.category).sum ≤ 8 := by rw [List.map_map]; simpa [Function.comp_def, mm_tv_cat] using hst
  rcases hlk with hlk | ⟨host, hlk⟩
  · exact va_runS (g := F0 m pc ls _) hfix hM ⟨⟨rfl, rfl, hfr, hlo, hwd, List.mem_cons_self, hts _ hcw, hts _ hini, hnm, mm_npar hpar, hts _ hlk⟩, hts _ hi⟩ hPre rfl (by simp [hn]) hl.1 hstack (lv_room hsum) hd ⟨by omega, by omega⟩
  · exact va_runSN (g := F0 m pc ls _) hfix hM ⟨⟨⟨rfl, rfl, hfr, hlo, hwd, List.mem_cons_self⟩, hts _ hcw, hts _ hini, hnm, mm_npar hpar, hts _ hlk⟩, hts _ hi, trivial⟩ hPre rfl (by simp [hn]) hl.1 hstack (lv_room hsum) hd ⟨by omega, by omega⟩
theorem v_ci (hd : decode q.2.1 pc = .ok (.invokespecial idx, 3)) (hmf : mm_mf q' n) (hq : q'.1.name = "<init>" ∧ q'.2.2.2 = none) (hi : Cond.instanceMethod q'.1 ∈ mm_tb) (hlk : mm_lk q.1.cls idx q'.1) (hn : As.length = n) (hst : (rest.map fun v => v.category).sum ≤ 8) (hb0 : b0.1 = bb.1 + b.1 ∧ b0.2 = bb.2 + b.2)
    (k : mm_MV q' d bb (.ref a :: As) h (fun v h' => mm_V q (d + 1) b Q (pc + 3) lv (v.toList ++ rest) h')) : mm_V q (d + 1) b0 Q pc lv (As.reverse ++ .ref a :: rest) h := by
  intro p l e R s m args below meth c G A ρ ρ0 n0 H locs cells slots MC MS ls hX hS hR hn0 hρ hc hm hl hv hvs
  obtain ⟨hcw, hini, hnm, hpar, hmax, -⟩ := hmf
  have hvA : ∀ v ∈ (.ref a :: As : List Value), mm_vok h v := by
    intro v hv1
    apply hvs
    rcases List.mem_cons.mp hv1 with rfl | h1
    · exact List.mem_append_right _ List.mem_cons_self
    · exact List.mem_append_left _ (List.mem_reverse.mpr h1)
  have hvr : ∀ v ∈ rest, mm_vok h v := fun v h1 => hvs v (List.mem_append_right _ (List.mem_cons_of_mem _ h1))
  have hM := k l G A ρ hvA
  obtain ⟨hfix, hlocks, hret, hname, hG, hA, hrf, hrl, hrc, hrs⟩ := id hX
  have hts := hfix.2.2.2.2
  have hwd := mm_words hts hcw
  have hPre : PreS s H (mm_Pc G A ρ (.ref a :: As) h) (.ref (ρ a) :: As.map (mm_tv G ρ)) :=
    ⟨mm_blind, fun U hU hW => ⟨rfl, mm_GK.go hW (fun x h1 h2 => by rw [hU]; exact hS.2.1 x h1 h2) hG, by rw [hU]; exact hR, fun x hx => hA x (Nat.le_trans hS.1 (by rw [← hU]; exact hx))⟩⟩
  refine mm_cont (a := (Value.ref (ρ a) :: As.map (mm_tv G ρ)).toArray) (b := b) (bb := bb) hX hS hn0 hρ (by omega) (by omega) hl hv hvr ?_
  have hfr : (mm_rm d bb).frames + 1 ≤ R.frames := hrf
  have hlo : 8 + (q'.2.2.1 + 11) + (mm_rm d bb).locals ≤ R.locals := by show 8 + (q'.2.2.1 + 11) + 60 * d ≤ R.locals; omega
  have hstack : (As.reverse ++ .ref a :: rest : List Value).map (mm_tv G ρ) = (As.map (mm_tv G ρ)).reverse ++ .ref (ρ a) :: rest.map (mm_tv G ρ) := by simp [mm_tv]
  have hsum : ((rest.map (mm_tv G ρ)).map fun v => v.category).sum ≤ 8 := by rw [List.map_map]; simpa [Function.comp_def, mm_tv_cat] using hst
  obtain ⟨y, by1, mx, rt⟩ := q'
  obtain ⟨hq1, hq2⟩ := hq
  dsimp only at hq1 hq2
  subst hq2
  rcases hlk with hlk | ⟨host, hlk⟩
  · exact va_runI (g := F0 m pc ls _) hfix hM ⟨⟨rfl, rfl, hfr, hlo, hwd, List.mem_cons_self, hts _ hcw, hts _ hini, hnm, mm_npar hpar, hts _ hlk⟩, hq1, hts _ hi⟩ hPre rfl (by simp [hn]) hl.1 hstack (lv_room hsum) hd ⟨by omega, by omega⟩
  · exact va_runIN (g := F0 m pc ls _) hfix hM ⟨⟨⟨rfl, rfl, hfr, hlo, hwd, List.mem_cons_self⟩, hts _ hcw, hts _ hini, hnm, mm_npar hpar, hts _ hlk⟩, hq1, hts _ hi⟩ hPre rfl (by simp [hn]) hl.1 hstack (lv_room hsum) hd ⟨by omega, by omega⟩
end
/-! a method's entry -/
def mm_en : List Value → Nat → mmL
  | [], n => List.replicate n none
  | v :: r, n => if v.category = 2 then some v :: none :: mm_en r (n - 2) else some v :: mm_en r (n - 1)
theorem mm_al_rep {G : mmG} {ρ : Nat → Nat} : ∀ (n k : Nat), mm_al G ρ k (List.replicate n none) = [] := by
  intro n
  induction n with
  | zero => intro k; rfl
  | succ n ih => intro k; exact ih (k + 1)
theorem mm_al_en {G : mmG} {ρ : Nat → Nat} : ∀ (as : List Value) (n k : Nat), mm_al G ρ k (mm_en as n) = lv_args k (as.map (mm_tv G ρ)) := by
  intro as
  induction as with
  | nil => intro n k; exact mm_al_rep n k
  | cons v r ih =>
    intro n k
    unfold mm_en
    by_cases hc : v.category = 2
    · rw [if_pos hc]
      show (k, mm_tv G ρ v) :: mm_al G ρ (k + 1 + 1) (mm_en r (n - 2)) = (k, mm_tv G ρ v) :: lv_args (if (mm_tv G ρ v).category = 2 then k + 2 else k + 1) _
      rw [mm_tv_cat, if_pos hc, ih]
    · rw [if_neg hc]
      show (k, mm_tv G ρ v) :: mm_al G ρ (k + 1) (mm_en r (n - 1)) = (k, mm_tv G ρ v) :: lv_args (if (mm_tv G ρ v).category = 2 then k + 2 else k + 1) _
      rw [mm_tv_cat, if_neg hc, ih]
theorem mm_en_in : ∀ (as : List Value) (n : Nat) (v : Value), some v ∈ mm_en as n → v ∈ as := by
  intro as
  induction as with
  | nil => intro n v h; unfold mm_en at h; have := List.eq_of_mem_replicate h; cases this
  | cons x r ih =>
    intro n v h
    unfold mm_en at h
    split at h
    · rcases List.mem_cons.mp h with h | h
      · cases h; exact List.mem_cons_self
      · rcases List.mem_cons.mp h with h | h
        · cases h
        · exact List.mem_cons_of_mem _ (ih _ v h)
    · rcases List.mem_cons.mp h with h | h
      · cases h; exact List.mem_cons_self
      · exact List.mem_cons_of_mem _ (ih _ v h)
theorem mm_slen {G : mmG} {ρ : Nat → Nat} : ∀ (as : List Value), (lg_sl (as.map (mm_tv G ρ))).length = (as.map fun v => v.category).sum := by
  intro as
  induction as with
  | nil => rfl
  | cons v r ih =>
    have e : lg_sl (mm_tv G ρ v :: r.map (mm_tv G ρ)) = (if (mm_tv G ρ v).category = 2 then [.val (mm_tv G ρ v), .second] else [.val (mm_tv G ρ v)]) ++ lg_sl (r.map (mm_tv G ρ)) := by simp [lg_sl]
    rw [List.map_cons, e, List.length_append, ih, mm_tv_cat, List.map_cons, List.sum_cons]
    rcases lv_cat v with hc | hc <;> simp [hc]
theorem mm_of {q : mmM} {d : Nat} {b : Nat × Nat} {as : List Value} {h : mmH} {Q : Option Value → mmH → Prop} (hp : plainName q.1.cls = true) (hlen : (as.map fun v => v.category).sum ≤ q.2.2.1) (k : mm_V q d b Q 0 (mm_en as q.2.2.1) [] h) : mm_MV q d b as h Q := by
  intro l G A ρ hvA
  refine Met.ofW (cc := q.2.1) (maxL := q.2.2.1) (ret := q.2.2.2) hp rfl ?_
  intro p e s m args below meth c s₁ B hml hv
  obtain ⟨rfl, hG, hR, hA⟩ := hv
  have hts := atoms_spec (ws := mm_cw q :: mm_tb) B.pre
  rw [lg_entry_eq]
  have hX : mm_CX p (headSpec (mm_cw q :: mm_tb) (mm_rm d b)).room s m (as.map (mm_tv G ρ)).toArray meth c G A q d b.1 b.2 := ⟨⟨B.exec, B.bytes, hml, findClass_of_methodNamed B.named, fun w hw => hts w (List.mem_cons_of_mem _ hw)⟩, B.notSynchronized, B.returns, (name_of_methodNamed B.named B.method).1, hG, hA, Nat.le_refl _, Nat.le_refl _, rfl, rfl⟩
  exact k p l e _ s m _ below meth c G A ρ ρ (mm_sz h) s.heap [] 0 0 b.1 b.2 _ hX va_S.rf hR (Nat.le_refl _) (fun _ _ => rfl) (by omega) (by omega) (by rw [mm_al_en]; exact lv_entry _ (by rw [mm_slen]; exact hlen)) (fun v hm => hvA v (mm_en_in _ _ v hm)) (fun v hm => by cases hm)
theorem mm_MV.mono {q : mmM} {d : Nat} {b : Nat × Nat} {as : List Value} {h : mmH} {K K' : Option Value → mmH → Prop} (hk : ∀ v h', K v h' → K' v h') (k : mm_MV q d b as h K) : mm_MV q d b as h K' := by
  intro l G A ρ hvA p e ha hc hk0 s m args below hf hap hP ht
  obtain ⟨t, o, h1, h2, h3, ⟨⟨v, ρ', h', g1, g2, g3, g4, g5, g6⟩, hF⟩, h5⟩ := k l G A ρ hvA p e ha hc hk0 s m args below hf hap hP ht
  exact ⟨t, o, h1, h2, h3, ⟨⟨v, ρ', h', g1, g2, g3, g4, g5, hk _ _ g6⟩, hF⟩, h5⟩
