/-! the law's own frame: as the small machine's, with the script beside it (.retAddr 300) -/
def mm_VL (L : Nat) (xs : Nat → Int32) (b : Nat × Nat) (pc : Nat) (lv : mmL) (st : List Value) (h : mmH) : Prop :=
  ∀ (p : Program) (l : Launch) (e : Env) (s : State) (m : MethodId) (below : List Frame) (meth : Method) (c : Code) (bA : Nat) (G : mmG) (ρ : Nat → Nat) (H : Heap) (locs : List Loc) (cells slots : Nat) (ls : Array Slot),
    lw_At p s m meth c bA L xs → G.2.2 300 = bA → mm_GK G (fun q => s.heap.size ≤ q) s → va_S (fun q => s.heap.size ≤ q) s.heap H locs → mm_RL G (fun q => s.heap.size ≤ q) ρ h H → cells + b.1 ≤ 600000 → slots + b.2 ≤ 7302250 →
    lv_has ls 4 (mm_al G ρ 0 lv) → (∀ v, some v ∈ lv → mm_vok h v) → (∀ v ∈ st, mm_vok h v) →
    W p l e room_1 s m #[Value.ref bA] below meth c H locs cells slots (lw_Z below #[Value.ref bA] s) (F0 m pc ls (st.map (mm_tv G ρ)))
theorem lw_tb {p : Program} {s : State} {m : MethodId} {meth : Method} {c : Code} {b L : Nat} {xs : Nat → Int32} (C : lw_At p s m meth c b L xs) : ∀ w ∈ mm_tb, w.before #[Value.ref b] s = true := fun w hw => C.2.2.2.2.2.1 w (List.mem_filter.mp hw).1
theorem mm_VL.mono {L : Nat} {xs : Nat → Int32} {b b' : Nat × Nat} {pc : Nat} {lv : mmL} {st : List Value} {h : mmH} (h1 : b.1 ≤ b'.1) (h2 : b.2 ≤ b'.2) (k : mm_VL L xs b pc lv st h) : mm_VL L xs b' pc lv st h := by
  intro p l e s m below meth c bA G ρ H locs cells slots ls hX hbA hG hS hR hc hm hl hv hvs
  exact k p l e s m below meth c bA G ρ H locs cells slots ls hX hbA hG hS hR (by omega) (by omega) hl hv hvs
theorem vl_pure {L : Nat} {xs : Nat → Int32} {b : Nat × Nat} {pc pc' : Nat} {lv : mmL} {st st' : List Value} {h : mmH}
    (hst : (∀ v, some v ∈ lv → mm_vok h v) → (∀ v ∈ st, mm_vok h v) → ∀ v ∈ st', mm_vok h v)
    (hW : ∀ (p : Program) (l : Launch) (e : Env) (R : Room) (s : State) (m : MethodId) (args : Array Value) (below : List Frame) (meth : Method) (c : Code) (G : mmG) (ρ : Nat → Nat) (H : Heap) (locs : List Loc) (cells slots : Nat) (Z : State → Prop) (ls : Array Slot), p.tables.exec = Jvm.exec → c.code = code → (∀ i v, mm_ld lv i = some v → ls[i]? = some (.val (mm_tv G ρ v))) →
      W p l e R s m args below meth c H locs cells slots Z (F0 m pc' ls (st'.map (mm_tv G ρ))) → W p l e R s m args below meth c H locs cells slots Z (F0 m pc ls (st.map (mm_tv G ρ))))
    (k : mm_VL L xs b pc' lv st' h) : mm_VL L xs b pc lv st h := by
  intro p l e s m below meth c bA G ρ H locs cells slots ls hX hbA hG hS hR hc hm hl hv hvs
  refine hW p l e _ s m _ below meth c G ρ H locs cells slots _ ls hX.1 hX.2.1 (fun i v hi => ?_) (k p l e s m below meth c bA G ρ H locs cells slots ls hX hbA hG hS hR hc hm hl hv (hst hv hvs))
  exact hl.2.2 (i, mm_tv G ρ v) ((mm_al_in lv 0 _).mpr ⟨i, v, hi, by simp⟩)
section
variable {L : Nat} {xs : Nat → Int32} {b : Nat × Nat} {pc : Nat} {lv : mmL} {st : List Value} {h : mmH} {x y : Int32}
theorem vl_aload {k : Fin 4} {i a : Nat} (hd : decode code pc = .ok (.aload_n k, 1)) (hi : (k : Nat) = i) (hl0 : mm_ld lv i = some (.ref a)) (k0 : mm_VL L xs b (pc + 1) lv (.ref a :: st) h) : mm_VL L xs b pc lv st h :=
  vl_pure (fun h1 h2 v hm => by
    rcases List.mem_cons.mp hm with rfl | hm
    · exact h1 _ (mm_ld_mem hl0)
    · exact h2 v hm) (fun p l e R s m args below meth c G ρ H locs cells slots Z ls hx hb hl kW => lv_aload_n hx hb hd hi (hl _ _ hl0) kW) k0
theorem vl_script {k : Fin 4} {i a : Nat} (hd : decode code pc = .ok (.aload_n k, 1)) (hi : (k : Nat) = i) (hl0 : mm_ld lv i = some (.retAddr a)) (k0 : mm_VL L xs b (pc + 1) lv (.retAddr a :: st) h) : mm_VL L xs b pc lv st h :=
  vl_pure (fun h1 h2 v hm => by
    rcases List.mem_cons.mp hm with rfl | hm
    · exact h1 _ (mm_ld_mem hl0)
    · exact h2 v hm) (fun p l e R s m args below meth c G ρ H locs cells slots Z ls hx hb hl kW => lv_aload_n hx hb hd hi (hl _ _ hl0) kW) k0
theorem vl_iload {k : Fin 4} {i : Nat} (hd : decode code pc = .ok (.iload_n k, 1)) (hi : (k : Nat) = i) (hl0 : mm_ld lv i = some (.int x)) (k0 : mm_VL L xs b (pc + 1) lv (.int x :: st) h) : mm_VL L xs b pc lv st h :=
  vl_pure (fun h1 h2 v hm => by
    rcases List.mem_cons.mp hm with rfl | hm
    · exact mm_vok_i _ _
    · exact h2 v hm) (fun p l e R s m args below meth c G ρ H locs cells slots Z ls hx hb hl kW => lv_iload_n hx hb hd hi (hl _ _ hl0) kW) k0
theorem vl_iconst {n : Int} (hd : decode code pc = .ok (.iconst n, 1)) (hx0 : Int32.ofInt n = x) (k0 : mm_VL L xs b (pc + 1) lv (.int x :: st) h) : mm_VL L xs b pc lv st h :=
  vl_pure (fun h1 h2 v hm => by
    rcases List.mem_cons.mp hm with rfl | hm
    · exact mm_vok_i _ _
    · exact h2 v hm) (fun p l e R s m args below meth c G ρ H locs cells slots Z ls hx hb hl kW => lv_iconst hx hb hd hx0 kW) k0
theorem vl_bipush {n : Int} (hd : decode code pc = .ok (.bipush n, 2)) (hx0 : (Int8.ofInt n).toInt32 = x) (k0 : mm_VL L xs b (pc + 2) lv (.int x :: st) h) : mm_VL L xs b pc lv st h :=
  vl_pure (fun h1 h2 v hm => by
    rcases List.mem_cons.mp hm with rfl | hm
    · exact mm_vok_i _ _
    · exact h2 v hm) (fun p l e R s m args below meth c G ρ H locs cells slots Z ls hx hb hl kW => lv_bipush hx hb hd hx0 kW) k0
theorem vl_iadd (hd : decode code pc = .ok (.iadd, 1)) (k0 : mm_VL L xs b (pc + 1) lv (.int (x + y) :: st) h) : mm_VL L xs b pc lv (.int y :: .int x :: st) h :=
  vl_pure (fun h1 h2 v hm => by
    rcases List.mem_cons.mp hm with rfl | hm
    · exact mm_vok_i _ _
    · exact h2 v (List.mem_cons_of_mem _ (List.mem_cons_of_mem _ hm))) (fun p l e R s m args below meth c G ρ H locs cells slots Z ls hx hb hl kW => lv_iadd hx hb hd kW) k0
theorem vl_isub (hd : decode code pc = .ok (.isub, 1)) (k0 : mm_VL L xs b (pc + 1) lv (.int (x - y) :: st) h) : mm_VL L xs b pc lv (.int y :: .int x :: st) h :=
  vl_pure (fun h1 h2 v hm => by
    rcases List.mem_cons.mp hm with rfl | hm
    · exact mm_vok_i _ _
    · exact h2 v (List.mem_cons_of_mem _ (List.mem_cons_of_mem _ hm))) (fun p l e R s m args below meth c G ρ H locs cells slots Z ls hx hb hl kW => lv_isub hx hb hd kW) k0
theorem vl_iand (hd : decode code pc = .ok (.iand, 1)) (k0 : mm_VL L xs b (pc + 1) lv (.int (x &&& y) :: st) h) : mm_VL L xs b pc lv (.int y :: .int x :: st) h :=
  vl_pure (fun h1 h2 v hm => by
    rcases List.mem_cons.mp hm with rfl | hm
    · exact mm_vok_i _ _
    · exact h2 v (List.mem_cons_of_mem _ (List.mem_cons_of_mem _ hm))) (fun p l e R s m args below meth c G ρ H locs cells slots Z ls hx hb hl kW => lv_iand hx hb hd kW) k0
theorem vl_goto {off : Int} {tgt : Nat} (hd : decode code pc = .ok (.goto off, 3)) (ht : (pc : Int) + off = (tgt : Int)) (k0 : mm_VL L xs b tgt lv st h) : mm_VL L xs b pc lv st h :=
  vl_pure (fun h1 h2 => h2) (fun p l e R s m args below meth c G ρ H locs cells slots Z ls hx hb hl kW => lv_goto hx hb hd ht kW) k0
theorem vl_same {off : Int} {tgt : Nat} (hd : decode code pc = .ok (.if_icmp .eq off, 3)) (ht : (pc : Int) + off = (tgt : Int)) (e0 : x = y) (k0 : mm_VL L xs b tgt lv st h) : mm_VL L xs b pc lv (.int y :: .int x :: st) h :=
  vl_pure (fun h1 h2 v hm => h2 v (List.mem_cons_of_mem _ (List.mem_cons_of_mem _ hm))) (fun p l e R s m args below meth c G ρ H locs cells slots Z ls hx hb hl kW => lv_icmp_eq hx hb hd ht (fun _ => kW) (fun c => absurd e0 c)) k0
theorem vl_samel {off : Int} {tgt : Nat} {x y : Int64} (hd1 : decode code pc = .ok (.lcmp, 1)) (hd : decode code (pc + 1) = .ok (.ifCond .eq off, 3)) (ht : ((pc + 1 : Nat) : Int) + off = (tgt : Int)) (e0 : x = y) (k0 : mm_VL L xs b tgt lv st h) : mm_VL L xs b pc lv (.long y :: .long x :: st) h :=
  vl_pure (fun h1 h2 v hm => h2 v (List.mem_cons_of_mem _ (List.mem_cons_of_mem _ hm))) (fun p l e R s m args below meth c G ρ H locs cells slots Z ls hx hb hl kW => W.lcmp hx hb hd1 (lv_if_eq hx hb hd ht (fun _ => kW) (fun c => absurd (by rw [lgc_eq]; exact e0) c))) k0
theorem vl_gt {off : Int} {tgt : Nat} (hd : decode code pc = .ok (.if_icmp .gt off, 3)) (ht : (pc : Int) + off = (tgt : Int)) (kt : y < x → mm_VL L xs b tgt lv st h) (kf : ¬ y < x → mm_VL L xs b (pc + 3) lv st h) : mm_VL L xs b pc lv (.int y :: .int x :: st) h := by
  by_cases c0 : y < x
  · exact vl_pure (fun h1 h2 v hm => h2 v (List.mem_cons_of_mem _ (List.mem_cons_of_mem _ hm))) (fun p l e R s m args below meth c G ρ H locs cells slots Z ls hx hb hl kW => lv_icmp_gt hx hb hd ht (fun _ => kW) (fun c => absurd c0 c)) (kt c0)
  · exact vl_pure (fun h1 h2 v hm => h2 v (List.mem_cons_of_mem _ (List.mem_cons_of_mem _ hm))) (fun p l e R s m args below meth c G ρ H locs cells slots Z ls hx hb hl kW => lv_icmp_gt hx hb hd ht (fun c => absurd c c0) (fun _ => kW)) (kf c0)
theorem vl_iinc {i : Nat} {n : Int} {x0 : Int32} (hd : decode code pc = .ok (.iinc i n, 3)) (hx0 : Int32.ofInt n = x0) (hn : i < 4) (hl0 : mm_ld lv i = some (.int x)) (k0 : mm_VL L xs b (pc + 3) (mm_s1 lv i (.int (x + x0))) st h) : mm_VL L xs b pc lv st h := by
  intro p l e s m below meth c bA G ρ H locs cells slots ls hX hbA hG hS hR hc hm hl hv hvs
  obtain ⟨k, hk⟩ := List.getElem?_of_mem ((mm_al_in (G := G) (ρ := ρ) lv 0 (i, .int x)).mpr ⟨i, .int x, hl0, by simp [mm_tv]⟩)
  exact lv_iinc hX.1 hX.2.1 hd hl hk (by rw [hx0]) hn rfl (fun ls' hl' => k0 p l e s m below meth c bA G ρ H locs cells slots ls' hX hbA hG hS hR hc hm (mm_has1 (v := .int _) hl') (mm_vok_s1 (mm_vok_i _ _) hv) hvs)
theorem vl_istore {k : Fin 4} {i : Nat} (hd : decode code pc = .ok (.istore_n k, 1)) (hi : (k : Nat) = i) (hn : i < 4) (k0 : mm_VL L xs b (pc + 1) (mm_s1 lv i (.int x)) st h) : mm_VL L xs b pc lv (.int x :: st) h := by
  intro p l e s m below meth c bA G ρ H locs cells slots ls hX hbA hG hS hR hc hm hl hv hvs
  exact lv_istore_n hX.1 hX.2.1 hd hi hl hn rfl (fun ls' hl' => k0 p l e s m below meth c bA G ρ H locs cells slots ls' hX hbA hG hS hR hc hm (mm_has1 (v := .int _) hl') (mm_vok_s1 (mm_vok_i _ _) hv) (fun v hm => hvs v (List.mem_cons_of_mem _ hm)))
theorem vl_astore {k : Fin 4} {i a : Nat} (hd : decode code pc = .ok (.astore_n k, 1)) (hi : (k : Nat) = i) (hn : i < 4) (k0 : mm_VL L xs b (pc + 1) (mm_s1 lv i (.ref a)) st h) : mm_VL L xs b pc lv (.ref a :: st) h := by
  intro p l e s m below meth c bA G ρ H locs cells slots ls hX hbA hG hS hR hc hm hl hv hvs
  exact lv_astore_n hX.1 hX.2.1 hd hi hl hn rfl (fun ls' hl' => k0 p l e s m below meth c bA G ρ H locs cells slots ls' hX hbA hG hS hR hc hm (mm_has1 (v := .ref _) hl') (mm_vok_s1 (hvs _ List.mem_cons_self) hv) (fun v hm => hvs v (List.mem_cons_of_mem _ hm)))
theorem vl_dup {a : Nat} (hd : decode code pc = .ok (.dup, 1)) (k0 : mm_VL L xs b (pc + 1) lv (.ref a :: .ref a :: st) h) : mm_VL L xs b pc lv (.ref a :: st) h :=
  vl_pure (fun h1 h2 v hm => by
    rcases List.mem_cons.mp hm with rfl | hm
    · exact h2 _ List.mem_cons_self
    · exact h2 v hm) (fun p l e R s m args below meth c G ρ H locs cells slots Z ls hx hb hl kW => lv_dup hx hb hd rfl kW) k0
theorem vl_slen (hd : decode code pc = .ok (.arraylength, 1)) (k0 : mm_VL L xs b (pc + 1) lv (.int (nI L) :: st) h) : mm_VL L xs b pc lv (.retAddr 300 :: st) h := by
  intro p l e s m below meth c bA G ρ H locs cells slots ls hX hbA hG hS hR hc hm hl hv hvs
  have hbl := hX.2.2.2.2.2.2.2.1
  show W p l e room_1 s m _ below meth c H locs cells slots _ (F0 m pc ls (.ref (G.2.2 300) :: st.map (mm_tv G ρ)))
  rw [hbA]
  exact va_slen hX.1 hX.2.1 hX.2.2.2.2.2.2.1 hbl (Nat.not_le.mpr hbl) hS hd (k0 p l e s m below meth c bA G ρ H locs cells slots ls hX hbA hG hS hR hc hm hl hv (fun v hm => by
    rcases List.mem_cons.mp hm with rfl | hm
    · exact mm_vok_i _ _
    · exact hvs v (List.mem_cons_of_mem _ hm)))
theorem vl_sald {i : Nat} (hd : decode code pc = .ok (.iaload, 1)) (hi : i < L) (hL : L < 2 ^ 31) (k0 : mm_VL L xs b (pc + 1) lv (.int (xs i) :: st) h) : mm_VL L xs b pc lv (.int (nI i) :: .retAddr 300 :: st) h := by
  intro p l e s m below meth c bA G ρ H locs cells slots ls hX hbA hG hS hR hc hm hl hv hvs
  have hbl := hX.2.2.2.2.2.2.2.1
  show W p l e room_1 s m _ below meth c H locs cells slots _ (F0 m pc ls (.int (nI i) :: .ref (G.2.2 300) :: st.map (mm_tv G ρ)))
  rw [hbA]
  refine va_sld hX.1 hX.2.1 hX.2.2.2.2.2.2.1 hbl (Nat.not_le.mpr hbl) hS (vp_in_nI hi hL) hd ?_
  rw [nI_clamp (by omega)]
  exact k0 p l e s m below meth c bA G ρ H locs cells slots ls hX hbA hG hS hR hc hm hl hv (fun v hm => by
    rcases List.mem_cons.mp hm with rfl | hm
    · exact mm_vok_i _ _
    · exact hvs v (List.mem_cons_of_mem _ (List.mem_cons_of_mem _ hm)))
theorem vl_end (hd : decode code pc = .ok (.ireturn, 1)) : mm_VL L xs b pc lv [.int 1] h := by
  intro p l e s m below meth c bA G ρ H locs cells slots ls hX hbA hG hS hR hc hm hl hv hvs
  refine va_forget (fun q hq => hS.2.2 q hq) ?_
  refine W.widen (k := 600000) (n := 7302250) (by omega) (by omega) ?_
  exact lw_ret hX.1 hX.2.1 hX.2.2.1 hX.2.2.2.2.2.2.2.2.1 hd
end
