/-! steps: s_.. says what an instruction does to the picture; v_.. that the machine does so -/
abbrev mmK : Type := mmL → List Value → mmH → Prop
/-- an instruction that reads locals and moves the stack -/
theorem mm_pure {q : mmM} {d : Nat} {b : Nat × Nat} {Q : Option Value → mmH → Prop} {pc pc' : Nat} {lv : mmL} {st st' : List Value} {h : mmH}
    (hst : (∀ v, some v ∈ lv → mm_vok h v) → (∀ v ∈ st, mm_vok h v) → ∀ v ∈ st', mm_vok h v)
    (hW : ∀ (p : Program) (l : Launch) (e : Env) (R : Room) (s : State) (m : MethodId) (args : Array Value) (below : List Frame) (meth : Method) (c : Code) (G : mmG) (ρ : Nat → Nat) (H : Heap) (locs : List Loc) (cells slots : Nat) (Z : State → Prop) (ls : Array Slot), p.tables.exec = Jvm.exec → c.code = q.2.1 → s.vm.findClass q.1.cls = some m.cls → (∀ w ∈ mm_tb, w.before args s = true) → (∀ i v, mm_ld lv i = some v → ls[i]? = some (.val (mm_tv G ρ v))) →
      W p l e R s m args below meth c H locs cells slots Z (F0 m pc' ls (st'.map (mm_tv G ρ))) → W p l e R s m args below meth c H locs cells slots Z (F0 m pc ls (st.map (mm_tv G ρ))))
    (k : mm_V q d b Q pc' lv st' h) : mm_V q d b Q pc lv st h := by
  intro p l e R s m args below meth c G A ρ ρ0 n0 H locs cells slots MC MS ls hX hS hR hn hρ hc hm hl hv hvs
  refine hW p l e R s m args below meth c G ρ H locs cells slots _ ls hX.1.1 hX.1.2.1 hX.1.2.2.2.1 hX.1.2.2.2.2 (fun i v hi => ?_) (k p l e R s m args below meth c G A ρ ρ0 n0 H locs cells slots MC MS ls hX hS hR hn hρ hc hm hl hv (hst hv hvs))
  exact hl.2.2 (i, mm_tv G ρ v) ((mm_al_in lv 0 _).mpr ⟨i, v, hi, by simp⟩)
theorem mm_ld_mem : ∀ {lv : mmL} {i : Nat} {v : Value}, mm_ld lv i = some v → some v ∈ lv := by
  intro lv
  induction lv with
  | nil => intro i v h; cases h
  | cons x r ih =>
    intro i v h
    cases i with
    | zero => exact List.mem_cons.mpr (Or.inl h.symm)
    | succ i => exact List.mem_cons_of_mem _ (ih h)

def s_iadd (K : mmK) : mmK := fun lv st h => match st with
  | .int y :: .int x :: r => K lv (.int (x + y) :: r) h
  | _ => False
theorem v_iadd {q : mmM} {d : Nat} {b : Nat × Nat} {Q : Option Value → mmH → Prop} {pc : Nat} {K : mmK} (hd : decode q.2.1 pc = .ok (.iadd, 1)) (hK : ∀ lv st h, K lv st h → mm_V q d b Q (pc + 1) lv st h) (lv : mmL) (st : List Value) (h : mmH) (hs : s_iadd K lv st h) : mm_V q d b Q pc lv st h := by
  unfold s_iadd at hs
  split at hs
  · exact mm_pure (fun _ hv v hm => by
      rcases List.mem_cons.mp hm with rfl | hm
      · exact mm_vok_i _ _
      · exact hv v (List.mem_cons_of_mem _ (List.mem_cons_of_mem _ hm))) (fun p l e R s m args below meth c G ρ H locs cells slots Z ls hx hb ho ht hl kW => lv_iadd hx hb hd kW) (hK _ _ _ hs)
  · exact hs.elim
def s_isub (K : mmK) : mmK := fun lv st h => match st with
  | .int y :: .int x :: r => K lv (.int (x - y) :: r) h
  | _ => False
theorem v_isub {q : mmM} {d : Nat} {b : Nat × Nat} {Q : Option Value → mmH → Prop} {pc : Nat} {K : mmK} (hd : decode q.2.1 pc = .ok (.isub, 1)) (hK : ∀ lv st h, K lv st h → mm_V q d b Q (pc + 1) lv st h) (lv : mmL) (st : List Value) (h : mmH) (hs : s_isub K lv st h) : mm_V q d b Q pc lv st h := by
  unfold s_isub at hs
  split at hs
  · exact mm_pure (fun _ hv v hm => by
      rcases List.mem_cons.mp hm with rfl | hm
      · exact mm_vok_i _ _
      · exact hv v (List.mem_cons_of_mem _ (List.mem_cons_of_mem _ hm))) (fun p l e R s m args below meth c G ρ H locs cells slots Z ls hx hb ho ht hl kW => lv_isub hx hb hd kW) (hK _ _ _ hs)
  · exact hs.elim
def s_imul (K : mmK) : mmK := fun lv st h => match st with
  | .int y :: .int x :: r => K lv (.int (x * y) :: r) h
  | _ => False
theorem v_imul {q : mmM} {d : Nat} {b : Nat × Nat} {Q : Option Value → mmH → Prop} {pc : Nat} {K : mmK} (hd : decode q.2.1 pc = .ok (.imul, 1)) (hK : ∀ lv st h, K lv st h → mm_V q d b Q (pc + 1) lv st h) (lv : mmL) (st : List Value) (h : mmH) (hs : s_imul K lv st h) : mm_V q d b Q pc lv st h := by
  unfold s_imul at hs
  split at hs
  · exact mm_pure (fun _ hv v hm => by
      rcases List.mem_cons.mp hm with rfl | hm
      · exact mm_vok_i _ _
      · exact hv v (List.mem_cons_of_mem _ (List.mem_cons_of_mem _ hm))) (fun p l e R s m args below meth c G ρ H locs cells slots Z ls hx hb ho ht hl kW => lv_imul hx hb hd kW) (hK _ _ _ hs)
  · exact hs.elim
def s_iand (K : mmK) : mmK := fun lv st h => match st with
  | .int y :: .int x :: r => K lv (.int (x &&& y) :: r) h
  | _ => False
theorem v_iand {q : mmM} {d : Nat} {b : Nat × Nat} {Q : Option Value → mmH → Prop} {pc : Nat} {K : mmK} (hd : decode q.2.1 pc = .ok (.iand, 1)) (hK : ∀ lv st h, K lv st h → mm_V q d b Q (pc + 1) lv st h) (lv : mmL) (st : List Value) (h : mmH) (hs : s_iand K lv st h) : mm_V q d b Q pc lv st h := by
  unfold s_iand at hs
  split at hs
  · exact mm_pure (fun _ hv v hm => by
      rcases List.mem_cons.mp hm with rfl | hm
      · exact mm_vok_i _ _
      · exact hv v (List.mem_cons_of_mem _ (List.mem_cons_of_mem _ hm))) (fun p l e R s m args below meth c G ρ H locs cells slots Z ls hx hb ho ht hl kW => lv_iand hx hb hd kW) (hK _ _ _ hs)
  · exact hs.elim
def s_ior (K : mmK) : mmK := fun lv st h => match st with
  | .int y :: .int x :: r => K lv (.int (x ||| y) :: r) h
  | _ => False
theorem v_ior {q : mmM} {d : Nat} {b : Nat × Nat} {Q : Option Value → mmH → Prop} {pc : Nat} {K : mmK} (hd : decode q.2.1 pc = .ok (.ior, 1)) (hK : ∀ lv st h, K lv st h → mm_V q d b Q (pc + 1) lv st h) (lv : mmL) (st : List Value) (h : mmH) (hs : s_ior K lv st h) : mm_V q d b Q pc lv st h := by
  unfold s_ior at hs
  split at hs
  · exact mm_pure (fun _ hv v hm => by
      rcases List.mem_cons.mp hm with rfl | hm
      · exact mm_vok_i _ _
      · exact hv v (List.mem_cons_of_mem _ (List.mem_cons_of_mem _ hm))) (fun p l e R s m args below meth c G ρ H locs cells slots Z ls hx hb ho ht hl kW => lv_ior hx hb hd kW) (hK _ _ _ hs)
  · exact hs.elim
def s_ixor (K : mmK) : mmK := fun lv st h => match st with
  | .int y :: .int x :: r => K lv (.int (x ^^^ y) :: r) h
  | _ => False
theorem v_ixor {q : mmM} {d : Nat} {b : Nat × Nat} {Q : Option Value → mmH → Prop} {pc : Nat} {K : mmK} (hd : decode q.2.1 pc = .ok (.ixor, 1)) (hK : ∀ lv st h, K lv st h → mm_V q d b Q (pc + 1) lv st h) (lv : mmL) (st : List Value) (h : mmH) (hs : s_ixor K lv st h) : mm_V q d b Q pc lv st h := by
  unfold s_ixor at hs
  split at hs
  · exact mm_pure (fun _ hv v hm => by
      rcases List.mem_cons.mp hm with rfl | hm
      · exact mm_vok_i _ _
      · exact hv v (List.mem_cons_of_mem _ (List.mem_cons_of_mem _ hm))) (fun p l e R s m args below meth c G ρ H locs cells slots Z ls hx hb ho ht hl kW => lv_ixor hx hb hd kW) (hK _ _ _ hs)
  · exact hs.elim
def s_ishl (K : mmK) : mmK := fun lv st h => match st with
  | .int y :: .int x :: r => K lv (.int (x <<< (y &&& 31)) :: r) h
  | _ => False
theorem v_ishl {q : mmM} {d : Nat} {b : Nat × Nat} {Q : Option Value → mmH → Prop} {pc : Nat} {K : mmK} (hd : decode q.2.1 pc = .ok (.ishl, 1)) (hK : ∀ lv st h, K lv st h → mm_V q d b Q (pc + 1) lv st h) (lv : mmL) (st : List Value) (h : mmH) (hs : s_ishl K lv st h) : mm_V q d b Q pc lv st h := by
  unfold s_ishl at hs
  split at hs
  · exact mm_pure (fun _ hv v hm => by
      rcases List.mem_cons.mp hm with rfl | hm
      · exact mm_vok_i _ _
      · exact hv v (List.mem_cons_of_mem _ (List.mem_cons_of_mem _ hm))) (fun p l e R s m args below meth c G ρ H locs cells slots Z ls hx hb ho ht hl kW => lv_ishl hx hb hd kW) (hK _ _ _ hs)
  · exact hs.elim
def s_ishr (K : mmK) : mmK := fun lv st h => match st with
  | .int y :: .int x :: r => K lv (.int (x >>> (y &&& 31)) :: r) h
  | _ => False
theorem v_ishr {q : mmM} {d : Nat} {b : Nat × Nat} {Q : Option Value → mmH → Prop} {pc : Nat} {K : mmK} (hd : decode q.2.1 pc = .ok (.ishr, 1)) (hK : ∀ lv st h, K lv st h → mm_V q d b Q (pc + 1) lv st h) (lv : mmL) (st : List Value) (h : mmH) (hs : s_ishr K lv st h) : mm_V q d b Q pc lv st h := by
  unfold s_ishr at hs
  split at hs
  · exact mm_pure (fun _ hv v hm => by
      rcases List.mem_cons.mp hm with rfl | hm
      · exact mm_vok_i _ _
      · exact hv v (List.mem_cons_of_mem _ (List.mem_cons_of_mem _ hm))) (fun p l e R s m args below meth c G ρ H locs cells slots Z ls hx hb ho ht hl kW => lv_ishr hx hb hd kW) (hK _ _ _ hs)
  · exact hs.elim
def s_iushr (K : mmK) : mmK := fun lv st h => match st with
  | .int y :: .int x :: r => K lv (.int ((x.toUInt32 >>> (y.toUInt32 &&& Int32.toUInt32 31)).toInt32) :: r) h
  | _ => False
theorem v_iushr {q : mmM} {d : Nat} {b : Nat × Nat} {Q : Option Value → mmH → Prop} {pc : Nat} {K : mmK} (hd : decode q.2.1 pc = .ok (.iushr, 1)) (hK : ∀ lv st h, K lv st h → mm_V q d b Q (pc + 1) lv st h) (lv : mmL) (st : List Value) (h : mmH) (hs : s_iushr K lv st h) : mm_V q d b Q pc lv st h := by
  unfold s_iushr at hs
  split at hs
  · exact mm_pure (fun _ hv v hm => by
      rcases List.mem_cons.mp hm with rfl | hm
      · exact mm_vok_i _ _
      · exact hv v (List.mem_cons_of_mem _ (List.mem_cons_of_mem _ hm))) (fun p l e R s m args below meth c G ρ H locs cells slots Z ls hx hb ho ht hl kW => lv_iushr hx hb hd rfl kW) (hK _ _ _ hs)
  · exact hs.elim
def s_idiv (K : mmK) : mmK := fun lv st h => match st with
  | .int y :: .int x :: r => (¬ y = 0) ∧ K lv (.int (x / y) :: r) h
  | _ => False
theorem v_idiv {q : mmM} {d : Nat} {b : Nat × Nat} {Q : Option Value → mmH → Prop} {pc : Nat} {K : mmK} (hd : decode q.2.1 pc = .ok (.idiv, 1)) (hK : ∀ lv st h, K lv st h → mm_V q d b Q (pc + 1) lv st h) (lv : mmL) (st : List Value) (h : mmH) (hs : s_idiv K lv st h) : mm_V q d b Q pc lv st h := by
  unfold s_idiv at hs
  split at hs
  · exact mm_pure (fun _ hv v hm => by
      rcases List.mem_cons.mp hm with rfl | hm
      · exact mm_vok_i _ _
      · exact hv v (List.mem_cons_of_mem _ (List.mem_cons_of_mem _ hm))) (fun p l e R s m args below meth c G ρ H locs cells slots Z ls hx hb ho ht hl kW => lv_idiv hx hb hd hs.1 kW) (hK _ _ _ hs.2)
  · exact hs.elim
def s_irem (K : mmK) : mmK := fun lv st h => match st with
  | .int y :: .int x :: r => (¬ y = 0) ∧ K lv (.int (x - x / y * y) :: r) h
  | _ => False
theorem v_irem {q : mmM} {d : Nat} {b : Nat × Nat} {Q : Option Value → mmH → Prop} {pc : Nat} {K : mmK} (hd : decode q.2.1 pc = .ok (.irem, 1)) (hK : ∀ lv st h, K lv st h → mm_V q d b Q (pc + 1) lv st h) (lv : mmL) (st : List Value) (h : mmH) (hs : s_irem K lv st h) : mm_V q d b Q pc lv st h := by
  unfold s_irem at hs
  split at hs
  · exact mm_pure (fun _ hv v hm => by
      rcases List.mem_cons.mp hm with rfl | hm
      · exact mm_vok_i _ _
      · exact hv v (List.mem_cons_of_mem _ (List.mem_cons_of_mem _ hm))) (fun p l e R s m args below meth c G ρ H locs cells slots Z ls hx hb ho ht hl kW => lv_irem hx hb hd hs.1 kW) (hK _ _ _ hs.2)
  · exact hs.elim
def s_ladd (K : mmK) : mmK := fun lv st h => match st with
  | .long y :: .long x :: r => K lv (.long (x + y) :: r) h
  | _ => False
theorem v_ladd {q : mmM} {d : Nat} {b : Nat × Nat} {Q : Option Value → mmH → Prop} {pc : Nat} {K : mmK} (hd : decode q.2.1 pc = .ok (.ladd, 1)) (hK : ∀ lv st h, K lv st h → mm_V q d b Q (pc + 1) lv st h) (lv : mmL) (st : List Value) (h : mmH) (hs : s_ladd K lv st h) : mm_V q d b Q pc lv st h := by
  unfold s_ladd at hs
  split at hs
  · exact mm_pure (fun _ hv v hm => by
      rcases List.mem_cons.mp hm with rfl | hm
      · exact mm_vok_l _ _
      · exact hv v (List.mem_cons_of_mem _ (List.mem_cons_of_mem _ hm))) (fun p l e R s m args below meth c G ρ H locs cells slots Z ls hx hb ho ht hl kW => lv_ladd hx hb hd kW) (hK _ _ _ hs)
  · exact hs.elim
def s_lsub (K : mmK) : mmK := fun lv st h => match st with
  | .long y :: .long x :: r => K lv (.long (x - y) :: r) h
  | _ => False
theorem v_lsub {q : mmM} {d : Nat} {b : Nat × Nat} {Q : Option Value → mmH → Prop} {pc : Nat} {K : mmK} (hd : decode q.2.1 pc = .ok (.lsub, 1)) (hK : ∀ lv st h, K lv st h → mm_V q d b Q (pc + 1) lv st h) (lv : mmL) (st : List Value) (h : mmH) (hs : s_lsub K lv st h) : mm_V q d b Q pc lv st h := by
  unfold s_lsub at hs
  split at hs
  · exact mm_pure (fun _ hv v hm => by
      rcases List.mem_cons.mp hm with rfl | hm
      · exact mm_vok_l _ _
      · exact hv v (List.mem_cons_of_mem _ (List.mem_cons_of_mem _ hm))) (fun p l e R s m args below meth c G ρ H locs cells slots Z ls hx hb ho ht hl kW => lv_lsub hx hb hd kW) (hK _ _ _ hs)
  · exact hs.elim
def s_lmul (K : mmK) : mmK := fun lv st h => match st with
  | .long y :: .long x :: r => K lv (.long (x * y) :: r) h
  | _ => False
theorem v_lmul {q : mmM} {d : Nat} {b : Nat × Nat} {Q : Option Value → mmH → Prop} {pc : Nat} {K : mmK} (hd : decode q.2.1 pc = .ok (.lmul, 1)) (hK : ∀ lv st h, K lv st h → mm_V q d b Q (pc + 1) lv st h) (lv : mmL) (st : List Value) (h : mmH) (hs : s_lmul K lv st h) : mm_V q d b Q pc lv st h := by
  unfold s_lmul at hs
  split at hs
  · exact mm_pure (fun _ hv v hm => by
      rcases List.mem_cons.mp hm with rfl | hm
      · exact mm_vok_l _ _
      · exact hv v (List.mem_cons_of_mem _ (List.mem_cons_of_mem _ hm))) (fun p l e R s m args below meth c G ρ H locs cells slots Z ls hx hb ho ht hl kW => lv_lmul hx hb hd kW) (hK _ _ _ hs)
  · exact hs.elim
def s_ldiv (K : mmK) : mmK := fun lv st h => match st with
  | .long y :: .long x :: r => (¬ y = 0) ∧ K lv (.long (x / y) :: r) h
  | _ => False
theorem v_ldiv {q : mmM} {d : Nat} {b : Nat × Nat} {Q : Option Value → mmH → Prop} {pc : Nat} {K : mmK} (hd : decode q.2.1 pc = .ok (.ldiv, 1)) (hK : ∀ lv st h, K lv st h → mm_V q d b Q (pc + 1) lv st h) (lv : mmL) (st : List Value) (h : mmH) (hs : s_ldiv K lv st h) : mm_V q d b Q pc lv st h := by
  unfold s_ldiv at hs
  split at hs
  · exact mm_pure (fun _ hv v hm => by
      rcases List.mem_cons.mp hm with rfl | hm
      · exact mm_vok_l _ _
      · exact hv v (List.mem_cons_of_mem _ (List.mem_cons_of_mem _ hm))) (fun p l e R s m args below meth c G ρ H locs cells slots Z ls hx hb ho ht hl kW => lv_ldiv hx hb hd hs.1 kW) (hK _ _ _ hs.2)
  · exact hs.elim
def s_lrem (K : mmK) : mmK := fun lv st h => match st with
  | .long y :: .long x :: r => (¬ y = 0) ∧ K lv (.long (x - x / y * y) :: r) h
  | _ => False
theorem v_lrem {q : mmM} {d : Nat} {b : Nat × Nat} {Q : Option Value → mmH → Prop} {pc : Nat} {K : mmK} (hd : decode q.2.1 pc = .ok (.lrem, 1)) (hK : ∀ lv st h, K lv st h → mm_V q d b Q (pc + 1) lv st h) (lv : mmL) (st : List Value) (h : mmH) (hs : s_lrem K lv st h) : mm_V q d b Q pc lv st h := by
  unfold s_lrem at hs
  split at hs
  · exact mm_pure (fun _ hv v hm => by
      rcases List.mem_cons.mp hm with rfl | hm
      · exact mm_vok_l _ _
      · exact hv v (List.mem_cons_of_mem _ (List.mem_cons_of_mem _ hm))) (fun p l e R s m args below meth c G ρ H locs cells slots Z ls hx hb ho ht hl kW => lv_lrem hx hb hd hs.1 kW) (hK _ _ _ hs.2)
  · exact hs.elim
def s_ineg (K : mmK) : mmK := fun lv st h => match st with
  | .int x :: r => K lv (.int (-x) :: r) h
  | _ => False
theorem v_ineg {q : mmM} {d : Nat} {b : Nat × Nat} {Q : Option Value → mmH → Prop} {pc : Nat} {K : mmK} (hd : decode q.2.1 pc = .ok (.ineg, 1)) (hK : ∀ lv st h, K lv st h → mm_V q d b Q (pc + 1) lv st h) (lv : mmL) (st : List Value) (h : mmH) (hs : s_ineg K lv st h) : mm_V q d b Q pc lv st h := by
  unfold s_ineg at hs
  split at hs
  · exact mm_pure (fun _ hv v hm => by
      rcases List.mem_cons.mp hm with rfl | hm
      · exact mm_vok_i _ _
      · exact hv v (List.mem_cons_of_mem _ hm)) (fun p l e R s m args below meth c G ρ H locs cells slots Z ls hx hb ho ht hl kW => lv_ineg hx hb hd kW) (hK _ _ _ hs)
  · exact hs.elim
def s_i2l (K : mmK) : mmK := fun lv st h => match st with
  | .int x :: r => K lv (.long x.toInt64 :: r) h
  | _ => False
theorem v_i2l {q : mmM} {d : Nat} {b : Nat × Nat} {Q : Option Value → mmH → Prop} {pc : Nat} {K : mmK} (hd : decode q.2.1 pc = .ok (.i2l, 1)) (hK : ∀ lv st h, K lv st h → mm_V q d b Q (pc + 1) lv st h) (lv : mmL) (st : List Value) (h : mmH) (hs : s_i2l K lv st h) : mm_V q d b Q pc lv st h := by
  unfold s_i2l at hs
  split at hs
  · exact mm_pure (fun _ hv v hm => by
      rcases List.mem_cons.mp hm with rfl | hm
      · exact mm_vok_l _ _
      · exact hv v (List.mem_cons_of_mem _ hm)) (fun p l e R s m args below meth c G ρ H locs cells slots Z ls hx hb ho ht hl kW => lv_i2l hx hb hd rfl kW) (hK _ _ _ hs)
  · exact hs.elim
def s_l2i (K : mmK) : mmK := fun lv st h => match st with
  | .long x :: r => K lv (.int x.toInt32 :: r) h
  | _ => False
theorem v_l2i {q : mmM} {d : Nat} {b : Nat × Nat} {Q : Option Value → mmH → Prop} {pc : Nat} {K : mmK} (hd : decode q.2.1 pc = .ok (.l2i, 1)) (hK : ∀ lv st h, K lv st h → mm_V q d b Q (pc + 1) lv st h) (lv : mmL) (st : List Value) (h : mmH) (hs : s_l2i K lv st h) : mm_V q d b Q pc lv st h := by
  unfold s_l2i at hs
  split at hs
  · exact mm_pure (fun _ hv v hm => by
      rcases List.mem_cons.mp hm with rfl | hm
      · exact mm_vok_i _ _
      · exact hv v (List.mem_cons_of_mem _ hm)) (fun p l e R s m args below meth c G ρ H locs cells slots Z ls hx hb ho ht hl kW => lv_l2i hx hb hd rfl kW) (hK _ _ _ hs)
  · exact hs.elim
def s_i2c (K : mmK) : mmK := fun lv st h => match st with
  | .int x :: r => K lv (.int (x.toUInt32 % 65536).toInt32 :: r) h
  | _ => False
theorem v_i2c {q : mmM} {d : Nat} {b : Nat × Nat} {Q : Option Value → mmH → Prop} {pc : Nat} {K : mmK} (hd : decode q.2.1 pc = .ok (.i2c, 1)) (hK : ∀ lv st h, K lv st h → mm_V q d b Q (pc + 1) lv st h) (lv : mmL) (st : List Value) (h : mmH) (hs : s_i2c K lv st h) : mm_V q d b Q pc lv st h := by
  unfold s_i2c at hs
  split at hs
  · exact mm_pure (fun _ hv v hm => by
      rcases List.mem_cons.mp hm with rfl | hm
      · exact mm_vok_i _ _
      · exact hv v (List.mem_cons_of_mem _ hm)) (fun p l e R s m args below meth c G ρ H locs cells slots Z ls hx hb ho ht hl kW => lv_i2c hx hb hd rfl kW) (hK _ _ _ hs)
  · exact hs.elim
def s_lcmp (K : mmK) : mmK := fun lv st h => match st with
  | .long y :: .long x :: r => K lv (.int (lg_cmp x y) :: r) h
  | _ => False
theorem v_lcmp {q : mmM} {d : Nat} {b : Nat × Nat} {Q : Option Value → mmH → Prop} {pc : Nat} {K : mmK} (hd : decode q.2.1 pc = .ok (.lcmp, 1)) (hK : ∀ lv st h, K lv st h → mm_V q d b Q (pc + 1) lv st h) (lv : mmL) (st : List Value) (h : mmH) (hs : s_lcmp K lv st h) : mm_V q d b Q pc lv st h := by
  unfold s_lcmp at hs
  split at hs
  · exact mm_pure (fun _ hv v hm => by
      rcases List.mem_cons.mp hm with rfl | hm
      · exact mm_vok_i _ _
      · exact hv v (List.mem_cons_of_mem _ (List.mem_cons_of_mem _ hm))) (fun p l e R s m args below meth c G ρ H locs cells slots Z ls hx hb ho ht hl kW => W.lcmp hx hb hd kW) (hK _ _ _ hs)
  · exact hs.elim
def s_ic (x : Int32) (K : mmK) : mmK := fun lv st h => K lv (.int x :: st) h
def s_lc (x : Int64) (K : mmK) : mmK := fun lv st h => K lv (.long x :: st) h
def s_nul (K : mmK) : mmK := fun lv st h => K lv (.null :: st) h
def s_str (i : Nat) (K : mmK) : mmK := fun lv st h => K lv (.retAddr i :: st) h
theorem v_iconst {q : mmM} {d : Nat} {b : Nat × Nat} {Q : Option Value → mmH → Prop} {pc : Nat} {K : mmK} {n : Int} {x : Int32} (hd : decode q.2.1 pc = .ok (.iconst n, 1)) (hx0 : Int32.ofInt n = x) (hK : ∀ lv st h, K lv st h → mm_V q d b Q (pc + 1) lv st h) (lv : mmL) (st : List Value) (h : mmH) (hs : s_ic x K lv st h) : mm_V q d b Q pc lv st h :=
  mm_pure (fun _ hv v hm => by
      rcases List.mem_cons.mp hm with rfl | hm
      · exact mm_vok_i _ _
      · exact hv v hm) (fun p l e R s m args below meth c G ρ H locs cells slots Z ls hx hb ho ht hl kW => lv_iconst hx hb hd hx0 kW) (hK _ _ _ hs)
theorem v_bipush {q : mmM} {d : Nat} {b : Nat × Nat} {Q : Option Value → mmH → Prop} {pc : Nat} {K : mmK} {n : Int} {x : Int32} (hd : decode q.2.1 pc = .ok (.bipush n, 2)) (hx0 : (Int8.ofInt n).toInt32 = x) (hK : ∀ lv st h, K lv st h → mm_V q d b Q (pc + 2) lv st h) (lv : mmL) (st : List Value) (h : mmH) (hs : s_ic x K lv st h) : mm_V q d b Q pc lv st h :=
  mm_pure (fun _ hv v hm => by
      rcases List.mem_cons.mp hm with rfl | hm
      · exact mm_vok_i _ _
      · exact hv v hm) (fun p l e R s m args below meth c G ρ H locs cells slots Z ls hx hb ho ht hl kW => lv_bipush hx hb hd hx0 kW) (hK _ _ _ hs)
theorem v_sipush {q : mmM} {d : Nat} {b : Nat × Nat} {Q : Option Value → mmH → Prop} {pc : Nat} {K : mmK} {n : Int} {x : Int32} (hd : decode q.2.1 pc = .ok (.sipush n, 3)) (hx0 : (Int16.ofInt n).toInt32 = x) (hK : ∀ lv st h, K lv st h → mm_V q d b Q (pc + 3) lv st h) (lv : mmL) (st : List Value) (h : mmH) (hs : s_ic x K lv st h) : mm_V q d b Q pc lv st h :=
  mm_pure (fun _ hv v hm => by
      rcases List.mem_cons.mp hm with rfl | hm
      · exact mm_vok_i _ _
      · exact hv v hm) (fun p l e R s m args below meth c G ρ H locs cells slots Z ls hx hb ho ht hl kW => lv_sipush hx hb hd hx0 kW) (hK _ _ _ hs)
theorem v_lconst {q : mmM} {d : Nat} {b : Nat × Nat} {Q : Option Value → mmH → Prop} {pc : Nat} {K : mmK} {n : Fin 2} {x : Int64} (hd : decode q.2.1 pc = .ok (.lconst n, 1)) (hx0 : Int64.ofNat (n : Nat) = x) (hK : ∀ lv st h, K lv st h → mm_V q d b Q (pc + 1) lv st h) (lv : mmL) (st : List Value) (h : mmH) (hs : s_lc x K lv st h) : mm_V q d b Q pc lv st h :=
  mm_pure (fun _ hv v hm => by
      rcases List.mem_cons.mp hm with rfl | hm
      · exact mm_vok_l _ _
      · exact hv v hm) (fun p l e R s m args below meth c G ρ H locs cells slots Z ls hx hb ho ht hl kW => lv_lconst hx hb hd hx0 kW) (hK _ _ _ hs)
theorem v_ldc {q : mmM} {d : Nat} {b : Nat × Nat} {Q : Option Value → mmH → Prop} {pc : Nat} {K : mmK} {n : Nat} {x : Int32} (hd : decode q.2.1 pc = .ok (.ldc n, 2)) (hx0 : Cond.constant q.1.cls n x ∈ mm_tb) (hK : ∀ lv st h, K lv st h → mm_V q d b Q (pc + 2) lv st h) (lv : mmL) (st : List Value) (h : mmH) (hs : s_ic x K lv st h) : mm_V q d b Q pc lv st h :=
  mm_pure (fun _ hv v hm => by
      rcases List.mem_cons.mp hm with rfl | hm
      · exact mm_vok_i _ _
      · exact hv v hm) (fun p l e R s m args below meth c G ρ H locs cells slots Z ls hx hb ho ht hl kW => lv_ldc hx hb ho (ht _ hx0) hd kW) (hK _ _ _ hs)
theorem v_ldcw {q : mmM} {d : Nat} {b : Nat × Nat} {Q : Option Value → mmH → Prop} {pc : Nat} {K : mmK} {n : Nat} {x : Int32} (hd : decode q.2.1 pc = .ok (.ldc_w n, 3)) (hx0 : Cond.constant q.1.cls n x ∈ mm_tb) (hK : ∀ lv st h, K lv st h → mm_V q d b Q (pc + 3) lv st h) (lv : mmL) (st : List Value) (h : mmH) (hs : s_ic x K lv st h) : mm_V q d b Q pc lv st h :=
  mm_pure (fun _ hv v hm => by
      rcases List.mem_cons.mp hm with rfl | hm
      · exact mm_vok_i _ _
      · exact hv v hm) (fun p l e R s m args below meth c G ρ H locs cells slots Z ls hx hb ho ht hl kW => lv_ldcw hx hb ho (ht _ hx0) hd kW) (hK _ _ _ hs)
theorem v_ldc2 {q : mmM} {d : Nat} {b : Nat × Nat} {Q : Option Value → mmH → Prop} {pc : Nat} {K : mmK} {n : Nat} {x : Int64} (hd : decode q.2.1 pc = .ok (.ldc2_w n, 3)) (hx0 : Cond.constantLong q.1.cls n x ∈ mm_tb) (hK : ∀ lv st h, K lv st h → mm_V q d b Q (pc + 3) lv st h) (lv : mmL) (st : List Value) (h : mmH) (hs : s_lc x K lv st h) : mm_V q d b Q pc lv st h :=
  mm_pure (fun _ hv v hm => by
      rcases List.mem_cons.mp hm with rfl | hm
      · exact mm_vok_l _ _
      · exact hv v hm) (fun p l e R s m args below meth c G ρ H locs cells slots Z ls hx hb ho ht hl kW => lv_ldc2 hx hb ho (ht _ hx0) hd kW) (hK _ _ _ hs)
theorem v_null {q : mmM} {d : Nat} {b : Nat × Nat} {Q : Option Value → mmH → Prop} {pc : Nat} {K : mmK} (hd : decode q.2.1 pc = .ok (.aconst_null, 1)) (hK : ∀ lv st h, K lv st h → mm_V q d b Q (pc + 1) lv st h) (lv : mmL) (st : List Value) (h : mmH) (hs : s_nul K lv st h) : mm_V q d b Q pc lv st h :=
  mm_pure (fun _ hv v hm => by
      rcases List.mem_cons.mp hm with rfl | hm
      · exact mm_vok_n _
      · exact hv v hm) (fun p l e R s m args below meth c G ρ H locs cells slots Z ls hx hb ho ht hl kW => lv_null hx hb hd kW) (hK _ _ _ hs)
def s_il (i : Nat) (K : mmK) : mmK := fun lv st h => match mm_ld lv i with
  | some (.int x) => K lv (.int x :: st) h
  | _ => False
def s_ll (i : Nat) (K : mmK) : mmK := fun lv st h => match mm_ld lv i with
  | some (.long x) => K lv (.long x :: st) h
  | _ => False
def s_al (i : Nat) (K : mmK) : mmK := fun lv st h => match mm_ld lv i with
  | some (.ref x) => K lv (.ref x :: st) h
  | some .null => K lv (.null :: st) h
  | some (.retAddr x) => K lv (.retAddr x :: st) h
  | _ => False
theorem v_iload {q : mmM} {d : Nat} {b : Nat × Nat} {Q : Option Value → mmH → Prop} {pc : Nat} {K : mmK} {i : Nat} (hd : decode q.2.1 pc = .ok (.iload i, 2)) (hK : ∀ lv st h, K lv st h → mm_V q d b Q (pc + 2) lv st h) (lv : mmL) (st : List Value) (h : mmH) (hs : s_il i K lv st h) : mm_V q d b Q pc lv st h := by
  unfold s_il at hs
  split at hs
  · rename_i x9
    exact mm_pure (fun hv0 hv v hm => by
      rcases List.mem_cons.mp hm with rfl | hm
      · exact mm_vok_i _ _
      · exact hv v hm) (fun p l e R s m args below meth c G ρ H locs cells slots Z ls hx hb ho ht hl kW => lv_iload hx hb hd (hl _ _ (by assumption)) kW) (hK _ _ _ hs)
  · exact hs.elim
theorem v_iload_n {q : mmM} {d : Nat} {b : Nat × Nat} {Q : Option Value → mmH → Prop} {pc : Nat} {K : mmK} {k : Fin 4} {i : Nat} (hd : decode q.2.1 pc = .ok (.iload_n k, 1)) (hi : (k : Nat) = i) (hK : ∀ lv st h, K lv st h → mm_V q d b Q (pc + 1) lv st h) (lv : mmL) (st : List Value) (h : mmH) (hs : s_il i K lv st h) : mm_V q d b Q pc lv st h := by
  unfold s_il at hs
  split at hs
  · rename_i x9
    exact mm_pure (fun hv0 hv v hm => by
      rcases List.mem_cons.mp hm with rfl | hm
      · exact mm_vok_i _ _
      · exact hv v hm) (fun p l e R s m args below meth c G ρ H locs cells slots Z ls hx hb ho ht hl kW => lv_iload_n hx hb hd hi (hl _ _ (by assumption)) kW) (hK _ _ _ hs)
  · exact hs.elim
theorem v_lload {q : mmM} {d : Nat} {b : Nat × Nat} {Q : Option Value → mmH → Prop} {pc : Nat} {K : mmK} {i : Nat} (hd : decode q.2.1 pc = .ok (.lload i, 2)) (hK : ∀ lv st h, K lv st h → mm_V q d b Q (pc + 2) lv st h) (lv : mmL) (st : List Value) (h : mmH) (hs : s_ll i K lv st h) : mm_V q d b Q pc lv st h := by
  unfold s_ll at hs
  split at hs
  · rename_i x9
    exact mm_pure (fun hv0 hv v hm => by
      rcases List.mem_cons.mp hm with rfl | hm
      · exact mm_vok_l _ _
      · exact hv v hm) (fun p l e R s m args below meth c G ρ H locs cells slots Z ls hx hb ho ht hl kW => lv_lload hx hb hd (hl _ _ (by assumption)) kW) (hK _ _ _ hs)
  · exact hs.elim
theorem v_lload_n {q : mmM} {d : Nat} {b : Nat × Nat} {Q : Option Value → mmH → Prop} {pc : Nat} {K : mmK} {k : Fin 4} {i : Nat} (hd : decode q.2.1 pc = .ok (.lload_n k, 1)) (hi : (k : Nat) = i) (hK : ∀ lv st h, K lv st h → mm_V q d b Q (pc + 1) lv st h) (lv : mmL) (st : List Value) (h : mmH) (hs : s_ll i K lv st h) : mm_V q d b Q pc lv st h := by
  unfold s_ll at hs
  split at hs
  · rename_i x9
    exact mm_pure (fun hv0 hv v hm => by
      rcases List.mem_cons.mp hm with rfl | hm
      · exact mm_vok_l _ _
      · exact hv v hm) (fun p l e R s m args below meth c G ρ H locs cells slots Z ls hx hb ho ht hl kW => lv_lload_n hx hb hd hi (hl _ _ (by assumption)) kW) (hK _ _ _ hs)
  · exact hs.elim
theorem v_aload {q : mmM} {d : Nat} {b : Nat × Nat} {Q : Option Value → mmH → Prop} {pc : Nat} {K : mmK} {i : Nat} (hd : decode q.2.1 pc = .ok (.aload i, 2)) (hK : ∀ lv st h, K lv st h → mm_V q d b Q (pc + 2) lv st h) (lv : mmL) (st : List Value) (h : mmH) (hs : s_al i K lv st h) : mm_V q d b Q pc lv st h := by
  unfold s_al at hs
  split at hs
  · rename_i x9
    exact mm_pure (fun hv0 hv v hm => by
      rcases List.mem_cons.mp hm with rfl | hm
      · exact hv0 _ (mm_ld_mem (by assumption))
      · exact hv v hm) (fun p l e R s m args below meth c G ρ H locs cells slots Z ls hx hb ho ht hl kW => lv_aload hx hb hd (hl _ _ (by assumption)) kW) (hK _ _ _ hs)
  · rename_i x9
    exact mm_pure (fun hv0 hv v hm => by
      rcases List.mem_cons.mp hm with rfl | hm
      · exact mm_vok_n _
      · exact hv v hm) (fun p l e R s m args below meth c G ρ H locs cells slots Z ls hx hb ho ht hl kW => lv_aloadN hx hb hd (hl _ _ (by assumption)) kW) (hK _ _ _ hs)
  · rename_i x9
    exact mm_pure (fun hv0 hv v hm => by
      rcases List.mem_cons.mp hm with rfl | hm
      · exact mm_vok_s _ _
      · exact hv v hm) (fun p l e R s m args below meth c G ρ H locs cells slots Z ls hx hb ho ht hl kW => lv_aload hx hb hd (hl _ _ (by assumption)) kW) (hK _ _ _ hs)
  · exact hs.elim
theorem v_aload_n {q : mmM} {d : Nat} {b : Nat × Nat} {Q : Option Value → mmH → Prop} {pc : Nat} {K : mmK} {k : Fin 4} {i : Nat} (hd : decode q.2.1 pc = .ok (.aload_n k, 1)) (hi : (k : Nat) = i) (hK : ∀ lv st h, K lv st h → mm_V q d b Q (pc + 1) lv st h) (lv : mmL) (st : List Value) (h : mmH) (hs : s_al i K lv st h) : mm_V q d b Q pc lv st h := by
  unfold s_al at hs
  split at hs
  · rename_i x9
    exact mm_pure (fun hv0 hv v hm => by
      rcases List.mem_cons.mp hm with rfl | hm
      · exact hv0 _ (mm_ld_mem (by assumption))
      · exact hv v hm) (fun p l e R s m args below meth c G ρ H locs cells slots Z ls hx hb ho ht hl kW => lv_aload_n hx hb hd hi (hl _ _ (by assumption)) kW) (hK _ _ _ hs)
  · rename_i x9
    exact mm_pure (fun hv0 hv v hm => by
      rcases List.mem_cons.mp hm with rfl | hm
      · exact mm_vok_n _
      · exact hv v hm) (fun p l e R s m args below meth c G ρ H locs cells slots Z ls hx hb ho ht hl kW => lv_aload_nN hx hb hd hi (hl _ _ (by assumption)) kW) (hK _ _ _ hs)
  · rename_i x9
    exact mm_pure (fun hv0 hv v hm => by
      rcases List.mem_cons.mp hm with rfl | hm
      · exact mm_vok_s _ _
      · exact hv v hm) (fun p l e R s m args below meth c G ρ H locs cells slots Z ls hx hb ho ht hl kW => lv_aload_n hx hb hd hi (hl _ _ (by assumption)) kW) (hK _ _ _ hs)
  · exact hs.elim
def s_dup (K : mmK) : mmK := fun lv st h => match st with
  | v :: r => v.category = 1 ∧ K lv (v :: v :: r) h
  | _ => False
def s_dup2 (K : mmK) : mmK := fun lv st h => match st with
  | v :: u :: r => (v.category = 1 ∧ u.category = 1) ∧ K lv (v :: u :: v :: u :: r) h
  | _ => False
def s_pop (K : mmK) : mmK := fun lv st h => match st with
  | v :: r => v.category = 1 ∧ K lv r h
  | _ => False
theorem v_dup {q : mmM} {d : Nat} {b : Nat × Nat} {Q : Option Value → mmH → Prop} {pc : Nat} {K : mmK} (hd : decode q.2.1 pc = .ok (.dup, 1)) (hK : ∀ lv st h, K lv st h → mm_V q d b Q (pc + 1) lv st h) (lv : mmL) (st : List Value) (h : mmH) (hs : s_dup K lv st h) : mm_V q d b Q pc lv st h := by
  unfold s_dup at hs
  split at hs
  · exact mm_pure (fun _ hv v hm => by
      rcases List.mem_cons.mp hm with rfl | hm
      · exact hv _ List.mem_cons_self
      · exact hv v hm) (fun p l e R s m args below meth c G ρ H locs cells slots Z ls hx hb ho ht hl kW => lv_dup hx hb hd (by rw [mm_tv_cat]; exact hs.1) kW) (hK _ _ _ hs.2)
  · exact hs.elim
theorem v_dup2 {q : mmM} {d : Nat} {b : Nat × Nat} {Q : Option Value → mmH → Prop} {pc : Nat} {K : mmK} (hd : decode q.2.1 pc = .ok (.dup2, 1)) (hK : ∀ lv st h, K lv st h → mm_V q d b Q (pc + 1) lv st h) (lv : mmL) (st : List Value) (h : mmH) (hs : s_dup2 K lv st h) : mm_V q d b Q pc lv st h := by
  unfold s_dup2 at hs
  split at hs
  · exact mm_pure (fun _ hv v hm => by
      rcases List.mem_cons.mp hm with rfl | hm
      · exact hv _ List.mem_cons_self
      · rcases List.mem_cons.mp hm with rfl | hm
        · exact hv _ (List.mem_cons_of_mem _ List.mem_cons_self)
        · exact hv v hm) (fun p l e R s m args below meth c G ρ H locs cells slots Z ls hx hb ho ht hl kW => lv_dup2_11 hx hb hd (by rw [mm_tv_cat]; exact hs.1.1) (by rw [mm_tv_cat]; exact hs.1.2) kW) (hK _ _ _ hs.2)
  · exact hs.elim
theorem v_pop {q : mmM} {d : Nat} {b : Nat × Nat} {Q : Option Value → mmH → Prop} {pc : Nat} {K : mmK} (hd : decode q.2.1 pc = .ok (.pop, 1)) (hK : ∀ lv st h, K lv st h → mm_V q d b Q (pc + 1) lv st h) (lv : mmL) (st : List Value) (h : mmH) (hs : s_pop K lv st h) : mm_V q d b Q pc lv st h := by
  unfold s_pop at hs
  split at hs
  · exact mm_pure (fun _ hv v hm => hv v (List.mem_cons_of_mem _ hm)) (fun p l e R s m args below meth c G ρ H locs cells slots Z ls hx hb ho ht hl kW => lv_pop hx hb hd (by rw [mm_tv_cat]; exact hs.1) kW) (hK _ _ _ hs.2)
  · exact hs.elim
/-- a branch -/
theorem mm_br {q : mmM} {d : Nat} {b : Nat × Nat} {Q : Option Value → mmH → Prop} {pc pt pf : Nat} {lv : mmL} {st st' : List Value} {h : mmH} {X : Prop}
    (hst : ∀ v ∈ st', v ∈ st)
    (hW : ∀ (p : Program) (l : Launch) (e : Env) (R : Room) (s : State) (m : MethodId) (args : Array Value) (below : List Frame) (meth : Method) (c : Code) (G : mmG) (ρ : Nat → Nat) (H : Heap) (locs : List Loc) (cells slots : Nat) (Z : State → Prop) (ls : Array Slot), p.tables.exec = Jvm.exec → c.code = q.2.1 →
      (X → W p l e R s m args below meth c H locs cells slots Z (F0 m pt ls (st'.map (mm_tv G ρ)))) → (¬ X → W p l e R s m args below meth c H locs cells slots Z (F0 m pf ls (st'.map (mm_tv G ρ)))) → W p l e R s m args below meth c H locs cells slots Z (F0 m pc ls (st.map (mm_tv G ρ))))
    (kt : X → mm_V q d b Q pt lv st' h) (kf : ¬ X → mm_V q d b Q pf lv st' h) : mm_V q d b Q pc lv st h := by
  intro p l e R s m args below meth c G A ρ ρ0 n0 H locs cells slots MC MS ls hX hS hR hn hρ hc hm hl hv hvs
  have hvs' : ∀ v ∈ st', mm_vok h v := fun v hm => hvs v (hst v hm)
  exact hW p l e R s m args below meth c G ρ H locs cells slots _ ls hX.1.1 hX.1.2.1 (fun x => kt x p l e R s m args below meth c G A ρ ρ0 n0 H locs cells slots MC MS ls hX hS hR hn hρ hc hm hl hv hvs') (fun x => kf x p l e R s m args below meth c G A ρ ρ0 n0 H locs cells slots MC MS ls hX hS hR hn hρ hc hm hl hv hvs')
def s_ifne (Kt Kf : mmK) : mmK := fun lv st h => match st with
  | .int x :: r => (¬ x = 0 → Kt lv r h) ∧ (x = 0 → Kf lv r h)
  | _ => False
theorem v_ifne {q : mmM} {d : Nat} {b : Nat × Nat} {Q : Option Value → mmH → Prop} {pc : Nat} {Kt Kf : mmK} {off : Int} {tgt : Nat} (hd : decode q.2.1 pc = .ok (.ifCond .ne off, 3)) (ht : (pc : Int) + off = (tgt : Int)) (hT : ∀ lv st h, Kt lv st h → mm_V q d b Q tgt lv st h) (hF : ∀ lv st h, Kf lv st h → mm_V q d b Q (pc + 3) lv st h) (lv : mmL) (st : List Value) (h : mmH) (hs : s_ifne Kt Kf lv st h) : mm_V q d b Q pc lv st h := by
  unfold s_ifne at hs
  split at hs
  · exact mm_br (fun v hm => List.mem_cons_of_mem _ hm) (fun p l e R s m args below meth c G ρ H locs cells slots Z ls hx hb k1 k2 => lv_if_ne hx hb hd ht k2 k1) (fun x => hF _ _ _ (hs.2 x)) (fun x => hT _ _ _ (hs.1 x))
  · exact hs.elim
def s_icne (Kt Kf : mmK) : mmK := fun lv st h => match st with
  | .int y :: .int x :: r => (¬ x = y → Kt lv r h) ∧ (x = y → Kf lv r h)
  | _ => False
theorem v_icne {q : mmM} {d : Nat} {b : Nat × Nat} {Q : Option Value → mmH → Prop} {pc : Nat} {Kt Kf : mmK} {off : Int} {tgt : Nat} (hd : decode q.2.1 pc = .ok (.if_icmp .ne off, 3)) (ht : (pc : Int) + off = (tgt : Int)) (hT : ∀ lv st h, Kt lv st h → mm_V q d b Q tgt lv st h) (hF : ∀ lv st h, Kf lv st h → mm_V q d b Q (pc + 3) lv st h) (lv : mmL) (st : List Value) (h : mmH) (hs : s_icne Kt Kf lv st h) : mm_V q d b Q pc lv st h := by
  unfold s_icne at hs
  split at hs
  · exact mm_br (fun v hm => List.mem_cons_of_mem _ (List.mem_cons_of_mem _ hm)) (fun p l e R s m args below meth c G ρ H locs cells slots Z ls hx hb k1 k2 => lv_icmp_ne hx hb hd ht k2 k1) (fun x => hF _ _ _ (hs.2 x)) (fun x => hT _ _ _ (hs.1 x))
  · exact hs.elim
def s_ifeq (Kt Kf : mmK) : mmK := fun lv st h => match st with
  | .int x :: r => (x = 0 → Kt lv r h) ∧ (¬ x = 0 → Kf lv r h)
  | _ => False
theorem v_ifeq {q : mmM} {d : Nat} {b : Nat × Nat} {Q : Option Value → mmH → Prop} {pc : Nat} {Kt Kf : mmK} {off : Int} {tgt : Nat} (hd : decode q.2.1 pc = .ok (.ifCond .eq off, 3)) (ht : (pc : Int) + off = (tgt : Int)) (hT : ∀ lv st h, Kt lv st h → mm_V q d b Q tgt lv st h) (hF : ∀ lv st h, Kf lv st h → mm_V q d b Q (pc + 3) lv st h) (lv : mmL) (st : List Value) (h : mmH) (hs : s_ifeq Kt Kf lv st h) : mm_V q d b Q pc lv st h := by
  unfold s_ifeq at hs
  split at hs
  · exact mm_br (fun v hm => List.mem_cons_of_mem _ hm) (fun p l e R s m args below meth c G ρ H locs cells slots Z ls hx hb k1 k2 => lv_if_eq hx hb hd ht k1 k2) (fun x => hT _ _ _ (hs.1 x)) (fun x => hF _ _ _ (hs.2 x))
  · exact hs.elim
def s_iflt (Kt Kf : mmK) : mmK := fun lv st h => match st with
  | .int x :: r => (x < 0 → Kt lv r h) ∧ (¬ x < 0 → Kf lv r h)
  | _ => False
theorem v_iflt {q : mmM} {d : Nat} {b : Nat × Nat} {Q : Option Value → mmH → Prop} {pc : Nat} {Kt Kf : mmK} {off : Int} {tgt : Nat} (hd : decode q.2.1 pc = .ok (.ifCond .lt off, 3)) (ht : (pc : Int) + off = (tgt : Int)) (hT : ∀ lv st h, Kt lv st h → mm_V q d b Q tgt lv st h) (hF : ∀ lv st h, Kf lv st h → mm_V q d b Q (pc + 3) lv st h) (lv : mmL) (st : List Value) (h : mmH) (hs : s_iflt Kt Kf lv st h) : mm_V q d b Q pc lv st h := by
  unfold s_iflt at hs
  split at hs
  · exact mm_br (fun v hm => List.mem_cons_of_mem _ hm) (fun p l e R s m args below meth c G ρ H locs cells slots Z ls hx hb k1 k2 => lv_if_lt hx hb hd ht k1 k2) (fun x => hT _ _ _ (hs.1 x)) (fun x => hF _ _ _ (hs.2 x))
  · exact hs.elim
def s_ifge (Kt Kf : mmK) : mmK := fun lv st h => match st with
  | .int x :: r => (0 ≤ x → Kt lv r h) ∧ (¬ 0 ≤ x → Kf lv r h)
  | _ => False
theorem v_ifge {q : mmM} {d : Nat} {b : Nat × Nat} {Q : Option Value → mmH → Prop} {pc : Nat} {Kt Kf : mmK} {off : Int} {tgt : Nat} (hd : decode q.2.1 pc = .ok (.ifCond .ge off, 3)) (ht : (pc : Int) + off = (tgt : Int)) (hT : ∀ lv st h, Kt lv st h → mm_V q d b Q tgt lv st h) (hF : ∀ lv st h, Kf lv st h → mm_V q d b Q (pc + 3) lv st h) (lv : mmL) (st : List Value) (h : mmH) (hs : s_ifge Kt Kf lv st h) : mm_V q d b Q pc lv st h := by
  unfold s_ifge at hs
  split at hs
  · exact mm_br (fun v hm => List.mem_cons_of_mem _ hm) (fun p l e R s m args below meth c G ρ H locs cells slots Z ls hx hb k1 k2 => lv_if_ge hx hb hd ht k1 k2) (fun x => hT _ _ _ (hs.1 x)) (fun x => hF _ _ _ (hs.2 x))
  · exact hs.elim
def s_ifgt (Kt Kf : mmK) : mmK := fun lv st h => match st with
  | .int x :: r => (0 < x → Kt lv r h) ∧ (¬ 0 < x → Kf lv r h)
  | _ => False
theorem v_ifgt {q : mmM} {d : Nat} {b : Nat × Nat} {Q : Option Value → mmH → Prop} {pc : Nat} {Kt Kf : mmK} {off : Int} {tgt : Nat} (hd : decode q.2.1 pc = .ok (.ifCond .gt off, 3)) (ht : (pc : Int) + off = (tgt : Int)) (hT : ∀ lv st h, Kt lv st h → mm_V q d b Q tgt lv st h) (hF : ∀ lv st h, Kf lv st h → mm_V q d b Q (pc + 3) lv st h) (lv : mmL) (st : List Value) (h : mmH) (hs : s_ifgt Kt Kf lv st h) : mm_V q d b Q pc lv st h := by
  unfold s_ifgt at hs
  split at hs
  · exact mm_br (fun v hm => List.mem_cons_of_mem _ hm) (fun p l e R s m args below meth c G ρ H locs cells slots Z ls hx hb k1 k2 => lv_if_gt hx hb hd ht k1 k2) (fun x => hT _ _ _ (hs.1 x)) (fun x => hF _ _ _ (hs.2 x))
  · exact hs.elim
def s_ifle (Kt Kf : mmK) : mmK := fun lv st h => match st with
  | .int x :: r => (x ≤ 0 → Kt lv r h) ∧ (¬ x ≤ 0 → Kf lv r h)
  | _ => False
theorem v_ifle {q : mmM} {d : Nat} {b : Nat × Nat} {Q : Option Value → mmH → Prop} {pc : Nat} {Kt Kf : mmK} {off : Int} {tgt : Nat} (hd : decode q.2.1 pc = .ok (.ifCond .le off, 3)) (ht : (pc : Int) + off = (tgt : Int)) (hT : ∀ lv st h, Kt lv st h → mm_V q d b Q tgt lv st h) (hF : ∀ lv st h, Kf lv st h → mm_V q d b Q (pc + 3) lv st h) (lv : mmL) (st : List Value) (h : mmH) (hs : s_ifle Kt Kf lv st h) : mm_V q d b Q pc lv st h := by
  unfold s_ifle at hs
  split at hs
  · exact mm_br (fun v hm => List.mem_cons_of_mem _ hm) (fun p l e R s m args below meth c G ρ H locs cells slots Z ls hx hb k1 k2 => lv_if_le hx hb hd ht k1 k2) (fun x => hT _ _ _ (hs.1 x)) (fun x => hF _ _ _ (hs.2 x))
  · exact hs.elim
def s_iceq (Kt Kf : mmK) : mmK := fun lv st h => match st with
  | .int y :: .int x :: r => (x = y → Kt lv r h) ∧ (¬ x = y → Kf lv r h)
  | _ => False
theorem v_iceq {q : mmM} {d : Nat} {b : Nat × Nat} {Q : Option Value → mmH → Prop} {pc : Nat} {Kt Kf : mmK} {off : Int} {tgt : Nat} (hd : decode q.2.1 pc = .ok (.if_icmp .eq off, 3)) (ht : (pc : Int) + off = (tgt : Int)) (hT : ∀ lv st h, Kt lv st h → mm_V q d b Q tgt lv st h) (hF : ∀ lv st h, Kf lv st h → mm_V q d b Q (pc + 3) lv st h) (lv : mmL) (st : List Value) (h : mmH) (hs : s_iceq Kt Kf lv st h) : mm_V q d b Q pc lv st h := by
  unfold s_iceq at hs
  split at hs
  · exact mm_br (fun v hm => List.mem_cons_of_mem _ (List.mem_cons_of_mem _ hm)) (fun p l e R s m args below meth c G ρ H locs cells slots Z ls hx hb k1 k2 => lv_icmp_eq hx hb hd ht k1 k2) (fun x => hT _ _ _ (hs.1 x)) (fun x => hF _ _ _ (hs.2 x))
  · exact hs.elim
def s_iclt (Kt Kf : mmK) : mmK := fun lv st h => match st with
  | .int y :: .int x :: r => (x < y → Kt lv r h) ∧ (¬ x < y → Kf lv r h)
  | _ => False
theorem v_iclt {q : mmM} {d : Nat} {b : Nat × Nat} {Q : Option Value → mmH → Prop} {pc : Nat} {Kt Kf : mmK} {off : Int} {tgt : Nat} (hd : decode q.2.1 pc = .ok (.if_icmp .lt off, 3)) (ht : (pc : Int) + off = (tgt : Int)) (hT : ∀ lv st h, Kt lv st h → mm_V q d b Q tgt lv st h) (hF : ∀ lv st h, Kf lv st h → mm_V q d b Q (pc + 3) lv st h) (lv : mmL) (st : List Value) (h : mmH) (hs : s_iclt Kt Kf lv st h) : mm_V q d b Q pc lv st h := by
  unfold s_iclt at hs
  split at hs
  · exact mm_br (fun v hm => List.mem_cons_of_mem _ (List.mem_cons_of_mem _ hm)) (fun p l e R s m args below meth c G ρ H locs cells slots Z ls hx hb k1 k2 => lv_icmp_lt hx hb hd ht k1 k2) (fun x => hT _ _ _ (hs.1 x)) (fun x => hF _ _ _ (hs.2 x))
  · exact hs.elim
def s_icge (Kt Kf : mmK) : mmK := fun lv st h => match st with
  | .int y :: .int x :: r => (y ≤ x → Kt lv r h) ∧ (¬ y ≤ x → Kf lv r h)
  | _ => False
theorem v_icge {q : mmM} {d : Nat} {b : Nat × Nat} {Q : Option Value → mmH → Prop} {pc : Nat} {Kt Kf : mmK} {off : Int} {tgt : Nat} (hd : decode q.2.1 pc = .ok (.if_icmp .ge off, 3)) (ht : (pc : Int) + off = (tgt : Int)) (hT : ∀ lv st h, Kt lv st h → mm_V q d b Q tgt lv st h) (hF : ∀ lv st h, Kf lv st h → mm_V q d b Q (pc + 3) lv st h) (lv : mmL) (st : List Value) (h : mmH) (hs : s_icge Kt Kf lv st h) : mm_V q d b Q pc lv st h := by
  unfold s_icge at hs
  split at hs
  · exact mm_br (fun v hm => List.mem_cons_of_mem _ (List.mem_cons_of_mem _ hm)) (fun p l e R s m args below meth c G ρ H locs cells slots Z ls hx hb k1 k2 => lv_icmp_ge hx hb hd ht k1 k2) (fun x => hT _ _ _ (hs.1 x)) (fun x => hF _ _ _ (hs.2 x))
  · exact hs.elim
def s_icgt (Kt Kf : mmK) : mmK := fun lv st h => match st with
  | .int y :: .int x :: r => (y < x → Kt lv r h) ∧ (¬ y < x → Kf lv r h)
  | _ => False
theorem v_icgt {q : mmM} {d : Nat} {b : Nat × Nat} {Q : Option Value → mmH → Prop} {pc : Nat} {Kt Kf : mmK} {off : Int} {tgt : Nat} (hd : decode q.2.1 pc = .ok (.if_icmp .gt off, 3)) (ht : (pc : Int) + off = (tgt : Int)) (hT : ∀ lv st h, Kt lv st h → mm_V q d b Q tgt lv st h) (hF : ∀ lv st h, Kf lv st h → mm_V q d b Q (pc + 3) lv st h) (lv : mmL) (st : List Value) (h : mmH) (hs : s_icgt Kt Kf lv st h) : mm_V q d b Q pc lv st h := by
  unfold s_icgt at hs
  split at hs
  · exact mm_br (fun v hm => List.mem_cons_of_mem _ (List.mem_cons_of_mem _ hm)) (fun p l e R s m args below meth c G ρ H locs cells slots Z ls hx hb k1 k2 => lv_icmp_gt hx hb hd ht k1 k2) (fun x => hT _ _ _ (hs.1 x)) (fun x => hF _ _ _ (hs.2 x))
  · exact hs.elim
def s_icle (Kt Kf : mmK) : mmK := fun lv st h => match st with
  | .int y :: .int x :: r => (x ≤ y → Kt lv r h) ∧ (¬ x ≤ y → Kf lv r h)
  | _ => False
theorem v_icle {q : mmM} {d : Nat} {b : Nat × Nat} {Q : Option Value → mmH → Prop} {pc : Nat} {Kt Kf : mmK} {off : Int} {tgt : Nat} (hd : decode q.2.1 pc = .ok (.if_icmp .le off, 3)) (ht : (pc : Int) + off = (tgt : Int)) (hT : ∀ lv st h, Kt lv st h → mm_V q d b Q tgt lv st h) (hF : ∀ lv st h, Kf lv st h → mm_V q d b Q (pc + 3) lv st h) (lv : mmL) (st : List Value) (h : mmH) (hs : s_icle Kt Kf lv st h) : mm_V q d b Q pc lv st h := by
  unfold s_icle at hs
  split at hs
  · exact mm_br (fun v hm => List.mem_cons_of_mem _ (List.mem_cons_of_mem _ hm)) (fun p l e R s m args below meth c G ρ H locs cells slots Z ls hx hb k1 k2 => lv_icmp_le hx hb hd ht k1 k2) (fun x => hT _ _ _ (hs.1 x)) (fun x => hF _ _ _ (hs.2 x))
  · exact hs.elim
theorem v_goto {q : mmM} {d : Nat} {b : Nat × Nat} {Q : Option Value → mmH → Prop} {pc : Nat} {K : mmK} {off : Int} {tgt : Nat} (hd : decode q.2.1 pc = .ok (.goto off, 3)) (ht : (pc : Int) + off = (tgt : Int)) (hK : ∀ lv st h, K lv st h → mm_V q d b Q tgt lv st h) (lv : mmL) (st : List Value) (h : mmH) (hs : K lv st h) : mm_V q d b Q pc lv st h :=
  mm_pure (fun _ hv => hv) (fun p l e R s m args below meth c G ρ H locs cells slots Z ls hx hb ho ht0 hl kW => lv_goto hx hb hd ht kW) (hK _ _ _ hs)
def s_ifnull (Kt Kf : mmK) : mmK := fun lv st h => match st with
  | .null :: r => Kt lv r h
  | .ref _ :: r => Kf lv r h
  | _ => False
theorem v_ifnull {q : mmM} {d : Nat} {b : Nat × Nat} {Q : Option Value → mmH → Prop} {pc : Nat} {Kt Kf : mmK} {off : Int} {tgt : Nat} (hd : decode q.2.1 pc = .ok (.ifnull off, 3)) (ht : (pc : Int) + off = (tgt : Int)) (hT : ∀ lv st h, Kt lv st h → mm_V q d b Q tgt lv st h) (hF : ∀ lv st h, Kf lv st h → mm_V q d b Q (pc + 3) lv st h) (lv : mmL) (st : List Value) (h : mmH) (hs : s_ifnull Kt Kf lv st h) : mm_V q d b Q pc lv st h := by
  unfold s_ifnull at hs
  split at hs
  · exact mm_pure (fun _ hv v hm => hv v (List.mem_cons_of_mem _ hm)) (fun p l e R s m args below meth c G ρ H locs cells slots Z ls hx hb ho ht0 hl kW => lv_ifnullN hx hb hd ht kW) (hT _ _ _ hs)
  · exact mm_pure (fun _ hv v hm => hv v (List.mem_cons_of_mem _ hm)) (fun p l e R s m args below meth c G ρ H locs cells slots Z ls hx hb ho ht0 hl kW => lv_ifnull hx hb hd kW) (hF _ _ _ hs)
  · exact hs.elim
def s_ifnonnull (Kt Kf : mmK) : mmK := fun lv st h => match st with
  | .null :: r => Kf lv r h
  | .ref _ :: r => Kt lv r h
  | _ => False
theorem v_ifnonnull {q : mmM} {d : Nat} {b : Nat × Nat} {Q : Option Value → mmH → Prop} {pc : Nat} {Kt Kf : mmK} {off : Int} {tgt : Nat} (hd : decode q.2.1 pc = .ok (.ifnonnull off, 3)) (ht : (pc : Int) + off = (tgt : Int)) (hT : ∀ lv st h, Kt lv st h → mm_V q d b Q tgt lv st h) (hF : ∀ lv st h, Kf lv st h → mm_V q d b Q (pc + 3) lv st h) (lv : mmL) (st : List Value) (h : mmH) (hs : s_ifnonnull Kt Kf lv st h) : mm_V q d b Q pc lv st h := by
  unfold s_ifnonnull at hs
  split at hs
  · exact mm_pure (fun _ hv v hm => hv v (List.mem_cons_of_mem _ hm)) (fun p l e R s m args below meth c G ρ H locs cells slots Z ls hx hb ho ht0 hl kW => lv_ifnonnullN hx hb hd kW) (hF _ _ _ hs)
  · exact mm_pure (fun _ hv v hm => hv v (List.mem_cons_of_mem _ hm)) (fun p l e R s m args below meth c G ρ H locs cells slots Z ls hx hb ho ht0 hl kW => lv_ifnonnull hx hb hd ht kW) (hT _ _ _ hs)
  · exact hs.elim
