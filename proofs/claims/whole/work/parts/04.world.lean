/-! the picture and the heap -/
def mm_fv (ρ : Nat → Nat) (h : mmH) (a ci k : Nat) : Value := match mm_tc (mm_ty ci k) with
  | 1 => .long (mm_gl h a k)
  | 2 => va_rf ((mm_gr h a k).map ρ)
  | _ => .int (mm_gi h a k)
def mm_ce (G : mmG) (ρ : Nat → Nat) (h : mmH) (a : Nat) : va_E :=
  if mm_kd h a = 100 then .inl (G.2.1 0, mm_ln h a, .inl (mm_gi h a))
  else if mm_kd h a = 101 then .inl (G.2.1 1, mm_ln h a, .inr (.inl (mm_gl h a)))
  else if mm_kd h a = 102 then .inl (G.2.1 2, mm_ln h a, .inl (mm_gi h a))
  else if mm_kd h a = 103 then .inl (G.2.1 3, mm_ln h a, .inr (.inr (.inr (.inr fun k => (mm_gr h a k).map ρ))))
  else if mm_kd h a = 104 then .inl (G.2.1 4, mm_ln h a, .inr (.inr (.inr (.inr fun k => (mm_gr h a k).map ρ))))
  else .inr (mm_kd h a, (List.range (mm_N (mm_kd h a))).map (mm_fv ρ h a (mm_kd h a)))
def mm_wl (G : mmG) (ρ : Nat → Nat) (h : mmH) : va_W := (List.range (mm_sz h)).map (fun a => (ρ a, mm_ce G ρ h a))
def mm_tys (G : mmG) : List (ClassId × FieldType) := [(G.2.1 0, .int), (G.2.1 1, .long), (G.2.1 2, .boolean), (G.2.1 3, .object RX6), (G.2.1 4, .object RX1)]
theorem mm_wl_at {G : mmG} {ρ : Nat → Nat} {h : mmH} {a : Nat} (ha : a < mm_sz h) : (mm_wl G ρ h)[a]? = some (ρ a, mm_ce G ρ h a) := by
  simp [mm_wl, ha]
theorem mm_wl_set {G : mmG} {ρ : Nat → Nat} {h h' : mmH} {a : Nat} {e : va_E} (hs : mm_sz h' = mm_sz h) (he : mm_ce G ρ h' a = e) (ho : ∀ b, b ≠ a → mm_ce G ρ h' b = mm_ce G ρ h b) : (mm_wl G ρ h).set a (ρ a, e) = mm_wl G ρ h' := by
  apply List.ext_getElem?
  intro i
  rw [List.getElem?_set]
  by_cases hi : i < mm_sz h
  · rw [mm_wl_at (h := h') (by omega)]
    by_cases hia : a = i
    · subst hia
      simp [mm_wl, hi, he]
    · rw [if_neg hia, mm_wl_at hi, ho i (fun z => hia z.symm)]
  · have e1 : (mm_wl G ρ h)[i]? = none := by simp [mm_wl]; omega
    have e2 : (mm_wl G ρ h')[i]? = none := by simp [mm_wl]; omega
    rw [e1, e2]
    have e3 : ¬ i < (mm_wl G ρ h).length := by simp [mm_wl]; omega
    by_cases z : a = i
    · rw [if_pos z]; simp; omega
    · rw [if_neg z]
theorem mm_wl_new {G : mmG} {ρ : Nat → Nat} {h h' : mmH} {q : Nat} {e : va_E} (hs : mm_sz h' = mm_sz h + 1) (he : mm_ce G (fun x => if x = mm_sz h then q else ρ x) h' (mm_sz h) = e) (ho : ∀ b, b < mm_sz h → mm_ce G (fun x => if x = mm_sz h then q else ρ x) h' b = mm_ce G ρ h b) : mm_wl G ρ h ++ [(q, e)] = mm_wl G (fun x => if x = mm_sz h then q else ρ x) h' := by
  unfold mm_wl
  rw [hs, List.range_succ, List.map_append]
  congr 1
  · apply List.map_congr_left
    intro b hb
    have hb : b < mm_sz h := List.mem_range.mp hb
    rw [ho b hb]
    simp [Nat.ne_of_lt hb]
  · simp [he]
/-- the heap holds the picture -/
def mm_RL (G : mmG) (A : Nat → Prop) (ρ : Nat → Nat) (h : mmH) (H : Heap) : Prop :=
  va_P G.1 vwCl (mm_wl G ρ h) H ∧ va_D A (mm_wl G ρ h) ∧ ∀ a k b, a < mm_sz h → mm_gr h a k = some b → b < mm_sz h
/-- the String constants of the claim: class, entry, text, bytes -/
def mm_sk : List (String × Nat × String × List Int32) := [("DeadLetters$Reader", 69, "read answer lose pass", [114, 101, 97, 100, 32, 97, 110, 115, 119, 101, 114, 32, 108, 111, 115, 101, 32, 112, 97, 115, 115]), ("DeadLetters$Reader", 71, "worth shuns fades bars", [119, 111, 114, 116, 104, 32, 115, 104, 117, 110, 115, 32, 102, 97, 100, 101, 115, 32, 98, 97, 114, 115]), ("DeadLetters$Reader", 141, "not", [110, 111, 116]), ("DeadLetters$Reader", 150, "day done latest open knows grown", [100, 97, 121, 32, 100, 111, 110, 101, 32, 108, 97, 116, 101, 115, 116, 32, 111, 112, 101, 110, 32, 107, 110, 111, 119, 115, 32, 103, 114, 111, 119, 110]), ("DeadLetters$Reader", 152, "child letter trait knows bears grown house served day mood", [99, 104, 105, 108, 100, 32, 108, 101, 116, 116, 101, 114, 32, 116, 114, 97, 105, 116, 32, 107, 110, 111, 119, 115, 32, 98, 101, 97, 114, 115, 32, 103, 114, 111, 119, 110, 32, 104, 111, 117, 115, 101, 32, 115, 101, 114, 118, 101, 100, 32, 100, 97, 121, 32, 109, 111, 111, 100]), ("DeadLetters$Reader", 133, "or", [111, 114]), ("DeadLetters$Reader", 135, "and", [97, 110, 100]), ("DeadLetters$Reader", 105, "to by of", [116, 111, 32, 98, 121, 32, 111, 102]), ("DeadLetters$Reader", 110, "times", [116, 105, 109, 101, 115]), ("DeadLetters$Reader", 100, "if", [105, 102])]
def mm_STR (G : mmG) (A : Nat → Prop) (U : State) : Prop :=
  vk_S mm_sk.length (mm_sk.map (fun x => x.2.2.2.length)) (mm_sk.map (fun x => x.2.2.2)) G.2.2 (fun i => G.2.2 (100 + i)) A U U.heap ∧
  va_Z "java/lang/String" "COMPACT_STRINGS" "Z" (.int 1) A U U.heap ∧ (∀ (i : Nat) (x : String × Nat × String × List Int32), mm_sk[i]? = some x → vk_R x.1 x.2.1 x.2.2.1 (G.2.2 i) U) ∧
  (va_Z "jdk/internal/util/Preconditions" "SIOOBE_FORMATTER" "Ljava/util/function/BiFunction;" .null A U U.heap ∨ va_Z "jdk/internal/util/Preconditions" "SIOOBE_FORMATTER" "Ljava/util/function/BiFunction;" (.ref (G.2.2 200)) A U U.heap)
theorem mm_STR.go {G : mmG} {A : Nat → Prop} {s U : State} (hW : s.WarmedH U.vm) (hk : ∀ q, q < s.heap.size → ¬ A q → U.heap[q]? = s.heap[q]?) (h : mm_STR G A s) : mm_STR G A U := by
  obtain ⟨h1, h2, h3, h4⟩ := h
  exact ⟨(h1.moved hW.alike).kept hk, (h2.moved hW.alike).kept hk, fun i x hx => (h3 i x hx).warm hW, h4.imp (fun z => (z.moved hW.alike).kept hk) (fun z => (z.moved hW.alike).kept hk)⟩
theorem mm_STR.same {G : mmG} {A : Nat → Prop} {s U : State} (hv : U.vm = s.vm) (hh : U.heap = s.heap) (h : mm_STR G A s) : mm_STR G A U := by
  obtain ⟨h1, h2, h3, h4⟩ := h
  have al : s.vm.Alike U.vm := by rw [hv]; exact Vm.Alike.refl _
  refine ⟨?_, ?_, fun i x hx => (h3 i x hx).same hv, ?_⟩
  · rw [hh]; exact h1.moved al
  · rw [hh]; exact h2.moved al
  · rw [hh]; exact h4.imp (fun z => z.moved al) (fun z => z.moved al)
def mm_GK (G : mmG) (A : Nat → Prop) (U : State) : Prop := va_K G.1 vwCl (mm_tys G) U ∧ mm_STR G A U
def mm_vok (h : mmH) (v : Value) : Prop := ∀ a, v = .ref a → a < mm_sz h
theorem mm_vok_i (h : mmH) (x : Int32) : mm_vok h (.int x) := fun _ e => by cases e
theorem mm_vok_l (h : mmH) (x : Int64) : mm_vok h (.long x) := fun _ e => by cases e
theorem mm_vok_n (h : mmH) : mm_vok h .null := fun _ e => by cases e
theorem mm_vok_s (h : mmH) (i : Nat) : mm_vok h (.retAddr i) := fun _ e => by cases e
theorem mm_vok_rf {h : mmH} {o : Option Nat} (ho : ∀ b, o = some b → b < mm_sz h) : mm_vok h (va_rf o) := by
  intro a e
  cases o with
  | none => cases e
  | some b => cases e; exact ho _ rfl
theorem mm_tv_rf (G : mmG) (ρ : Nat → Nat) (o : Option Nat) : mm_tv G ρ (va_rf o) = va_rf (o.map ρ) := by cases o <;> rfl
theorem mm_tv_eq {G : mmG} {ρ ρ' : Nat → Nat} {h : mmH} {v : Value} (hv : mm_vok h v) (hr : ∀ a, a < mm_sz h → ρ' a = ρ a) : mm_tv G ρ' v = mm_tv G ρ v := by
  cases v <;> first | rfl | (simp [mm_tv, hr _ (hv _ rfl)])
def mm_rm (d : Nat) (b : Nat × Nat) : Room := { frames := d, cells := b.1, slots := b.2, locals := 60 * d }
def mm_Pc (G : mmG) (A : Nat → Prop) (ρ : Nat → Nat) (as : List Value) (h : mmH) : Array Value → State → Prop := fun a U =>
  a = (as.map (mm_tv G ρ)).toArray ∧ mm_GK G A U ∧ mm_RL G A ρ h U.heap ∧ ∀ q, U.heap.size ≤ q → A q
def mm_Qc (G : mmG) (A : Nat → Prop) (ρ : Nat → Nat) (n : Nat) (K : Option Value → mmH → Prop) : Array Value → State → Outcome → State → Prop := fun _ st o t =>
  (∃ (v : Option Value) (ρ' : Nat → Nat) (h' : mmH), o = .returned (v.map (mm_tv G ρ')) ∧ (∀ a, a < n → ρ' a = ρ a) ∧ n ≤ mm_sz h' ∧ mm_RL G A ρ' h' t.heap ∧ (∀ x, v = some x → mm_vok h' x) ∧ K v h') ∧ va_F A st t
def mm_cw (q : mmM) : Cond := .code q.1 q.2.1 q.2.2.1 q.2.2.2
/-- a method, called with as in the picture h, comes back, and K holds of its answer and of the picture then; d: how many frames it may take, b: how many cells and slots it may make -/
def mm_MV (q : mmM) (d : Nat) (b : Nat × Nat) (as : List Value) (h : mmH) (K : Option Value → mmH → Prop) : Prop :=
  ∀ (l : Launch) (G : mmG) (A : Nat → Prop) (ρ : Nat → Nat), (∀ v ∈ as, mm_vok h v) → Met l q.1 (mm_cw q :: mm_tb) (mm_rm d b) (mm_Pc G A ρ as h) (mm_Qc G A ρ (mm_sz h) K) b.1 b.2 A
/-- what a walk of a method stands in -/
def mm_CX (p : Program) (R : Room) (s : State) (m : MethodId) (args : Array Value) (meth : Method) (c : Code) (G : mmG) (A : Nat → Prop) (q : mmM) (d MC MS : Nat) : Prop :=
  (p.tables.exec = Jvm.exec ∧ c.code = q.2.1 ∧ c.maxLocals = q.2.2.1 ∧ s.vm.findClass q.1.cls = some m.cls ∧ (∀ w ∈ mm_tb, w.before args s = true)) ∧ meth.locks = false ∧ meth.sig.returnType = q.2.2.2 ∧ meth.name = q.1.name ∧ mm_GK G A s ∧ (∀ x, s.heap.size ≤ x → A x) ∧ (d ≤ R.frames ∧ 60 * d ≤ R.locals ∧ R.cells = MC ∧ R.slots = MS)
/-- the locals, by their places -/
def mm_al (G : mmG) (ρ : Nat → Nat) : Nat → mmL → List (Nat × Value)
  | _, [] => []
  | k, none :: r => mm_al G ρ (k + 1) r
  | k, some v :: r => (k, mm_tv G ρ v) :: mm_al G ρ (k + 1) r
def mm_ld : mmL → Nat → Option Value
  | [], _ => none
  | v :: _, 0 => v
  | _ :: r, i + 1 => mm_ld r i
theorem mm_al_in {G : mmG} {ρ : Nat → Nat} : ∀ (lv : mmL) (k : Nat) (q : Nat × Value), q ∈ mm_al G ρ k lv ↔ ∃ i v, mm_ld lv i = some v ∧ q = (k + i, mm_tv G ρ v) := by
  intro lv
  induction lv with
  | nil => intro k q; simp [mm_al, mm_ld]
  | cons x r ih =>
    intro k q
    have step : (∃ i v, mm_ld (x :: r) i = some v ∧ q = (k + i, mm_tv G ρ v)) ↔ (∃ v, x = some v ∧ q = (k, mm_tv G ρ v)) ∨ ∃ i v, mm_ld r i = some v ∧ q = (k + 1 + i, mm_tv G ρ v) := by
      constructor
      · rintro ⟨i, v, h1, h2⟩
        cases i with
        | zero => exact Or.inl ⟨v, h1, h2⟩
        | succ i => exact Or.inr ⟨i, v, h1, by rw [h2]; congr 1; omega⟩
      · rintro (⟨v, h1, h2⟩ | ⟨i, v, h1, h2⟩)
        · exact ⟨0, v, h1, h2⟩
        · exact ⟨i + 1, v, h1, by rw [h2]; congr 1; omega⟩
    rw [step]
    cases x with
    | none => simp [mm_al, ih]
    | some w => simp [mm_al, ih]
theorem mm_al_cg {G : mmG} {ρ ρ' : Nat → Nat} {h : mmH} (hr : ∀ a, a < mm_sz h → ρ' a = ρ a) : ∀ (lv : mmL) (k : Nat), (∀ v, some v ∈ lv → mm_vok h v) → mm_al G ρ' k lv = mm_al G ρ k lv := by
  intro lv
  induction lv with
  | nil => intro k _; rfl
  | cons x r ih =>
    intro k hv
    have h2 := ih (k + 1) (fun v hm => hv v (List.mem_cons_of_mem _ hm))
    cases x with
    | none => exact h2
    | some w =>
      show (k, mm_tv G ρ' w) :: _ = (k, mm_tv G ρ w) :: _
      rw [mm_tv_eq (hv w List.mem_cons_self) hr, h2]
/-- from here on, method q comes to its end, and Q holds of its answer and of the picture then -/
def mm_V (q : mmM) (d : Nat) (b : Nat × Nat) (Q : Option Value → mmH → Prop) (pc : Nat) (lv : mmL) (st : List Value) (h : mmH) : Prop :=
  ∀ (p : Program) (l : Launch) (e : Env) (R : Room) (s : State) (m : MethodId) (args : Array Value) (below : List Frame) (meth : Method) (c : Code) (G : mmG) (A : Nat → Prop) (ρ ρ0 : Nat → Nat) (n0 : Nat) (H : Heap) (locs : List Loc) (cells slots MC MS : Nat) (ls : Array Slot),
    mm_CX p R s m args meth c G A q d MC MS → va_S A s.heap H locs → mm_RL G A ρ h H → n0 ≤ mm_sz h → (∀ a, a < n0 → ρ a = ρ0 a) → cells + b.1 ≤ MC → slots + b.2 ≤ MS →
    lv_has ls q.2.2.1 (mm_al G ρ 0 lv) → (∀ v, some v ∈ lv → mm_vok h v) → (∀ v ∈ st, mm_vok h v) →
    W p l e R s m args below meth c H locs cells slots (MQ below (mm_Qc G A ρ0 n0 Q) args s MC MS A) (F0 m pc ls (st.map (mm_tv G ρ)))
