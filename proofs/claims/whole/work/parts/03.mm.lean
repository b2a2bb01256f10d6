/-! THE SMALL MACHINE (mm_): a picture of the heap in which an address is the number of the cell in the order of its making, slots are typed functions, and a walk speaks of nothing else. -/
abbrev mmM : Type := MethodName × ByteArray × Nat × Option FieldType
abbrev mmG : Type := va_G × (Nat → ClassId) × (Nat → Nat)
abbrev mmH : Type := (Nat → Nat) × (Nat → Nat) × (Nat → Nat → Int32) × (Nat → Nat → Int64) × (Nat → Nat → Option Nat) × Nat
abbrev mmL : Type := List (Option Value)
def mm_kd (h : mmH) (a : Nat) : Nat := h.1 a
def mm_ln (h : mmH) (a : Nat) : Nat := h.2.1 a
def mm_gi (h : mmH) (a k : Nat) : Int32 := h.2.2.1 a k
def mm_gl (h : mmH) (a k : Nat) : Int64 := h.2.2.2.1 a k
def mm_gr (h : mmH) (a k : Nat) : Option Nat := h.2.2.2.2.1 a k
def mm_sz (h : mmH) : Nat := h.2.2.2.2.2
def mm_pi (h : mmH) (a k : Nat) (x : Int32) : mmH := (h.1, h.2.1, fun b j => if b = a ∧ j = k then x else h.2.2.1 b j, h.2.2.2.1, h.2.2.2.2.1, h.2.2.2.2.2)
def mm_pl (h : mmH) (a k : Nat) (x : Int64) : mmH := (h.1, h.2.1, h.2.2.1, fun b j => if b = a ∧ j = k then x else h.2.2.2.1 b j, h.2.2.2.2.1, h.2.2.2.2.2)
def mm_pr (h : mmH) (a k : Nat) (x : Option Nat) : mmH := (h.1, h.2.1, h.2.2.1, h.2.2.2.1, fun b j => if b = a ∧ j = k then x else h.2.2.2.2.1 b j, h.2.2.2.2.2)
/-- a whole int array laid anew (a native's copy) -/
def mm_pa (h : mmH) (a : Nat) (f : Nat → Int32) : mmH := (h.1, h.2.1, fun b j => if b = a then f j else h.2.2.1 b j, h.2.2.2.1, h.2.2.2.2.1, h.2.2.2.2.2)
/-- a new cell -/
def mm_nw (h : mmH) (kd ln : Nat) : mmH := (fun b => if b = h.2.2.2.2.2 then kd else h.1 b, fun b => if b = h.2.2.2.2.2 then ln else h.2.1 b, fun b j => if b = h.2.2.2.2.2 then 0 else h.2.2.1 b j, fun b j => if b = h.2.2.2.2.2 then 0 else h.2.2.2.1 b j, fun b j => if b = h.2.2.2.2.2 then none else h.2.2.2.2.1 b j, h.2.2.2.2.2 + 1)
theorem mm_kd_pi (h : mmH) (a k : Nat) (x : Int32) : mm_kd (mm_pi h a k x) = mm_kd h := rfl
theorem mm_ln_pi (h : mmH) (a k : Nat) (x : Int32) : mm_ln (mm_pi h a k x) = mm_ln h := rfl
theorem mm_gl_pi (h : mmH) (a k : Nat) (x : Int32) : mm_gl (mm_pi h a k x) = mm_gl h := rfl
theorem mm_gr_pi (h : mmH) (a k : Nat) (x : Int32) : mm_gr (mm_pi h a k x) = mm_gr h := rfl
theorem mm_sz_pi (h : mmH) (a k : Nat) (x : Int32) : mm_sz (mm_pi h a k x) = mm_sz h := rfl
theorem mm_gi_pi (h : mmH) (a k : Nat) (x : Int32) (b j : Nat) : mm_gi (mm_pi h a k x) b j = if b = a ∧ j = k then x else mm_gi h b j := rfl
theorem mm_kd_pl (h : mmH) (a k : Nat) (x : Int64) : mm_kd (mm_pl h a k x) = mm_kd h := rfl
theorem mm_ln_pl (h : mmH) (a k : Nat) (x : Int64) : mm_ln (mm_pl h a k x) = mm_ln h := rfl
theorem mm_gi_pl (h : mmH) (a k : Nat) (x : Int64) : mm_gi (mm_pl h a k x) = mm_gi h := rfl
theorem mm_gr_pl (h : mmH) (a k : Nat) (x : Int64) : mm_gr (mm_pl h a k x) = mm_gr h := rfl
theorem mm_sz_pl (h : mmH) (a k : Nat) (x : Int64) : mm_sz (mm_pl h a k x) = mm_sz h := rfl
theorem mm_gl_pl (h : mmH) (a k : Nat) (x : Int64) (b j : Nat) : mm_gl (mm_pl h a k x) b j = if b = a ∧ j = k then x else mm_gl h b j := rfl
theorem mm_kd_pr (h : mmH) (a k : Nat) (x : Option Nat) : mm_kd (mm_pr h a k x) = mm_kd h := rfl
theorem mm_ln_pr (h : mmH) (a k : Nat) (x : Option Nat) : mm_ln (mm_pr h a k x) = mm_ln h := rfl
theorem mm_gi_pr (h : mmH) (a k : Nat) (x : Option Nat) : mm_gi (mm_pr h a k x) = mm_gi h := rfl
theorem mm_gl_pr (h : mmH) (a k : Nat) (x : Option Nat) : mm_gl (mm_pr h a k x) = mm_gl h := rfl
theorem mm_sz_pr (h : mmH) (a k : Nat) (x : Option Nat) : mm_sz (mm_pr h a k x) = mm_sz h := rfl
theorem mm_gr_pr (h : mmH) (a k : Nat) (x : Option Nat) (b j : Nat) : mm_gr (mm_pr h a k x) b j = if b = a ∧ j = k then x else mm_gr h b j := rfl
theorem mm_kd_pa (h : mmH) (a : Nat) (f : Nat → Int32) : mm_kd (mm_pa h a f) = mm_kd h := rfl
theorem mm_ln_pa (h : mmH) (a : Nat) (f : Nat → Int32) : mm_ln (mm_pa h a f) = mm_ln h := rfl
theorem mm_gl_pa (h : mmH) (a : Nat) (f : Nat → Int32) : mm_gl (mm_pa h a f) = mm_gl h := rfl
theorem mm_gr_pa (h : mmH) (a : Nat) (f : Nat → Int32) : mm_gr (mm_pa h a f) = mm_gr h := rfl
theorem mm_sz_pa (h : mmH) (a : Nat) (f : Nat → Int32) : mm_sz (mm_pa h a f) = mm_sz h := rfl
theorem mm_gi_pa (h : mmH) (a : Nat) (f : Nat → Int32) (b j : Nat) : mm_gi (mm_pa h a f) b j = if b = a then f j else mm_gi h b j := rfl
theorem mm_sz_nw (h : mmH) (x y : Nat) : mm_sz (mm_nw h x y) = mm_sz h + 1 := rfl
theorem mm_kd_nw (h : mmH) (x y b : Nat) : mm_kd (mm_nw h x y) b = if b = mm_sz h then x else mm_kd h b := rfl
theorem mm_ln_nw (h : mmH) (x y b : Nat) : mm_ln (mm_nw h x y) b = if b = mm_sz h then y else mm_ln h b := rfl
theorem mm_gi_nw (h : mmH) (x y b j : Nat) : mm_gi (mm_nw h x y) b j = if b = mm_sz h then 0 else mm_gi h b j := rfl
theorem mm_gl_nw (h : mmH) (x y b j : Nat) : mm_gl (mm_nw h x y) b j = if b = mm_sz h then 0 else mm_gl h b j := rfl
theorem mm_gr_nw (h : mmH) (x y b j : Nat) : mm_gr (mm_nw h x y) b j = if b = mm_sz h then none else mm_gr h b j := rfl
/-- a value of the picture as the machine has it -/
def mm_tv (G : mmG) (ρ : Nat → Nat) (v : Value) : Value := match v with
  | .ref a => .ref (ρ a)
  | .retAddr i => .ref (G.2.2 i)
  | v => v
theorem mm_tv_cat (G : mmG) (ρ : Nat → Nat) (v : Value) : (mm_tv G ρ v).category = v.category := by cases v <;> rfl
/-- the types of the classes' fields: 0 int, 1 long, 2 a reference, 3 boolean -/
def mm_tc : FieldType → Nat
  | .int => 0
  | .long => 1
  | .object _ => 2
  | .array _ => 2
  | .boolean => 3
  | _ => 9
def mm_T (ci : Nat) : u_T := match ci with
  | 0 => TX0
  | 1 => TX1
  | 2 => TX2
  | 3 => TX3
  | 4 => TX4
  | 5 => TX5
  | 6 => TX6
  | 7 => TX7
  | 8 => TX8
  | 9 => TX9
  | _ => TX10
def mm_ty (ci : Nat) : Nat → FieldType := match ci with
  | 0 => tyX0
  | 1 => tyX1
  | 2 => tyX2
  | 3 => tyX3
  | 4 => tyX4
  | 5 => tyX5
  | 6 => tyX6
  | 7 => tyX7
  | 8 => tyX8
  | 9 => tyX9
  | _ => tyX10
def mm_R (ci : Nat) : String := match ci with
  | 0 => RX0
  | 1 => RX1
  | 2 => RX2
  | 3 => RX3
  | 4 => RX4
  | 5 => RX5
  | 6 => RX6
  | 7 => RX7
  | 8 => RX8
  | 9 => RX9
  | _ => RX10
def mm_N (ci : Nat) : Nat := match ci with
  | 0 => 2
  | 1 => 17
  | 2 => 13
  | 3 => 5
  | 4 => 2
  | 5 => 2
  | 6 => 9
  | 7 => 5
  | 8 => 2
  | 9 => 17
  | _ => 57
theorem mm_cl : ∀ ci, ci < 11 → vwCl[ci]? = some (mm_R ci, mm_T ci, mm_N ci)
  | 0, _ => rfl
  | 1, _ => rfl
  | 2, _ => rfl
  | 3, _ => rfl
  | 4, _ => rfl
  | 5, _ => rfl
  | 6, _ => rfl
  | 7, _ => rfl
  | 8, _ => rfl
  | 9, _ => rfl
  | 10, _ => rfl
  | n + 11, h => by omega
theorem mm_nm : ∀ ci, ci < 11 → ∀ a, a < mm_N ci → ∀ b, b < mm_N ci → a ≠ b → (mm_T ci a).2.1 ≠ (mm_T ci b).2.1
  | 0, _ => nmX0
  | 1, _ => nmX1
  | 2, _ => nmX2
  | 3, _ => nmX3
  | 4, _ => nmX4
  | 5, _ => nmX5
  | 6, _ => nmX6
  | 7, _ => nmX7
  | 8, _ => nmX8
  | 9, _ => nmX9
  | 10, _ => nmX10
  | n + 11, h => by omega
theorem mm_tyok : ∀ ci, ci < 11 → ∀ k, k < mm_N ci → parseFieldDescriptor (mm_T ci k).2.2.1 = some (mm_ty ci k)
  | 0, _ => tyX0_ok
  | 1, _ => tyX1_ok
  | 2, _ => tyX2_ok
  | 3, _ => tyX3_ok
  | 4, _ => tyX4_ok
  | 5, _ => tyX5_ok
  | 6, _ => tyX6_ok
  | 7, _ => tyX7_ok
  | 8, _ => tyX8_ok
  | 9, _ => tyX9_ok
  | 10, _ => tyX10_ok
  | n + 11, h => by omega
/-- the words that stay as the tables warm: any method's words are these -/
def mm_gw : Cond → Bool
  | .fieldLinkNest .. => true
  | .methodLinkNest .. => true
  | .arrayOver (.object _) => true
  | w => goodWord w
def mm_tb : List Cond := lw_tbl.filter mm_gw
theorem mm_tb_of {w : Cond} (h : w ∈ lw_tbl) (hg : mm_gw w = true) : w ∈ mm_tb := List.mem_filter.mpr ⟨h, hg⟩
theorem mm_t1 {w : Cond} (i : Nat) (h : tables_1[i]? = some w) (hg : mm_gw w = true) : w ∈ mm_tb := mm_tb_of (List.mem_append_right _ (List.mem_of_getElem? h)) hg
theorem mm_warm {args a' : Array Value} {s U : State} (hW : s.WarmedH U.vm) {w : Cond} (hg : mm_gw w = true) (h : w.before args s = true) : w.before a' U = true := by
  cases w with
  | fieldLinkNest a i b n d h0 => exact va_Nw.use rfl (va_Nw.warmF hW (va_Nw.of rfl h))
  | methodLinkNest a i x h0 => exact va_Nw.use rfl (va_Nw.warmM hW (va_Nw.of rfl h))
  | arrayOver ty =>
    cases ty with
    | object C => exact va_AO.use (va_AO.moved hW.alike (va_AO.of h))
    | _ => exact word_at hW (good_of_word hg) h
  | _ => exact word_at hW (good_of_word hg) h
theorem mm_lays : ∀ ci, ci < 11 → ∀ w ∈ u_ws (mm_R ci) (mm_T ci) (mm_N ci), w ∈ mm_tb := by
  have key : ∀ ci, ci < 11 → ∀ w ∈ u_ws (mm_R ci) (mm_T ci) (mm_N ci), w ∈ tables_1 ∧ mm_gw w = true := by decide +kernel
  intro ci hci w hw
  exact mm_tb_of (List.mem_append_right _ (key ci hci w hw).1) (key ci hci w hw).2
