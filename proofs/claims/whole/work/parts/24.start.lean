/-! what the Statement gives at the start, in the small machine's words -/
def stm (i : Nat) : Term := .string (mm_sk.getD i ("", 0, "", [])).1 (mm_sk.getD i ("", 0, "", [])).2.1
def sty (i : Nat) : List Int32 := (mm_sk.getD i ("", 0, "", [])).2.2.2
theorem st_ex : ∀ i, i < 10 → Cond.exactly (stm i) "java/lang/String" ∈ flatC (Jvm.Cond.and given_1 narrow_1) := by decide +kernel
theorem st_co : ∀ i, i < 10 → Cond.eq (.field (stm i) "java/lang/String" "coder" "B") (.int 0) ∈ flatC (Jvm.Cond.and given_1 narrow_1) := by decide +kernel
theorem st_ar : ∀ i, i < 10 → Cond.arrayOf (.field (stm i) "java/lang/String" "value" "[B") .byte ∈ flatC (Jvm.Cond.and given_1 narrow_1) := by decide +kernel
theorem st_le : ∀ i, i < 10 → Cond.eq (.length (.field (stm i) "java/lang/String" "value" "[B")) (.int (Int32.ofNat (sty i).length)) ∈ flatC (Jvm.Cond.and given_1 narrow_1) := by decide +kernel
theorem st_el : ∀ i, i < 10 → ∀ j, j < (sty i).length → Cond.eq (.elem (.field (stm i) "java/lang/String" "value" "[B") (.int (Int32.ofNat j))) (.int ((sty i).getD j 0)) ∈ flatC (Jvm.Cond.and given_1 narrow_1) := by decide +kernel
theorem st_ne : ∀ i, i < 10 → ∀ j, j < 10 → i ≠ j → Cond.not (Cond.eq (stm i) (stm j)) ∈ flatC (Jvm.Cond.and given_1 narrow_1) ∨ Cond.not (Cond.eq (stm j) (stm i)) ∈ flatC (Jvm.Cond.and given_1 narrow_1) := by decide +kernel
theorem st_cs : Cond.eq (.static "java/lang/String" "COMPACT_STRINGS" "Z") (.int 1) ∈ flatC (Jvm.Cond.and given_1 narrow_1) := by decide +kernel
theorem st_fm : Cond.isRef (.static "jdk/internal/util/Preconditions" "SIOOBE_FORMATTER" "Ljava/util/function/BiFunction;") ∈ flatC (Jvm.Cond.and given_1 narrow_1) := by decide +kernel
theorem st_sr : ∀ i, i < 10 → Cond.stringRef (mm_sk.getD i ("", 0, "", [])).1 (mm_sk.getD i ("", 0, "", [])).2.1 (mm_sk.getD i ("", 0, "", [])).2.2.1 ∈ tables_1 := by decide +kernel
theorem st_w1 : Cond.laysStatic "java/lang/String" "COMPACT_STRINGS" "Z" ∈ tables_1 ∧ Cond.initialized "java/lang/String" ∈ tables_1 ∧ Cond.laysStatic "jdk/internal/util/Preconditions" "SIOOBE_FORMATTER" "Ljava/util/function/BiFunction;" ∈ tables_1 ∧ Cond.initialized "jdk/internal/util/Preconditions" ∈ tables_1 := by decide +kernel
theorem st_w2 : Cond.arrayClass .int ∈ tables_1 ∧ Cond.arrayClass .long ∈ tables_1 ∧ Cond.arrayClass .boolean ∈ tables_1 ∧ Cond.arrayOver (.object RX6) ∈ tables_1 ∧ Cond.arrayOver (.object RX1) ∈ tables_1 := by decide +kernel
theorem st_w3 : ∀ ci, ci < 11 → Cond.instantiable (mm_R ci) (mm_N ci) ∈ tables_1 := by decide +kernel
theorem mm_GK0 {s : State} {args : Array Value} (hts : ∀ w ∈ lw_tbl, w.before args s = true) (hgv : (Jvm.Cond.and given_1 narrow_1).before args s = true) : ∃ G : mmG, mm_GK G (fun q => s.heap.size ≤ q) s := by
  have hfl := flat_of_before _ hgv
  have ht1 : ∀ w ∈ tables_1, w.before args s = true := fun w hw => hts w (List.mem_append_right _ hw)
  have htb : ∀ w ∈ mm_tb, w.before args s = true := fun w hw => hts w (List.mem_filter.mp hw).1
  have hA : ∀ a : Nat, a < s.heap.size → ¬ (fun q => s.heap.size ≤ q) a := fun a ha hb => by have : s.heap.size ≤ a := hb; omega
  -- classes
  have hcl : ∀ ci : Nat, ∃ q : ClassId × (Nat → Nat), ci < 11 → u_Kn s (mm_R ci) (mm_T ci) (mm_N ci) q.1 q.2 := by
    intro ci
    by_cases hci : ci < 11
    · obtain ⟨c, iS, hk⟩ := u_known (C := mm_R ci) (T := mm_T ci) (N := mm_N ci) (n := mm_N ci) htb (mm_lays ci hci) (ht1 _ (st_w3 ci hci))
      exact ⟨(c, iS), fun _ => hk⟩
    · exact ⟨(0, fun _ => 0), fun h => absurd h hci⟩
  obtain ⟨dq, hdq⟩ := Classical.axiomOfChoice hcl
  -- arrays
  have arr : ∀ ty : FieldType, Cond.arrayClass ty ∈ tables_1 → (∀ C, ty ≠ .object C) → ∃ cA, ArrOfT s cA ty ∧ va_RA s cA ty := by
    intro ty hm hno
    obtain ⟨c, k, comp, h1, h2, h3⟩ := Cond.arrayClass_spec (ht1 _ hm)
    refine ⟨c, fun n z => ⟨fun k h => (by cases h), k, h2, comp, h3⟩, ?_⟩
    cases ty with
    | object C => exact absurd rfl (hno C)
    | _ => exact h1
  have arq : ∀ C : String, Cond.arrayOver (.object C) ∈ tables_1 → ∃ cA, ArrOfT s cA (.object C) ∧ va_RA s cA (.object C) := by
    intro C hm
    obtain ⟨comp, c, k, h1, -, h2, h3, h4⟩ := Cond.arrayOver_spec (ht1 _ hm)
    exact ⟨c, fun n z => ⟨fun k h => (by cases h), k, h2, comp, h3⟩, k, comp, h2, h3, h1, h4⟩
  obtain ⟨a0, ha0⟩ := arr .int st_w2.1 (fun C h => by cases h)
  obtain ⟨a1, ha1⟩ := arr .long st_w2.2.1 (fun C h => by cases h)
  obtain ⟨a2, ha2⟩ := arr .boolean st_w2.2.2.1 (fun C h => by cases h)
  obtain ⟨a3, ha3⟩ := arq RX6 st_w2.2.2.2.1
  obtain ⟨a4, ha4⟩ := arq RX1 st_w2.2.2.2.2
  -- strings
  obtain ⟨adK, adV, hS, hK⟩ := vk_Sof (args := args) (s := s) (N := 10) (tm := stm) (len := mm_sk.map (fun x => x.2.2.2.length)) (byt := mm_sk.map (fun x => x.2.2.2)) (A := fun q => s.heap.size ≤ q) (by decide +kernel) (fun i hi => hfl _ (st_ex i hi)) (fun i hi => hfl _ (st_co i hi)) (fun i hi => hfl _ (st_ar i hi))
    (fun i hi => by
      have e : (mm_sk.map (fun x => x.2.2.2.length)).getD i 0 = (sty i).length := (show ∀ i, i < 10 → (mm_sk.map (fun x => x.2.2.2.length)).getD i 0 = (sty i).length by decide +kernel) i hi
      rw [e]
      exact hfl _ (st_le i hi))
    (fun i hi j hj => by
      have e : (mm_sk.map (fun x => x.2.2.2.length)).getD i 0 = (sty i).length := (show ∀ i, i < 10 → (mm_sk.map (fun x => x.2.2.2.length)).getD i 0 = (sty i).length by decide +kernel) i hi
      have e2 : (mm_sk.map (fun x => x.2.2.2)).getD i [] = sty i := (show ∀ i, i < 10 → (mm_sk.map (fun x => x.2.2.2)).getD i [] = sty i by decide +kernel) i hi
      rw [e] at hj
      rw [e2]
      exact hfl _ (st_el i hi j hj))
    (fun i j hi hj hij => (st_ne i hi j hj hij).imp (fun z => hfl _ z) (fun z => hfl _ z)) hA
  have hz := va_Zof (A := fun q => s.heap.size ≤ q) (ht1 _ st_w1.1) (ht1 _ st_w1.2.1) (va_eqt (hfl _ st_cs)) hA
  have hq := va_Zqof (A := fun q => s.heap.size ≤ q) (ht1 _ st_w1.2.2.1) (ht1 _ st_w1.2.2.2) (hfl _ st_fm) hA
  obtain ⟨fm, hfm⟩ : ∃ fm : Nat, va_Z "jdk/internal/util/Preconditions" "SIOOBE_FORMATTER" "Ljava/util/function/BiFunction;" .null (fun q => s.heap.size ≤ q) s s.heap ∨ va_Z "jdk/internal/util/Preconditions" "SIOOBE_FORMATTER" "Ljava/util/function/BiFunction;" (.ref fm) (fun q => s.heap.size ≤ q) s s.heap := by
    rcases hq with h | ⟨t, h⟩
    · exact ⟨0, Or.inl h⟩
    · exact ⟨t, Or.inr h⟩
  refine ⟨((fun c => (dq c).1, fun c => (dq c).2), fun k => if k = 0 then a0 else if k = 1 then a1 else if k = 2 then a2 else if k = 3 then a3 else a4, fun i => if i < 100 then adK i else if i < 200 then adV (i - 100) else fm), ⟨fun c q hq => ?_, fun k q hq => ?_⟩, ?_, hz, fun i x hx => ?_, ?_⟩
  · have hc : c < 11 := (List.getElem?_eq_some_iff.mp hq).1
    rw [mm_cl c hc] at hq
    cases hq
    exact hdq c hc
  · match k, hq with
    | 0, hq => cases hq; exact ha0
    | 1, hq => cases hq; exact ha1
    | 2, hq => cases hq; exact ha2
    | 3, hq => cases hq; exact ha3
    | 4, hq => cases hq; exact ha4
    | k + 5, hq => simp [mm_tys] at hq
  · refine ⟨fun i hi => ?_, fun i j hi hj e => ?_⟩
    · have hi10 : i < 10 := hi
      have := hS.1 i hi10
      show va_O _ (if i < 100 then adK i else _) _ _ _ ∧ va_OF _ _ _ _ (if i < 100 then adK i else _) _ _ _ ∧ va_OF _ _ _ (.ref (if 100 + i < 100 then _ else if 100 + i < 200 then adV (100 + i - 100) else fm)) (if i < 100 then adK i else _) _ _ _ ∧ va_T _ (if 100 + i < 100 then _ else if 100 + i < 200 then adV (100 + i - 100) else fm) _ _ _ _ _
      rw [if_pos (show i < 100 by omega), if_neg (show ¬ 100 + i < 100 by omega), if_pos (show 100 + i < 200 by omega), show 100 + i - 100 = i by omega]
      exact this
    · have hi10 : i < 10 := hi
      have hj10 : j < 10 := hj
      have e : (if i < 100 then adK i else _) = (if j < 100 then adK j else _) := e
      rw [if_pos (show i < 100 by omega), if_pos (show j < 100 by omega)] at e
      exact hS.2 i j hi10 hj10 e
  · have hi10 : i < 10 := (List.getElem?_eq_some_iff.mp hx).1
    have ex : mm_sk.getD i ("", 0, "", []) = x := by rw [List.getD_eq_getElem?_getD, hx]; rfl
    have h1 := ht1 _ (st_sr i hi10)
    have h2 := hK i hi10
    unfold stm at h2
    rw [ex] at h1 h2
    show vk_R _ _ _ (if i < 100 then adK i else _) s
    rw [if_pos (show i < 100 by omega)]
    exact vk_R.of h1 h2
  · exact hfm
