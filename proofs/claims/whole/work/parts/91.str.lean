/-! String constants: the methods -/
def s_gsc (K : mmK) : mmK := fun lv st h => K lv (.int 1 :: st) h
def s_gsf (K : mmK) : mmK := fun lv st h => K lv (.null :: st) h ∧ K lv (.retAddr 200 :: st) h
def s_kret (ty : FieldType) (Q : Option Value → mmH → Prop) : mmK := fun _ st h => match st with
  | [.int x] => narrow ty (.int x) = .int x ∧ Q (some (.int x)) h
  | _ => False
section
variable {q q' : mmM} {d n idx pc : Nat} {b bb b0 : Nat × Nat} {Q : Option Value → mmH → Prop} {K : mmK}
theorem v_gsc (hd : decode q.2.1 pc = .ok (.getstatic idx, 3)) (hlk : Cond.fieldLink q.1.cls idx "java/lang/String" "COMPACT_STRINGS" "Z" ∈ mm_tb) (hK : ∀ lv st h, K lv st h → mm_V q d b Q (pc + 3) lv st h) (lv : mmL) (st : List Value) (h : mmH) (hs : s_gsc K lv st h) : mm_V q d b Q pc lv st h := by
  intro p l e R s m args below meth c G A ρ ρ0 n0 H locs cells slots MC MS ls hX hS hR hn hρ hc hm hl hv hvs
  exact va_gets hX.1.1 hX.1.2.1 hX.2.2.2.2.1.2.2.1 hS hX.1.2.2.2.1 (hX.1.2.2.2.2 _ hlk) (fun x h => h) hd (hK _ _ _ hs p l e R s m args below meth c G A ρ ρ0 n0 H locs cells slots MC MS ls hX hS hR hn hρ hc hm hl hv (fun v hm => by
    rcases List.mem_cons.mp hm with rfl | hm
    · exact mm_vok_i _ _
    · exact hvs v hm))
theorem v_gsf (hd : decode q.2.1 pc = .ok (.getstatic idx, 3)) (hlk : Cond.fieldLink q.1.cls idx "jdk/internal/util/Preconditions" "SIOOBE_FORMATTER" "Ljava/util/function/BiFunction;" ∈ mm_tb) (hK : ∀ lv st h, K lv st h → mm_V q d b Q (pc + 3) lv st h) (lv : mmL) (st : List Value) (h : mmH) (hs : s_gsf K lv st h) : mm_V q d b Q pc lv st h := by
  intro p l e R s m args below meth c G A ρ ρ0 n0 H locs cells slots MC MS ls hX hS hR hn hρ hc hm hl hv hvs
  rcases hX.2.2.2.2.1.2.2.2.2 with hZ | hZ
  · exact va_gets hX.1.1 hX.1.2.1 hZ hS hX.1.2.2.2.1 (hX.1.2.2.2.2 _ hlk) (fun x h => h) hd (hK _ _ _ hs.1 p l e R s m args below meth c G A ρ ρ0 n0 H locs cells slots MC MS ls hX hS hR hn hρ hc hm hl hv (fun v hm => by
      rcases List.mem_cons.mp hm with rfl | hm
      · exact mm_vok_n _
      · exact hvs v hm))
  · exact va_gets hX.1.1 hX.1.2.1 hZ hS hX.1.2.2.2.1 (hX.1.2.2.2.2 _ hlk) (fun x h => h) hd (hK _ _ _ hs.2 p l e R s m args below meth c G A ρ ρ0 n0 H locs cells slots MC MS ls hX hS hR hn hρ hc hm hl hv (fun v hm => by
      rcases List.mem_cons.mp hm with rfl | hm
      · exact mm_vok_s _ _
      · exact hvs v hm))
theorem v_kret {ty : FieldType} (hd : decode q.2.1 pc = .ok (.ireturn, 1)) (hr : q.2.2.2 = some ty) (lv : mmL) (st : List Value) (h : mmH) (hs : s_kret ty Q lv st h) : mm_V q d b Q pc lv st h := by
  unfold s_kret at hs
  split at hs
  · intro p l e R s m args below meth c G A ρ ρ0 n0 H locs cells slots MC MS ls hX hS hR hn hρ hc hm hl hv hvs
    exact W.widen (k := MC) (n := MS) (by omega) (by omega) (W.zret (ty := ty) hX.1.1 hX.1.2.1 (hX.2.2.1.trans hr) hs.1 (fun t ht _ => mm_end hS hR hn hρ (fun x e => by cases e; exact mm_vok_i _ _) hs.2 t ht) hS.2.2 hd (hlocks := hX.2.1))
  · exact hs.elim
end
