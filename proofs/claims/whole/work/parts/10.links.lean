theorem mm_u1 {w : Cond} (i : Nat) (h : tables_1_1[i]? = some w) (hg : mm_gw w = true) : w ∈ mm_tb := mm_tb_of (List.mem_append_right _ (List.mem_append_left _ (List.mem_of_getElem? h))) hg
theorem mm_u2 {w : Cond} (i : Nat) (h : tables_1_2[i]? = some w) (hg : mm_gw w = true) : w ∈ mm_tb := mm_tb_of (List.mem_append_right _ (List.mem_append_right _ (List.mem_append_left _ (List.mem_of_getElem? h)))) hg
theorem mm_u3 {w : Cond} (i : Nat) (h : tables_1_3[i]? = some w) (hg : mm_gw w = true) : w ∈ mm_tb := mm_tb_of (List.mem_append_right _ (List.mem_append_right _ (List.mem_append_right _ (List.mem_append_left _ (List.mem_of_getElem? h))))) hg
theorem mm_u4 {w : Cond} (i : Nat) (h : tables_1_4[i]? = some w) (hg : mm_gw w = true) : w ∈ mm_tb := mm_tb_of (List.mem_append_right _ (List.mem_append_right _ (List.mem_append_right _ (List.mem_append_right _ (List.mem_append_left _ (List.mem_of_getElem? h)))))) hg
theorem mm_u5 {w : Cond} (i : Nat) (h : tables_1_5[i]? = some w) (hg : mm_gw w = true) : w ∈ mm_tb := mm_tb_of (List.mem_append_right _ (List.mem_append_right _ (List.mem_append_right _ (List.mem_append_right _ (List.mem_append_right _ (List.mem_append_left _ (List.mem_of_getElem? h))))))) hg
theorem mm_u6 {w : Cond} (i : Nat) (h : tables_1_6[i]? = some w) (hg : mm_gw w = true) : w ∈ mm_tb := mm_tb_of (List.mem_append_right _ (List.mem_append_right _ (List.mem_append_right _ (List.mem_append_right _ (List.mem_append_right _ (List.mem_append_right _ (List.mem_append_left _ (List.mem_of_getElem? h)))))))) hg
theorem mm_u7 {w : Cond} (i : Nat) (h : tables_1_7[i]? = some w) (hg : mm_gw w = true) : w ∈ mm_tb := mm_tb_of (List.mem_append_right _ (List.mem_append_right _ (List.mem_append_right _ (List.mem_append_right _ (List.mem_append_right _ (List.mem_append_right _ (List.mem_append_right _ (List.mem_of_getElem? h)))))))) hg
theorem v_mmax {q : mmM} {d : Nat} {b : Nat × Nat} {Q : Option Value → mmH → Prop} {pc idx : Nat} {lv : mmL} {st : List Value} {h : mmH} {x y : Int32} (hd : decode q.2.1 pc = .ok (.invokestatic idx, 3)) (hlk : Cond.methodLink q.1.cls idx Lib.Math.max.name ∈ mm_tb) (hsta : Cond.static Lib.Math.max.name ∈ mm_tb) (hini : Cond.initialized "java/lang/Math" ∈ mm_tb) (hco : Cond.code Lib.Math.max.name Lib.Math.max.code 2 (some .int) ∈ mm_tb) (hst : (st.map fun v => v.category).sum ≤ 8)
    (k : mm_V q (d + 1) b Q (pc + 3) lv (.int (if x < y then y else x) :: st) h) : mm_V q (d + 1) b Q pc lv (.int y :: .int x :: st) h := by
  intro p l e R s m args below meth c G A ρ ρ0 n0 H locs cells slots MC MS ls hX hS hR hn hρ hc hm hl hv hvs
  obtain ⟨⟨hx, hb, hml, hown, hts⟩, -, -, -, hG, hA, hrf, hrl, hrc, hrs⟩ := id hX
  have hsum : ((st.map (mm_tv G ρ)).map fun v => v.category).sum ≤ 8 := by rw [List.map_map]; simpa [Function.comp_def, mm_tv_cat] using hst
  exact va_mmax hx hb (hml.trans hl.1.symm) hown (hts _ hlk) (hts _ hsta) (hts _ hini) (hts _ hco) (by omega) (by omega) (by omega) (by omega) hd (k p l e R s m args below meth c G A ρ ρ0 n0 H locs cells slots MC MS ls hX hS hR hn hρ hc hm hl hv (fun v hm => by
    rcases List.mem_cons.mp hm with rfl | hm
    · exact mm_vok_i _ _
    · exact hvs v (List.mem_cons_of_mem _ (List.mem_cons_of_mem _ hm))))
theorem v_mmin {q : mmM} {d : Nat} {b : Nat × Nat} {Q : Option Value → mmH → Prop} {pc idx : Nat} {lv : mmL} {st : List Value} {h : mmH} {x y : Int32} (hd : decode q.2.1 pc = .ok (.invokestatic idx, 3)) (hlk : Cond.methodLink q.1.cls idx Lib.Math.min.name ∈ mm_tb) (hsta : Cond.static Lib.Math.min.name ∈ mm_tb) (hini : Cond.initialized "java/lang/Math" ∈ mm_tb) (hco : Cond.code Lib.Math.min.name Lib.Math.min.code 2 (some .int) ∈ mm_tb) (hst : (st.map fun v => v.category).sum ≤ 8)
    (k : mm_V q (d + 1) b Q (pc + 3) lv (.int (if y < x then y else x) :: st) h) : mm_V q (d + 1) b Q pc lv (.int y :: .int x :: st) h := by
  intro p l e R s m args below meth c G A ρ ρ0 n0 H locs cells slots MC MS ls hX hS hR hn hρ hc hm hl hv hvs
  obtain ⟨⟨hx, hb, hml, hown, hts⟩, -, -, -, hG, hA, hrf, hrl, hrc, hrs⟩ := id hX
  have hsum : ((st.map (mm_tv G ρ)).map fun v => v.category).sum ≤ 8 := by rw [List.map_map]; simpa [Function.comp_def, mm_tv_cat] using hst
  exact va_mmin hx hb (hml.trans hl.1.symm) hown (hts _ hlk) (hts _ hsta) (hts _ hini) (hts _ hco) (by omega) (by omega) (by omega) (by omega) hd (k p l e R s m args below meth c G A ρ ρ0 n0 H locs cells slots MC MS ls hX hS hR hn hρ hc hm hl hv (fun v hm => by
    rcases List.mem_cons.mp hm with rfl | hm
    · exact mm_vok_i _ _
    · exact hvs v (List.mem_cons_of_mem _ (List.mem_cons_of_mem _ hm))))
theorem w_objin : Cond.instanceMethod Lib.objectInit ∈ mm_tb := mm_u1 26 rfl rfl
theorem w_objco : Cond.code Lib.objectInit ⟨#[0xb1]⟩ 1 none ∈ mm_tb := mm_u1 27 rfl rfl
theorem w_cpnat : Cond.native arraycopyName ∈ mm_tb := mm_u3 207 rfl rfl
theorem w_cpsta : Cond.static arraycopyName ∈ mm_tb := mm_u3 206 rfl rfl
theorem w_mathini : Cond.initialized "java/lang/Math" ∈ mm_tb := mm_u1 13 rfl rfl
theorem w_maxsta : Cond.static Lib.Math.max.name ∈ mm_tb := mm_u2 228 rfl rfl
theorem w_minsta : Cond.static Lib.Math.min.name ∈ mm_tb := mm_u3 12 rfl rfl
theorem w_maxco : Cond.code Lib.Math.max.name Lib.Math.max.code 2 (some .int) ∈ mm_tb := mm_u2 229 rfl rfl
theorem w_minco : Cond.code Lib.Math.min.name Lib.Math.min.code 2 (some .int) ∈ mm_tb := mm_u3 13 rfl rfl
theorem w_cpini : Cond.initialized "java/lang/System" ∈ mm_tb := mm_u1 18 rfl rfl
def q_X0_init : mmM := (yX0_init, cX0_init, 1, none)
theorem mf_X0_init : mm_mf q_X0_init 0 := ⟨mm_u1 32 rfl rfl, mm_u1 2 rfl rfl, by decide +kernel, by decide +kernel, by decide, by decide +kernel⟩
theorem im_X0_init : Cond.instanceMethod q_X0_init.1 ∈ mm_tb := mm_u1 31 rfl rfl
def q_X0_poseLaw : mmM := (yX0_poseLaw, cX0_poseLaw, 7, none)
theorem mf_X0_poseLaw : mm_mf q_X0_poseLaw 6 := ⟨mm_u2 216 rfl rfl, mm_u1 2 rfl rfl, by decide +kernel, by decide +kernel, by decide, by decide +kernel⟩
theorem im_X0_poseLaw : Cond.instanceMethod q_X0_poseLaw.1 ∈ mm_tb := mm_u2 215 rfl rfl
theorem se_X0_poseLaw : Cond.selects q_X0_poseLaw.1.cls q_X0_poseLaw.1 q_X0_poseLaw.1 ∈ mm_tb := mm_tb_of (List.mem_append_left _ (List.mem_of_getElem? (i := 12) rfl)) rfl
def q_X0_poseOrder : mmM := (yX0_poseOrder, cX0_poseOrder, 6, none)
theorem mf_X0_poseOrder : mm_mf q_X0_poseOrder 3 := ⟨mm_u3 234 rfl rfl, mm_u1 2 rfl rfl, by decide +kernel, by decide +kernel, by decide, by decide +kernel⟩
theorem im_X0_poseOrder : Cond.instanceMethod q_X0_poseOrder.1 ∈ mm_tb := mm_u3 233 rfl rfl
theorem se_X0_poseOrder : Cond.selects q_X0_poseOrder.1.cls q_X0_poseOrder.1 q_X0_poseOrder.1 ∈ mm_tb := mm_tb_of (List.mem_append_left _ (List.mem_of_getElem? (i := 44) rfl)) rfl
def q_X0_reckon : mmM := (yX0_reckon, cX0_reckon, 9, (some .int))
theorem mf_X0_reckon : mm_mf q_X0_reckon 2 := ⟨mm_u2 226 rfl rfl, mm_u1 2 rfl rfl, by decide +kernel, by decide +kernel, by decide, by decide +kernel⟩
theorem im_X0_reckon : Cond.instanceMethod q_X0_reckon.1 ∈ mm_tb := mm_u2 225 rfl rfl
theorem se_X0_reckon : Cond.selects q_X0_reckon.1.cls q_X0_reckon.1 q_X0_reckon.1 ∈ mm_tb := mm_tb_of (List.mem_append_left _ (List.mem_of_getElem? (i := 13) rfl)) rfl
def q_X0_wordAt : mmM := (yX0_wordAt, cX0_wordAt, 2, (some .int))
theorem mf_X0_wordAt : mm_mf q_X0_wordAt 1 := ⟨mm_u2 234 rfl rfl, mm_u1 2 rfl rfl, by decide +kernel, by decide +kernel, by decide, by decide +kernel⟩
theorem im_X0_wordAt : Cond.instanceMethod q_X0_wordAt.1 ∈ mm_tb := mm_u2 233 rfl rfl
theorem se_X0_wordAt : Cond.selects q_X0_wordAt.1.cls q_X0_wordAt.1 q_X0_wordAt.1 ∈ mm_tb := mm_tb_of (List.mem_append_left _ (List.mem_of_getElem? (i := 14) rfl)) rfl
def q_X0_join : mmM := (yX0_join, cX0_join, 3, (some .long))
theorem mf_X0_join : mm_mf q_X0_join 3 := ⟨mm_u2 237 rfl rfl, mm_u1 2 rfl rfl, by decide +kernel, by decide +kernel, by decide, by decide +kernel⟩
theorem st_X0_join : Cond.static q_X0_join.1 ∈ mm_tb := mm_u2 236 rfl rfl
def q_X0_holds : mmM := (yX0_holds, cX0_holds, 10, (some .boolean))
theorem mf_X0_holds : mm_mf q_X0_holds 7 := ⟨mm_u2 204 rfl rfl, mm_u1 2 rfl rfl, by decide +kernel, by decide +kernel, by decide, by decide +kernel⟩
theorem im_X0_holds : Cond.instanceMethod q_X0_holds.1 ∈ mm_tb := mm_u2 203 rfl rfl
theorem se_X0_holds : Cond.selects q_X0_holds.1.cls q_X0_holds.1 q_X0_holds.1 ∈ mm_tb := mm_tb_of (List.mem_append_left _ (List.mem_of_getElem? (i := 9) rfl)) rfl
def q_X0_holdsNow : mmM := (yX0_holdsNow, cX0_holdsNow, 6, (some .boolean))
theorem mf_X0_holdsNow : mm_mf q_X0_holdsNow 5 := ⟨mm_u2 200 rfl rfl, mm_u1 2 rfl rfl, by decide +kernel, by decide +kernel, by decide, by decide +kernel⟩
theorem im_X0_holdsNow : Cond.instanceMethod q_X0_holdsNow.1 ∈ mm_tb := mm_u2 199 rfl rfl
theorem se_X0_holdsNow : Cond.selects q_X0_holdsNow.1.cls q_X0_holdsNow.1 q_X0_holdsNow.1 ∈ mm_tb := mm_tb_of (List.mem_append_left _ (List.mem_of_getElem? (i := 8) rfl)) rfl
def q_X0_worthOf : mmM := (yX0_worthOf, cX0_worthOf, 7, (some .int))
theorem mf_X0_worthOf : mm_mf q_X0_worthOf 4 := ⟨mm_u3 10 rfl rfl, mm_u1 2 rfl rfl, by decide +kernel, by decide +kernel, by decide, by decide +kernel⟩
theorem im_X0_worthOf : Cond.instanceMethod q_X0_worthOf.1 ∈ mm_tb := mm_u3 9 rfl rfl
theorem se_X0_worthOf : Cond.selects q_X0_worthOf.1.cls q_X0_worthOf.1 q_X0_worthOf.1 ∈ mm_tb := mm_tb_of (List.mem_append_left _ (List.mem_of_getElem? (i := 15) rfl)) rfl
def q_X0_takeUp : mmM := (yX0_takeUp, cX0_takeUp, 9, (some .int))
theorem mf_X0_takeUp : mm_mf q_X0_takeUp 4 := ⟨mm_u4 26 rfl rfl, mm_u1 2 rfl rfl, by decide +kernel, by decide +kernel, by decide, by decide +kernel⟩
theorem im_X0_takeUp : Cond.instanceMethod q_X0_takeUp.1 ∈ mm_tb := mm_u4 25 rfl rfl
theorem se_X0_takeUp : Cond.selects q_X0_takeUp.1.cls q_X0_takeUp.1 q_X0_takeUp.1 ∈ mm_tb := mm_tb_of (List.mem_append_left _ (List.mem_of_getElem? (i := 50) rfl)) rfl
def q_X0_whatStays : mmM := (yX0_whatStays, cX0_whatStays, 8, (some .int))
theorem mf_X0_whatStays : mm_mf q_X0_whatStays 4 := ⟨mm_u4 33 rfl rfl, mm_u1 2 rfl rfl, by decide +kernel, by decide +kernel, by decide, by decide +kernel⟩
theorem im_X0_whatStays : Cond.instanceMethod q_X0_whatStays.1 ∈ mm_tb := mm_u4 32 rfl rfl
theorem se_X0_whatStays : Cond.selects q_X0_whatStays.1.cls q_X0_whatStays.1 q_X0_whatStays.1 ∈ mm_tb := mm_tb_of (List.mem_append_left _ (List.mem_of_getElem? (i := 51) rfl)) rfl
def q_X1_init : mmM := (yX1_init, cX1_init, 2, none)
theorem mf_X1_init : mm_mf q_X1_init 1 := ⟨mm_u1 46 rfl rfl, mm_u1 3 rfl rfl, by decide +kernel, by decide +kernel, by decide, by decide +kernel⟩
theorem im_X1_init : Cond.instanceMethod q_X1_init.1 ∈ mm_tb := mm_u1 45 rfl rfl
def q_X1_copyFrom : mmM := (yX1_copyFrom, cX1_copyFrom, 3, none)
theorem mf_X1_copyFrom : mm_mf q_X1_copyFrom 1 := ⟨mm_u3 220 rfl rfl, mm_u1 3 rfl rfl, by decide +kernel, by decide +kernel, by decide, by decide +kernel⟩
theorem im_X1_copyFrom : Cond.instanceMethod q_X1_copyFrom.1 ∈ mm_tb := mm_u3 219 rfl rfl
theorem se_X1_copyFrom : Cond.selects q_X1_copyFrom.1.cls q_X1_copyFrom.1 q_X1_copyFrom.1 ∈ mm_tb := mm_tb_of (List.mem_append_left _ (List.mem_of_getElem? (i := 41) rfl)) rfl
def q_X1_hasLetter : mmM := (yX1_hasLetter, cX1_hasLetter, 2, (some .boolean))
theorem mf_X1_hasLetter : mm_mf q_X1_hasLetter 1 := ⟨mm_u2 176 rfl rfl, mm_u1 3 rfl rfl, by decide +kernel, by decide +kernel, by decide, by decide +kernel⟩
theorem im_X1_hasLetter : Cond.instanceMethod q_X1_hasLetter.1 ∈ mm_tb := mm_u2 175 rfl rfl
theorem se_X1_hasLetter : Cond.selects q_X1_hasLetter.1.cls q_X1_hasLetter.1 q_X1_hasLetter.1 ∈ mm_tb := mm_tb_of (List.mem_append_left _ (List.mem_of_getElem? (i := 4) rfl)) rfl
def q_X1_hasChild : mmM := (yX1_hasChild, cX1_hasChild, 2, (some .boolean))
theorem mf_X1_hasChild : mm_mf q_X1_hasChild 1 := ⟨mm_u2 196 rfl rfl, mm_u1 3 rfl rfl, by decide +kernel, by decide +kernel, by decide, by decide +kernel⟩
theorem im_X1_hasChild : Cond.instanceMethod q_X1_hasChild.1 ∈ mm_tb := mm_u2 195 rfl rfl
theorem se_X1_hasChild : Cond.selects q_X1_hasChild.1.cls q_X1_hasChild.1 q_X1_hasChild.1 ∈ mm_tb := mm_tb_of (List.mem_append_left _ (List.mem_of_getElem? (i := 7) rfl)) rfl
def q_X1_hasLaw : mmM := (yX1_hasLaw, cX1_hasLaw, 2, (some .boolean))
theorem mf_X1_hasLaw : mm_mf q_X1_hasLaw 1 := ⟨mm_u2 212 rfl rfl, mm_u1 3 rfl rfl, by decide +kernel, by decide +kernel, by decide, by decide +kernel⟩
theorem im_X1_hasLaw : Cond.instanceMethod q_X1_hasLaw.1 ∈ mm_tb := mm_u2 211 rfl rfl
theorem se_X1_hasLaw : Cond.selects q_X1_hasLaw.1.cls q_X1_hasLaw.1 q_X1_hasLaw.1 ∈ mm_tb := mm_tb_of (List.mem_append_left _ (List.mem_of_getElem? (i := 11) rfl)) rfl
def q_X1_lawInForce : mmM := (yX1_lawInForce, cX1_lawInForce, 1, (some (.object "DeadLetters$Text")))
theorem mf_X1_lawInForce : mm_mf q_X1_lawInForce 0 := ⟨mm_u2 208 rfl rfl, mm_u1 3 rfl rfl, by decide +kernel, by decide +kernel, by decide, by decide +kernel⟩
theorem im_X1_lawInForce : Cond.instanceMethod q_X1_lawInForce.1 ∈ mm_tb := mm_u2 207 rfl rfl
theorem se_X1_lawInForce : Cond.selects q_X1_lawInForce.1.cls q_X1_lawInForce.1 q_X1_lawInForce.1 ∈ mm_tb := mm_tb_of (List.mem_append_left _ (List.mem_of_getElem? (i := 10) rfl)) rfl
def q_X1_isAnswered : mmM := (yX1_isAnswered, cX1_isAnswered, 2, (some .boolean))
theorem mf_X1_isAnswered : mm_mf q_X1_isAnswered 1 := ⟨mm_u2 180 rfl rfl, mm_u1 3 rfl rfl, by decide +kernel, by decide +kernel, by decide, by decide +kernel⟩
theorem im_X1_isAnswered : Cond.instanceMethod q_X1_isAnswered.1 ∈ mm_tb := mm_u2 179 rfl rfl
theorem se_X1_isAnswered : Cond.selects q_X1_isAnswered.1.cls q_X1_isAnswered.1 q_X1_isAnswered.1 ∈ mm_tb := mm_tb_of (List.mem_append_left _ (List.mem_of_getElem? (i := 5) rfl)) rfl
def q_X1_openLetters : mmM := (yX1_openLetters, cX1_openLetters, 1, (some .int))
theorem mf_X1_openLetters : mm_mf q_X1_openLetters 0 := ⟨mm_u3 238 rfl rfl, mm_u1 3 rfl rfl, by decide +kernel, by decide +kernel, by decide, by decide +kernel⟩
theorem im_X1_openLetters : Cond.instanceMethod q_X1_openLetters.1 ∈ mm_tb := mm_u3 237 rfl rfl
theorem se_X1_openLetters : Cond.selects q_X1_openLetters.1.cls q_X1_openLetters.1 q_X1_openLetters.1 ∈ mm_tb := mm_tb_of (List.mem_append_left _ (List.mem_of_getElem? (i := 45) rfl)) rfl
def q_X1_canHold : mmM := (yX1_canHold, cX1_canHold, 3, (some .boolean))
theorem mf_X1_canHold : mm_mf q_X1_canHold 3 := ⟨mm_u2 152 rfl rfl, mm_u1 3 rfl rfl, by decide +kernel, by decide +kernel, by decide, by decide +kernel⟩
theorem st_X1_canHold : Cond.static q_X1_canHold.1 ∈ mm_tb := mm_u2 151 rfl rfl
def q_X1_addLetter : mmM := (yX1_addLetter, cX1_addLetter, 4, (some .int))
theorem mf_X1_addLetter : mm_mf q_X1_addLetter 3 := ⟨mm_u2 164 rfl rfl, mm_u1 3 rfl rfl, by decide +kernel, by decide +kernel, by decide, by decide +kernel⟩
theorem im_X1_addLetter : Cond.instanceMethod q_X1_addLetter.1 ∈ mm_tb := mm_u2 163 rfl rfl
theorem se_X1_addLetter : Cond.selects q_X1_addLetter.1.cls q_X1_addLetter.1 q_X1_addLetter.1 ∈ mm_tb := mm_tb_of (List.mem_append_left _ (List.mem_of_getElem? (i := 2) rfl)) rfl
def q_X1_addChild : mmM := (yX1_addChild, cX1_addChild, 2, (some .int))
theorem mf_X1_addChild : mm_mf q_X1_addChild 1 := ⟨mm_u2 188 rfl rfl, mm_u1 3 rfl rfl, by decide +kernel, by decide +kernel, by decide, by decide +kernel⟩
theorem im_X1_addChild : Cond.instanceMethod q_X1_addChild.1 ∈ mm_tb := mm_u2 187 rfl rfl
theorem se_X1_addChild : Cond.selects q_X1_addChild.1.cls q_X1_addChild.1 q_X1_addChild.1 ∈ mm_tb := mm_tb_of (List.mem_append_left _ (List.mem_of_getElem? (i := 6) rfl)) rfl
def q_X1_addTelling : mmM := (yX1_addTelling, cX1_addTelling, 3, (some .int))
theorem mf_X1_addTelling : mm_mf q_X1_addTelling 2 := ⟨mm_u4 99 rfl rfl, mm_u1 3 rfl rfl, by decide +kernel, by decide +kernel, by decide, by decide +kernel⟩
theorem im_X1_addTelling : Cond.instanceMethod q_X1_addTelling.1 ∈ mm_tb := mm_u4 98 rfl rfl
theorem se_X1_addTelling : Cond.selects q_X1_addTelling.1.cls q_X1_addTelling.1 q_X1_addTelling.1 ∈ mm_tb := mm_tb_of (List.mem_append_left _ (List.mem_of_getElem? (i := 56) rfl)) rfl
def q_X1_addLaw : mmM := (yX1_addLaw, cX1_addLaw, 2, (some .int))
theorem mf_X1_addLaw : mm_mf q_X1_addLaw 1 := ⟨mm_u3 211 rfl rfl, mm_u1 3 rfl rfl, by decide +kernel, by decide +kernel, by decide, by decide +kernel⟩
theorem im_X1_addLaw : Cond.instanceMethod q_X1_addLaw.1 ∈ mm_tb := mm_u3 210 rfl rfl
theorem se_X1_addLaw : Cond.selects q_X1_addLaw.1.cls q_X1_addLaw.1 q_X1_addLaw.1 ∈ mm_tb := mm_tb_of (List.mem_append_left _ (List.mem_of_getElem? (i := 40) rfl)) rfl
def q_X1_toldBits : mmM := (yX1_toldBits, cX1_toldBits, 4, (some .int))
theorem mf_X1_toldBits : mm_mf q_X1_toldBits 1 := ⟨mm_u4 115 rfl rfl, mm_u1 3 rfl rfl, by decide +kernel, by decide +kernel, by decide, by decide +kernel⟩
theorem im_X1_toldBits : Cond.instanceMethod q_X1_toldBits.1 ∈ mm_tb := mm_u4 114 rfl rfl
theorem se_X1_toldBits : Cond.selects q_X1_toldBits.1.cls q_X1_toldBits.1 q_X1_toldBits.1 ∈ mm_tb := mm_tb_of (List.mem_append_left _ (List.mem_of_getElem? (i := 58) rfl)) rfl
def q_X1_knownAmong : mmM := (yX1_knownAmong, cX1_knownAmong, 4, (some .int))
theorem mf_X1_knownAmong : mm_mf q_X1_knownAmong 1 := ⟨mm_u4 160 rfl rfl, mm_u1 3 rfl rfl, by decide +kernel, by decide +kernel, by decide, by decide +kernel⟩
theorem im_X1_knownAmong : Cond.instanceMethod q_X1_knownAmong.1 ∈ mm_tb := mm_u4 159 rfl rfl
theorem se_X1_knownAmong : Cond.selects q_X1_knownAmong.1.cls q_X1_knownAmong.1 q_X1_knownAmong.1 ∈ mm_tb := mm_tb_of (List.mem_append_left _ (List.mem_of_getElem? (i := 65) rfl)) rfl
def q_X1_fewestWhoKnow : mmM := (yX1_fewestWhoKnow, cX1_fewestWhoKnow, 5, (some .int))
theorem mf_X1_fewestWhoKnow : mm_mf q_X1_fewestWhoKnow 1 := ⟨mm_u4 156 rfl rfl, mm_u1 3 rfl rfl, by decide +kernel, by decide +kernel, by decide, by decide +kernel⟩
theorem im_X1_fewestWhoKnow : Cond.instanceMethod q_X1_fewestWhoKnow.1 ∈ mm_tb := mm_u4 155 rfl rfl
theorem se_X1_fewestWhoKnow : Cond.selects q_X1_fewestWhoKnow.1.cls q_X1_fewestWhoKnow.1 q_X1_fewestWhoKnow.1 ∈ mm_tb := mm_tb_of (List.mem_append_left _ (List.mem_of_getElem? (i := 64) rfl)) rfl
def q_X1_lacks : mmM := (yX1_lacks, cX1_lacks, 3, (some .boolean))
theorem mf_X1_lacks : mm_mf q_X1_lacks 2 := ⟨mm_u4 168 rfl rfl, mm_u1 3 rfl rfl, by decide +kernel, by decide +kernel, by decide, by decide +kernel⟩
theorem im_X1_lacks : Cond.instanceMethod q_X1_lacks.1 ∈ mm_tb := mm_u4 167 rfl rfl
theorem se_X1_lacks : Cond.selects q_X1_lacks.1.cls q_X1_lacks.1 q_X1_lacks.1 ∈ mm_tb := mm_tb_of (List.mem_append_left _ (List.mem_of_getElem? (i := 66) rfl)) rfl
def q_X1_objection : mmM := (yX1_objection, cX1_objection, 5, (some .int))
theorem mf_X1_objection : mm_mf q_X1_objection 3 := ⟨mm_u4 10 rfl rfl, mm_u1 3 rfl rfl, by decide +kernel, by decide +kernel, by decide, by decide +kernel⟩
theorem im_X1_objection : Cond.instanceMethod q_X1_objection.1 ∈ mm_tb := mm_u4 9 rfl rfl
theorem se_X1_objection : Cond.selects q_X1_objection.1.cls q_X1_objection.1 q_X1_objection.1 ∈ mm_tb := mm_tb_of (List.mem_append_left _ (List.mem_of_getElem? (i := 47) rfl)) rfl
def q_X1_perform : mmM := (yX1_perform, cX1_perform, 6, (some .int))
theorem mf_X1_perform : mm_mf q_X1_perform 3 := ⟨mm_u4 22 rfl rfl, mm_u1 3 rfl rfl, by decide +kernel, by decide +kernel, by decide, by decide +kernel⟩
theorem im_X1_perform : Cond.instanceMethod q_X1_perform.1 ∈ mm_tb := mm_u4 21 rfl rfl
theorem se_X1_perform : Cond.selects q_X1_perform.1.cls q_X1_perform.1 q_X1_perform.1 ∈ mm_tb := mm_tb_of (List.mem_append_left _ (List.mem_of_getElem? (i := 49) rfl)) rfl
def q_X2_init : mmM := (yX2_init, cX2_init, 3, none)
theorem mf_X2_init : mm_mf q_X2_init 2 := ⟨mm_u2 32 rfl rfl, mm_u1 9 rfl rfl, by decide +kernel, by decide +kernel, by decide, by decide +kernel⟩
theorem im_X2_init : Cond.instanceMethod q_X2_init.1 ∈ mm_tb := mm_u2 31 rfl rfl
def q_X2_findLesson : mmM := (yX2_findLesson, cX2_findLesson, 9, (some .int))
theorem mf_X2_findLesson : mm_mf q_X2_findLesson 2 := ⟨mm_u4 82 rfl rfl, mm_u1 9 rfl rfl, by decide +kernel, by decide +kernel, by decide, by decide +kernel⟩
theorem im_X2_findLesson : Cond.instanceMethod q_X2_findLesson.1 ∈ mm_tb := mm_u4 81 rfl rfl
theorem se_X2_findLesson : Cond.selects q_X2_findLesson.1.cls q_X2_findLesson.1 q_X2_findLesson.1 ∈ mm_tb := mm_tb_of (List.mem_append_left _ (List.mem_of_getElem? (i := 54) rfl)) rfl
def q_X2_layOutLesson : mmM := (yX2_layOutLesson, cX2_layOutLesson, 5, (some .int))
theorem mf_X2_layOutLesson : mm_mf q_X2_layOutLesson 1 := ⟨mm_u4 89 rfl rfl, mm_u1 9 rfl rfl, by decide +kernel, by decide +kernel, by decide, by decide +kernel⟩
theorem im_X2_layOutLesson : Cond.instanceMethod q_X2_layOutLesson.1 ∈ mm_tb := mm_u4 88 rfl rfl
theorem se_X2_layOutLesson : Cond.selects q_X2_layOutLesson.1.cls q_X2_layOutLesson.1 q_X2_layOutLesson.1 ∈ mm_tb := mm_tb_of (List.mem_append_left _ (List.mem_of_getElem? (i := 55) rfl)) rfl
def q_X2_findHeard : mmM := (yX2_findHeard, cX2_findHeard, 7, (some .int))
theorem mf_X2_findHeard : mm_mf q_X2_findHeard 1 := ⟨mm_u4 111 rfl rfl, mm_u1 9 rfl rfl, by decide +kernel, by decide +kernel, by decide, by decide +kernel⟩
theorem im_X2_findHeard : Cond.instanceMethod q_X2_findHeard.1 ∈ mm_tb := mm_u4 110 rfl rfl
theorem se_X2_findHeard : Cond.selects q_X2_findHeard.1.cls q_X2_findHeard.1 q_X2_findHeard.1 ∈ mm_tb := mm_tb_of (List.mem_append_left _ (List.mem_of_getElem? (i := 57) rfl)) rfl
def q_X2_mostLeft : mmM := (yX2_mostLeft, cX2_mostLeft, 5, (some .int))
theorem mf_X2_mostLeft : mm_mf q_X2_mostLeft 2 := ⟨mm_u4 123 rfl rfl, mm_u1 9 rfl rfl, by decide +kernel, by decide +kernel, by decide, by decide +kernel⟩
theorem im_X2_mostLeft : Cond.instanceMethod q_X2_mostLeft.1 ∈ mm_tb := mm_u4 122 rfl rfl
theorem se_X2_mostLeft : Cond.selects q_X2_mostLeft.1.cls q_X2_mostLeft.1 q_X2_mostLeft.1 ∈ mm_tb := mm_tb_of (List.mem_append_left _ (List.mem_of_getElem? (i := 59) rfl)) rfl
def q_X2_match : mmM := (yX2_match, cX2_match, 4, (some .int))
theorem mf_X2_match : mm_mf q_X2_match 0 := ⟨mm_u4 132 rfl rfl, mm_u1 9 rfl rfl, by decide +kernel, by decide +kernel, by decide, by decide +kernel⟩
theorem im_X2_match : Cond.instanceMethod q_X2_match.1 ∈ mm_tb := mm_u4 131 rfl rfl
theorem se_X2_match : Cond.selects q_X2_match.1.cls q_X2_match.1 q_X2_match.1 ∈ mm_tb := mm_tb_of (List.mem_append_left _ (List.mem_of_getElem? (i := 60) rfl)) rfl
def q_X2_weigh : mmM := (yX2_weigh, cX2_weigh, 5, none)
theorem mf_X2_weigh : mm_mf q_X2_weigh 0 := ⟨mm_u4 136 rfl rfl, mm_u1 9 rfl rfl, by decide +kernel, by decide +kernel, by decide, by decide +kernel⟩
theorem im_X2_weigh : Cond.instanceMethod q_X2_weigh.1 ∈ mm_tb := mm_u4 135 rfl rfl
theorem se_X2_weigh : Cond.selects q_X2_weigh.1.cls q_X2_weigh.1 q_X2_weigh.1 ∈ mm_tb := mm_tb_of (List.mem_append_left _ (List.mem_of_getElem? (i := 61) rfl)) rfl
def q_X2_mostFrom : mmM := (yX2_mostFrom, cX2_mostFrom, 7, (some .int))
theorem mf_X2_mostFrom : mm_mf q_X2_mostFrom 2 := ⟨mm_u4 144 rfl rfl, mm_u1 9 rfl rfl, by decide +kernel, by decide +kernel, by decide, by decide +kernel⟩
theorem im_X2_mostFrom : Cond.instanceMethod q_X2_mostFrom.1 ∈ mm_tb := mm_u4 143 rfl rfl
theorem se_X2_mostFrom : Cond.selects q_X2_mostFrom.1.cls q_X2_mostFrom.1 q_X2_mostFrom.1 ∈ mm_tb := mm_tb_of (List.mem_append_left _ (List.mem_of_getElem? (i := 62) rfl)) rfl
def q_X2_firstOfMost : mmM := (yX2_firstOfMost, cX2_firstOfMost, 7, (some .int))
theorem mf_X2_firstOfMost : mm_mf q_X2_firstOfMost 2 := ⟨mm_u4 148 rfl rfl, mm_u1 9 rfl rfl, by decide +kernel, by decide +kernel, by decide, by decide +kernel⟩
theorem im_X2_firstOfMost : Cond.instanceMethod q_X2_firstOfMost.1 ∈ mm_tb := mm_u4 147 rfl rfl
theorem se_X2_firstOfMost : Cond.selects q_X2_firstOfMost.1.cls q_X2_firstOfMost.1 q_X2_firstOfMost.1 ∈ mm_tb := mm_tb_of (List.mem_append_left _ (List.mem_of_getElem? (i := 63) rfl)) rfl
def q_X2_chanceBelow : mmM := (yX2_chanceBelow, cX2_chanceBelow, 9, (some .long))
theorem mf_X2_chanceBelow : mm_mf q_X2_chanceBelow 2 := ⟨mm_u4 191 rfl rfl, mm_u1 9 rfl rfl, by decide +kernel, by decide +kernel, by decide, by decide +kernel⟩
theorem im_X2_chanceBelow : Cond.instanceMethod q_X2_chanceBelow.1 ∈ mm_tb := mm_u4 190 rfl rfl
theorem se_X2_chanceBelow : Cond.selects q_X2_chanceBelow.1.cls q_X2_chanceBelow.1 q_X2_chanceBelow.1 ∈ mm_tb := mm_tb_of (List.mem_append_left _ (List.mem_of_getElem? (i := 67) rfl)) rfl
def q_X3_init : mmM := (yX3_init, cX3_init, 2, none)
theorem mf_X3_init : mm_mf q_X3_init 1 := ⟨mm_u1 171 rfl rfl, mm_u1 6 rfl rfl, by decide +kernel, by decide +kernel, by decide, by decide +kernel⟩
theorem im_X3_init : Cond.instanceMethod q_X3_init.1 ∈ mm_tb := mm_u1 170 rfl rfl
def q_X3_take : mmM := (yX3_take, cX3_take, 3, (some .boolean))
theorem mf_X3_take : mm_mf q_X3_take 1 := ⟨mm_u3 56 rfl rfl, mm_u1 6 rfl rfl, by decide +kernel, by decide +kernel, by decide, by decide +kernel⟩
theorem im_X3_take : Cond.instanceMethod q_X3_take.1 ∈ mm_tb := mm_u3 55 rfl rfl
theorem se_X3_take : Cond.selects q_X3_take.1.cls q_X3_take.1 q_X3_take.1 ∈ mm_tb := mm_tb_of (List.mem_append_left _ (List.mem_of_getElem? (i := 19) rfl)) rfl
def q_X3_stop : mmM := (yX3_stop, cX3_stop, 1, (some .boolean))
theorem mf_X3_stop : mm_mf q_X3_stop 0 := ⟨mm_u3 134 rfl rfl, mm_u1 6 rfl rfl, by decide +kernel, by decide +kernel, by decide, by decide +kernel⟩
theorem im_X3_stop : Cond.instanceMethod q_X3_stop.1 ∈ mm_tb := mm_u3 133 rfl rfl
theorem se_X3_stop : Cond.selects q_X3_stop.1.cls q_X3_stop.1 q_X3_stop.1 ∈ mm_tb := mm_tb_of (List.mem_append_left _ (List.mem_of_getElem? (i := 25) rfl)) rfl
def q_X3_takeSign : mmM := (yX3_takeSign, cX3_takeSign, 2, (some .boolean))
theorem mf_X3_takeSign : mm_mf q_X3_takeSign 1 := ⟨mm_u3 160 rfl rfl, mm_u1 6 rfl rfl, by decide +kernel, by decide +kernel, by decide, by decide +kernel⟩
theorem im_X3_takeSign : Cond.instanceMethod q_X3_takeSign.1 ∈ mm_tb := mm_u3 159 rfl rfl
theorem se_X3_takeSign : Cond.selects q_X3_takeSign.1.cls q_X3_takeSign.1 q_X3_takeSign.1 ∈ mm_tb := mm_tb_of (List.mem_append_left _ (List.mem_of_getElem? (i := 31) rfl)) rfl
def q_X3_takeClause : mmM := (yX3_takeClause, cX3_takeClause, 3, (some .boolean))
theorem mf_X3_takeClause : mm_mf q_X3_takeClause 0 := ⟨mm_u3 76 rfl rfl, mm_u1 6 rfl rfl, by decide +kernel, by decide +kernel, by decide, by decide +kernel⟩
theorem im_X3_takeClause : Cond.instanceMethod q_X3_takeClause.1 ∈ mm_tb := mm_u3 75 rfl rfl
theorem se_X3_takeClause : Cond.selects q_X3_takeClause.1.cls q_X3_takeClause.1 q_X3_takeClause.1 ∈ mm_tb := mm_tb_of (List.mem_append_left _ (List.mem_of_getElem? (i := 23) rfl)) rfl
def q_X3_takeRestOfOrder : mmM := (yX3_takeRestOfOrder, cX3_takeRestOfOrder, 3, (some .boolean))
theorem mf_X3_takeRestOfOrder : mm_mf q_X3_takeRestOfOrder 2 := ⟨mm_u3 195 rfl rfl, mm_u1 6 rfl rfl, by decide +kernel, by decide +kernel, by decide, by decide +kernel⟩
theorem im_X3_takeRestOfOrder : Cond.instanceMethod q_X3_takeRestOfOrder.1 ∈ mm_tb := mm_u3 194 rfl rfl
theorem se_X3_takeRestOfOrder : Cond.selects q_X3_takeRestOfOrder.1.cls q_X3_takeRestOfOrder.1 q_X3_takeRestOfOrder.1 ∈ mm_tb := mm_tb_of (List.mem_append_left _ (List.mem_of_getElem? (i := 38) rfl)) rfl
def q_X3_takeLevel : mmM := (yX3_takeLevel, cX3_takeLevel, 6, (some .boolean))
theorem mf_X3_takeLevel : mm_mf q_X3_takeLevel 2 := ⟨mm_u3 143 rfl rfl, mm_u1 6 rfl rfl, by decide +kernel, by decide +kernel, by decide, by decide +kernel⟩
theorem im_X3_takeLevel : Cond.instanceMethod q_X3_takeLevel.1 ∈ mm_tb := mm_u3 142 rfl rfl
theorem se_X3_takeLevel : Cond.selects q_X3_takeLevel.1.cls q_X3_takeLevel.1 q_X3_takeLevel.1 ∈ mm_tb := mm_tb_of (List.mem_append_left _ (List.mem_of_getElem? (i := 27) rfl)) rfl
def q_X3_stepOf : mmM := (yX3_stepOf, cX3_stepOf, 2, (some .int))
theorem mf_X3_stepOf : mm_mf q_X3_stepOf 1 := ⟨mm_u3 185 rfl rfl, mm_u1 6 rfl rfl, by decide +kernel, by decide +kernel, by decide, by decide +kernel⟩
theorem im_X3_stepOf : Cond.instanceMethod q_X3_stepOf.1 ∈ mm_tb := mm_u3 184 rfl rfl
theorem se_X3_stepOf : Cond.selects q_X3_stepOf.1.cls q_X3_stepOf.1 q_X3_stepOf.1 ∈ mm_tb := mm_tb_of (List.mem_append_left _ (List.mem_of_getElem? (i := 36) rfl)) rfl
def q_X3_pick : mmM := (yX3_pick, cX3_pick, 5, (some .int))
theorem mf_X3_pick : mm_mf q_X3_pick 5 := ⟨mm_u3 167 rfl rfl, mm_u1 6 rfl rfl, by decide +kernel, by decide +kernel, by decide, by decide +kernel⟩
theorem st_X3_pick : Cond.static q_X3_pick.1 ∈ mm_tb := mm_u3 166 rfl rfl
def q_X3_takePlain : mmM := (yX3_takePlain, cX3_takePlain, 4, (some .boolean))
theorem mf_X3_takePlain : mm_mf q_X3_takePlain 1 := ⟨mm_u3 147 rfl rfl, mm_u1 6 rfl rfl, by decide +kernel, by decide +kernel, by decide, by decide +kernel⟩
theorem im_X3_takePlain : Cond.instanceMethod q_X3_takePlain.1 ∈ mm_tb := mm_u3 146 rfl rfl
theorem se_X3_takePlain : Cond.selects q_X3_takePlain.1.cls q_X3_takePlain.1 q_X3_takePlain.1 ∈ mm_tb := mm_tb_of (List.mem_append_left _ (List.mem_of_getElem? (i := 28) rfl)) rfl
def q_X3_takeBracket : mmM := (yX3_takeBracket, cX3_takeBracket, 4, (some .boolean))
theorem mf_X3_takeBracket : mm_mf q_X3_takeBracket 3 := ⟨mm_u3 156 rfl rfl, mm_u1 6 rfl rfl, by decide +kernel, by decide +kernel, by decide, by decide +kernel⟩
theorem im_X3_takeBracket : Cond.instanceMethod q_X3_takeBracket.1 ∈ mm_tb := mm_u3 155 rfl rfl
theorem se_X3_takeBracket : Cond.selects q_X3_takeBracket.1.cls q_X3_takeBracket.1 q_X3_takeBracket.1 ∈ mm_tb := mm_tb_of (List.mem_append_left _ (List.mem_of_getElem? (i := 30) rfl)) rfl
def q_X3_takeComparison : mmM := (yX3_takeComparison, cX3_takeComparison, 3, (some .boolean))
theorem mf_X3_takeComparison : mm_mf q_X3_takeComparison 1 := ⟨mm_u3 164 rfl rfl, mm_u1 6 rfl rfl, by decide +kernel, by decide +kernel, by decide, by decide +kernel⟩
theorem im_X3_takeComparison : Cond.instanceMethod q_X3_takeComparison.1 ∈ mm_tb := mm_u3 163 rfl rfl
theorem se_X3_takeComparison : Cond.selects q_X3_takeComparison.1.cls q_X3_takeComparison.1 q_X3_takeComparison.1 ∈ mm_tb := mm_tb_of (List.mem_append_left _ (List.mem_of_getElem? (i := 32) rfl)) rfl
def q_X3_takePart : mmM := (yX3_takePart, cX3_takePart, 3, (some .boolean))
theorem mf_X3_takePart : mm_mf q_X3_takePart 1 := ⟨mm_u3 175 rfl rfl, mm_u1 6 rfl rfl, by decide +kernel, by decide +kernel, by decide, by decide +kernel⟩
theorem im_X3_takePart : Cond.instanceMethod q_X3_takePart.1 ∈ mm_tb := mm_u3 174 rfl rfl
theorem se_X3_takePart : Cond.selects q_X3_takePart.1.cls q_X3_takePart.1 q_X3_takePart.1 ∈ mm_tb := mm_tb_of (List.mem_append_left _ (List.mem_of_getElem? (i := 34) rfl)) rfl
def q_X4_init : mmM := (yX4_init, cX4_init, 2, none)
theorem mf_X4_init : mm_mf q_X4_init 1 := ⟨mm_u2 82 rfl rfl, mm_u1 10 rfl rfl, by decide +kernel, by decide +kernel, by decide, by decide +kernel⟩
theorem im_X4_init : Cond.instanceMethod q_X4_init.1 ∈ mm_tb := mm_u2 81 rfl rfl
def q_X4_hold : mmM := (yX4_hold, cX4_hold, 10, (some .int))
theorem mf_X4_hold : mm_mf q_X4_hold 3 := ⟨mm_u4 209 rfl rfl, mm_u1 10 rfl rfl, by decide +kernel, by decide +kernel, by decide, by decide +kernel⟩
theorem im_X4_hold : Cond.instanceMethod q_X4_hold.1 ∈ mm_tb := mm_u4 208 rfl rfl
theorem se_X4_hold : Cond.selects q_X4_hold.1.cls q_X4_hold.1 q_X4_hold.1 ∈ mm_tb := mm_tb_of (List.mem_append_left _ (List.mem_of_getElem? (i := 68) rfl)) rfl
def q_X4_draw : mmM := (yX4_draw, cX4_draw, 2, (some .int))
theorem mf_X4_draw : mm_mf q_X4_draw 1 := ⟨mm_u4 214 rfl rfl, mm_u1 10 rfl rfl, by decide +kernel, by decide +kernel, by decide, by decide +kernel⟩
theorem im_X4_draw : Cond.instanceMethod q_X4_draw.1 ∈ mm_tb := mm_u4 213 rfl rfl
theorem se_X4_draw : Cond.selects q_X4_draw.1.cls q_X4_draw.1 q_X4_draw.1 ∈ mm_tb := mm_tb_of (List.mem_append_left _ (List.mem_of_getElem? (i := 69) rfl)) rfl
def q_X5_init : mmM := (yX5_init, cX5_init, 1, none)
theorem mf_X5_init : mm_mf q_X5_init 0 := ⟨mm_u1 154 rfl rfl, mm_u1 5 rfl rfl, by decide +kernel, by decide +kernel, by decide, by decide +kernel⟩
theorem im_X5_init : Cond.instanceMethod q_X5_init.1 ∈ mm_tb := mm_u1 153 rfl rfl
def q_X5_hasRoom : mmM := (yX5_hasRoom, cX5_hasRoom, 2, (some .boolean))
theorem mf_X5_hasRoom : mm_mf q_X5_hasRoom 1 := ⟨mm_u3 28 rfl rfl, mm_u1 5 rfl rfl, by decide +kernel, by decide +kernel, by decide, by decide +kernel⟩
theorem im_X5_hasRoom : Cond.instanceMethod q_X5_hasRoom.1 ∈ mm_tb := mm_u3 27 rfl rfl
theorem se_X5_hasRoom : Cond.selects q_X5_hasRoom.1.cls q_X5_hasRoom.1 q_X5_hasRoom.1 ∈ mm_tb := mm_tb_of (List.mem_append_left _ (List.mem_of_getElem? (i := 16) rfl)) rfl
def q_X5_append : mmM := (yX5_append, cX5_append, 3, none)
theorem mf_X5_append : mm_mf q_X5_append 1 := ⟨mm_u3 32 rfl rfl, mm_u1 5 rfl rfl, by decide +kernel, by decide +kernel, by decide, by decide +kernel⟩
theorem im_X5_append : Cond.instanceMethod q_X5_append.1 ∈ mm_tb := mm_u3 31 rfl rfl
theorem se_X5_append : Cond.selects q_X5_append.1.cls q_X5_append.1 q_X5_append.1 ∈ mm_tb := mm_tb_of (List.mem_append_left _ (List.mem_of_getElem? (i := 17) rfl)) rfl
def q_X6_init : mmM := (yX6_init, cX6_init, 3, none)
theorem mf_X6_init : mm_mf q_X6_init 2 := ⟨mm_u1 202 rfl rfl, mm_u1 8 rfl rfl, by decide +kernel, by decide +kernel, by decide, by decide +kernel⟩
theorem im_X6_init : Cond.instanceMethod q_X6_init.1 ∈ mm_tb := mm_u1 201 rfl rfl
def q_X6_clear : mmM := (yX6_clear, cX6_clear, 1, none)
theorem mf_X6_clear : mm_mf q_X6_clear 0 := ⟨mm_u3 60 rfl rfl, mm_u1 8 rfl rfl, by decide +kernel, by decide +kernel, by decide, by decide +kernel⟩
theorem im_X6_clear : Cond.instanceMethod q_X6_clear.1 ∈ mm_tb := mm_u3 59 rfl rfl
theorem se_X6_clear : Cond.selects q_X6_clear.1.cls q_X6_clear.1 q_X6_clear.1 ∈ mm_tb := mm_tb_of (List.mem_append_left _ (List.mem_of_getElem? (i := 20) rfl)) rfl
def q_X6_open : mmM := (yX6_open, cX6_open, 2, (some .int))
theorem mf_X6_open : mm_mf q_X6_open 1 := ⟨mm_u3 138 rfl rfl, mm_u1 8 rfl rfl, by decide +kernel, by decide +kernel, by decide, by decide +kernel⟩
theorem im_X6_open : Cond.instanceMethod q_X6_open.1 ∈ mm_tb := mm_u3 137 rfl rfl
theorem se_X6_open : Cond.selects q_X6_open.1.cls q_X6_open.1 q_X6_open.1 ∈ mm_tb := mm_tb_of (List.mem_append_left _ (List.mem_of_getElem? (i := 26) rfl)) rfl
def q_X6_emit : mmM := (yX6_emit, cX6_emit, 3, none)
theorem mf_X6_emit : mm_mf q_X6_emit 2 := ⟨mm_u3 171 rfl rfl, mm_u1 8 rfl rfl, by decide +kernel, by decide +kernel, by decide, by decide +kernel⟩
theorem im_X6_emit : Cond.instanceMethod q_X6_emit.1 ∈ mm_tb := mm_u3 170 rfl rfl
theorem se_X6_emit : Cond.selects q_X6_emit.1.cls q_X6_emit.1 q_X6_emit.1 ∈ mm_tb := mm_tb_of (List.mem_append_left _ (List.mem_of_getElem? (i := 33) rfl)) rfl
def q_X6_aim : mmM := (yX6_aim, cX6_aim, 2, none)
theorem mf_X6_aim : mm_mf q_X6_aim 1 := ⟨mm_u3 191 rfl rfl, mm_u1 8 rfl rfl, by decide +kernel, by decide +kernel, by decide, by decide +kernel⟩
theorem im_X6_aim : Cond.instanceMethod q_X6_aim.1 ∈ mm_tb := mm_u3 190 rfl rfl
theorem se_X6_aim : Cond.selects q_X6_aim.1.cls q_X6_aim.1 q_X6_aim.1 ∈ mm_tb := mm_tb_of (List.mem_append_left _ (List.mem_of_getElem? (i := 37) rfl)) rfl
def q_X6_compact : mmM := (yX6_compact, cX6_compact, 2, (some (.object "DeadLetters$Text")))
theorem mf_X6_compact : mm_mf q_X6_compact 0 := ⟨mm_u3 202 rfl rfl, mm_u1 8 rfl rfl, by decide +kernel, by decide +kernel, by decide, by decide +kernel⟩
theorem im_X6_compact : Cond.instanceMethod q_X6_compact.1 ∈ mm_tb := mm_u3 201 rfl rfl
theorem se_X6_compact : Cond.selects q_X6_compact.1.cls q_X6_compact.1 q_X6_compact.1 ∈ mm_tb := mm_tb_of (List.mem_append_left _ (List.mem_of_getElem? (i := 39) rfl)) rfl
def q_X7_init : mmM := (yX7_init, cX7_init, 2, none)
theorem mf_X7_init : mm_mf q_X7_init 1 := ⟨mm_u1 177 rfl rfl, mm_u1 7 rfl rfl, by decide +kernel, by decide +kernel, by decide, by decide +kernel⟩
theorem im_X7_init : Cond.instanceMethod q_X7_init.1 ∈ mm_tb := mm_u1 176 rfl rfl
def q_X7_begin : mmM := (yX7_begin, cX7_begin, 1, none)
theorem mf_X7_begin : mm_mf q_X7_begin 0 := ⟨mm_u3 64 rfl rfl, mm_u1 7 rfl rfl, by decide +kernel, by decide +kernel, by decide, by decide +kernel⟩
theorem im_X7_begin : Cond.instanceMethod q_X7_begin.1 ∈ mm_tb := mm_u3 63 rfl rfl
theorem se_X7_begin : Cond.selects q_X7_begin.1.cls q_X7_begin.1 q_X7_begin.1 ∈ mm_tb := mm_tb_of (List.mem_append_left _ (List.mem_of_getElem? (i := 21) rfl)) rfl
def q_X7_advance : mmM := (yX7_advance, cX7_advance, 3, none)
theorem mf_X7_advance : mm_mf q_X7_advance 0 := ⟨mm_u3 68 rfl rfl, mm_u1 7 rfl rfl, by decide +kernel, by decide +kernel, by decide, by decide +kernel⟩
theorem im_X7_advance : Cond.instanceMethod q_X7_advance.1 ∈ mm_tb := mm_u3 67 rfl rfl
theorem se_X7_advance : Cond.selects q_X7_advance.1.cls q_X7_advance.1 q_X7_advance.1 ∈ mm_tb := mm_tb_of (List.mem_append_left _ (List.mem_of_getElem? (i := 22) rfl)) rfl
def q_X7_kindOf : mmM := (yX7_kindOf, cX7_kindOf, 1, (some .int))
theorem mf_X7_kindOf : mm_mf q_X7_kindOf 1 := ⟨mm_u3 71 rfl rfl, mm_u1 7 rfl rfl, by decide +kernel, by decide +kernel, by decide, by decide +kernel⟩
theorem st_X7_kindOf : Cond.static q_X7_kindOf.1 ∈ mm_tb := mm_u3 70 rfl rfl
def q_X7_isSign : mmM := (yX7_isSign, cX7_isSign, 2, (some .boolean))
theorem mf_X7_isSign : mm_mf q_X7_isSign 1 := ⟨mm_u3 152 rfl rfl, mm_u1 7 rfl rfl, by decide +kernel, by decide +kernel, by decide, by decide +kernel⟩
theorem im_X7_isSign : Cond.instanceMethod q_X7_isSign.1 ∈ mm_tb := mm_u3 151 rfl rfl
theorem se_X7_isSign : Cond.selects q_X7_isSign.1.cls q_X7_isSign.1 q_X7_isSign.1 ∈ mm_tb := mm_tb_of (List.mem_append_left _ (List.mem_of_getElem? (i := 29) rfl)) rfl
def q_X7_isNumber : mmM := (yX7_isNumber, cX7_isNumber, 3, (some .boolean))
theorem mf_X7_isNumber : mm_mf q_X7_isNumber 2 := ⟨mm_u3 179 rfl rfl, mm_u1 7 rfl rfl, by decide +kernel, by decide +kernel, by decide, by decide +kernel⟩
theorem im_X7_isNumber : Cond.instanceMethod q_X7_isNumber.1 ∈ mm_tb := mm_u3 178 rfl rfl
theorem se_X7_isNumber : Cond.selects q_X7_isNumber.1.cls q_X7_isNumber.1 q_X7_isNumber.1 ∈ mm_tb := mm_tb_of (List.mem_append_left _ (List.mem_of_getElem? (i := 35) rfl)) rfl
def q_X7_wordAmong : mmM := (yX7_wordAmong, cX7_wordAmong, 6, (some .int))
theorem mf_X7_wordAmong : mm_mf q_X7_wordAmong 1 := ⟨mm_u3 82 rfl rfl, mm_u1 7 rfl rfl, by decide +kernel, by decide +kernel, by decide, by decide +kernel⟩
theorem im_X7_wordAmong : Cond.instanceMethod q_X7_wordAmong.1 ∈ mm_tb := mm_u3 81 rfl rfl
theorem se_X7_wordAmong : Cond.selects q_X7_wordAmong.1.cls q_X7_wordAmong.1 q_X7_wordAmong.1 ∈ mm_tb := mm_tb_of (List.mem_append_left _ (List.mem_of_getElem? (i := 24) rfl)) rfl
def q_X8_init : mmM := (yX8_init, cX8_init, 1, none)
theorem mf_X8_init : mm_mf q_X8_init 0 := ⟨mm_u1 139 rfl rfl, mm_u1 4 rfl rfl, by decide +kernel, by decide +kernel, by decide, by decide +kernel⟩
theorem im_X8_init : Cond.instanceMethod q_X8_init.1 ∈ mm_tb := mm_u1 138 rfl rfl
def q_X8_clear : mmM := (yX8_clear, cX8_clear, 1, none)
theorem mf_X8_clear : mm_mf q_X8_clear 0 := ⟨mm_u2 160 rfl rfl, mm_u1 4 rfl rfl, by decide +kernel, by decide +kernel, by decide, by decide +kernel⟩
theorem im_X8_clear : Cond.instanceMethod q_X8_clear.1 ∈ mm_tb := mm_u2 159 rfl rfl
theorem se_X8_clear : Cond.selects q_X8_clear.1.cls q_X8_clear.1 q_X8_clear.1 ∈ mm_tb := mm_tb_of (List.mem_append_left _ (List.mem_of_getElem? (i := 1) rfl)) rfl
def q_X8_copyFrom : mmM := (yX8_copyFrom, cX8_copyFrom, 2, none)
theorem mf_X8_copyFrom : mm_mf q_X8_copyFrom 1 := ⟨mm_u3 225 rfl rfl, mm_u1 4 rfl rfl, by decide +kernel, by decide +kernel, by decide, by decide +kernel⟩
theorem im_X8_copyFrom : Cond.instanceMethod q_X8_copyFrom.1 ∈ mm_tb := mm_u3 224 rfl rfl
theorem se_X8_copyFrom : Cond.selects q_X8_copyFrom.1.cls q_X8_copyFrom.1 q_X8_copyFrom.1 ∈ mm_tb := mm_tb_of (List.mem_append_left _ (List.mem_of_getElem? (i := 42) rfl)) rfl
def q_X8_keep : mmM := (yX8_keep, cX8_keep, 4, none)
theorem mf_X8_keep : mm_mf q_X8_keep 2 := ⟨mm_u4 18 rfl rfl, mm_u1 4 rfl rfl, by decide +kernel, by decide +kernel, by decide, by decide +kernel⟩
theorem im_X8_keep : Cond.instanceMethod q_X8_keep.1 ∈ mm_tb := mm_u4 17 rfl rfl
theorem se_X8_keep : Cond.selects q_X8_keep.1.cls q_X8_keep.1 q_X8_keep.1 ∈ mm_tb := mm_tb_of (List.mem_append_left _ (List.mem_of_getElem? (i := 48) rfl)) rfl
def q_X8_takeBack : mmM := (yX8_takeBack, cX8_takeBack, 3, (some .int))
theorem mf_X8_takeBack : mm_mf q_X8_takeBack 1 := ⟨mm_u4 74 rfl rfl, mm_u1 4 rfl rfl, by decide +kernel, by decide +kernel, by decide, by decide +kernel⟩
theorem im_X8_takeBack : Cond.instanceMethod q_X8_takeBack.1 ∈ mm_tb := mm_u4 73 rfl rfl
theorem se_X8_takeBack : Cond.selects q_X8_takeBack.1.cls q_X8_takeBack.1 q_X8_takeBack.1 ∈ mm_tb := mm_tb_of (List.mem_append_left _ (List.mem_of_getElem? (i := 53) rfl)) rfl
def q_X9_init : mmM := (yX9_init, cX9_init, 2, none)
theorem mf_X9_init : mm_mf q_X9_init 0 := ⟨mm_u1 24 rfl rfl, mm_u1 1 rfl rfl, by decide +kernel, by decide +kernel, by decide, by decide +kernel⟩
theorem im_X9_init : Cond.instanceMethod q_X9_init.1 ∈ mm_tb := mm_u1 23 rfl rfl
def q_X9_letter : mmM := (yX9_letter, cX9_letter, 4, (some .int))
theorem mf_X9_letter : mm_mf q_X9_letter 3 := ⟨mm_u2 149 rfl rfl, mm_u1 1 rfl rfl, by decide +kernel, by decide +kernel, by decide, by decide +kernel⟩
theorem im_X9_letter : Cond.instanceMethod q_X9_letter.1 ∈ mm_tb := mm_u2 147 rfl rfl
theorem se_X9_letter : Cond.selects q_X9_letter.1.cls q_X9_letter.1 q_X9_letter.1 ∈ mm_tb := mm_u2 148 rfl rfl
def q_X9_at : mmM := (yX9_at, cX9_at, 3, (some .int))
theorem mf_X9_at : mm_mf q_X9_at 2 := ⟨mm_u2 172 rfl rfl, mm_u1 1 rfl rfl, by decide +kernel, by decide +kernel, by decide, by decide +kernel⟩
theorem im_X9_at : Cond.instanceMethod q_X9_at.1 ∈ mm_tb := mm_u2 170 rfl rfl
theorem se_X9_at : Cond.selects q_X9_at.1.cls q_X9_at.1 q_X9_at.1 ∈ mm_tb := mm_u2 171 rfl rfl
def q_X9_child : mmM := (yX9_child, cX9_child, 2, (some .int))
theorem mf_X9_child : mm_mf q_X9_child 1 := ⟨mm_u2 184 rfl rfl, mm_u1 1 rfl rfl, by decide +kernel, by decide +kernel, by decide, by decide +kernel⟩
theorem im_X9_child : Cond.instanceMethod q_X9_child.1 ∈ mm_tb := mm_u2 182 rfl rfl
theorem se_X9_child : Cond.selects q_X9_child.1.cls q_X9_child.1 q_X9_child.1 ∈ mm_tb := mm_u2 183 rfl rfl
def q_X9_of : mmM := (yX9_of, cX9_of, 3, (some .int))
theorem mf_X9_of : mm_mf q_X9_of 2 := ⟨mm_u2 192 rfl rfl, mm_u1 1 rfl rfl, by decide +kernel, by decide +kernel, by decide, by decide +kernel⟩
theorem im_X9_of : Cond.instanceMethod q_X9_of.1 ∈ mm_tb := mm_u2 190 rfl rfl
theorem se_X9_of : Cond.selects q_X9_of.1.cls q_X9_of.1 q_X9_of.1 ∈ mm_tb := mm_u2 191 rfl rfl
def q_X9_asks : mmM := (yX9_asks, cX9_asks, 4, (some .int))
theorem mf_X9_asks : mm_mf q_X9_asks 3 := ⟨mm_u3 4 rfl rfl, mm_u1 1 rfl rfl, by decide +kernel, by decide +kernel, by decide, by decide +kernel⟩
theorem im_X9_asks : Cond.instanceMethod q_X9_asks.1 ∈ mm_tb := mm_u3 2 rfl rfl
theorem se_X9_asks : Cond.selects q_X9_asks.1.cls q_X9_asks.1 q_X9_asks.1 ∈ mm_tb := mm_u3 3 rfl rfl
def q_X9_terms : mmM := (yX9_terms, cX9_terms, 4, (some .int))
theorem mf_X9_terms : mm_mf q_X9_terms 2 := ⟨mm_u3 17 rfl rfl, mm_u1 1 rfl rfl, by decide +kernel, by decide +kernel, by decide, by decide +kernel⟩
theorem im_X9_terms : Cond.instanceMethod q_X9_terms.1 ∈ mm_tb := mm_u3 15 rfl rfl
theorem se_X9_terms : Cond.selects q_X9_terms.1.cls q_X9_terms.1 q_X9_terms.1 ∈ mm_tb := mm_u3 16 rfl rfl
def q_X9_feed : mmM := (yX9_feed, cX9_feed, 6, (some .int))
theorem mf_X9_feed : mm_mf q_X9_feed 5 := ⟨mm_u3 24 rfl rfl, mm_u1 1 rfl rfl, by decide +kernel, by decide +kernel, by decide, by decide +kernel⟩
theorem im_X9_feed : Cond.instanceMethod q_X9_feed.1 ∈ mm_tb := mm_u3 22 rfl rfl
theorem se_X9_feed : Cond.selects q_X9_feed.1.cls q_X9_feed.1 q_X9_feed.1 ∈ mm_tb := mm_u3 23 rfl rfl
def q_X9_end : mmM := (yX9_end, cX9_end, 2, (some .int))
theorem mf_X9_end : mm_mf q_X9_end 1 := ⟨mm_u3 36 rfl rfl, mm_u1 1 rfl rfl, by decide +kernel, by decide +kernel, by decide, by decide +kernel⟩
theorem im_X9_end : Cond.instanceMethod q_X9_end.1 ∈ mm_tb := mm_u3 34 rfl rfl
theorem se_X9_end : Cond.selects q_X9_end.1.cls q_X9_end.1 q_X9_end.1 ∈ mm_tb := mm_u3 35 rfl rfl
def q_X9_row : mmM := (yX9_row, cX9_row, 3, (some .int))
theorem mf_X9_row : mm_mf q_X9_row 0 := ⟨mm_u3 40 rfl rfl, mm_u1 1 rfl rfl, by decide +kernel, by decide +kernel, by decide, by decide +kernel⟩
theorem im_X9_row : Cond.instanceMethod q_X9_row.1 ∈ mm_tb := mm_u3 38 rfl rfl
theorem se_X9_row : Cond.selects q_X9_row.1.cls q_X9_row.1 q_X9_row.1 ∈ mm_tb := mm_u3 39 rfl rfl
def q_X9_blots : mmM := (yX9_blots, cX9_blots, 1, (some .int))
theorem mf_X9_blots : mm_mf q_X9_blots 0 := ⟨mm_u3 48 rfl rfl, mm_u1 1 rfl rfl, by decide +kernel, by decide +kernel, by decide, by decide +kernel⟩
theorem im_X9_blots : Cond.instanceMethod q_X9_blots.1 ∈ mm_tb := mm_u3 46 rfl rfl
theorem se_X9_blots : Cond.selects q_X9_blots.1.cls q_X9_blots.1 q_X9_blots.1 ∈ mm_tb := mm_u3 47 rfl rfl
def q_X9_law : mmM := (yX9_law, cX9_law, 2, (some .int))
theorem mf_X9_law : mm_mf q_X9_law 0 := ⟨mm_u3 52 rfl rfl, mm_u1 1 rfl rfl, by decide +kernel, by decide +kernel, by decide, by decide +kernel⟩
theorem im_X9_law : Cond.instanceMethod q_X9_law.1 ∈ mm_tb := mm_u3 50 rfl rfl
theorem se_X9_law : Cond.selects q_X9_law.1.cls q_X9_law.1 q_X9_law.1 ∈ mm_tb := mm_u3 51 rfl rfl
def q_X9_orders : mmM := (yX9_orders, cX9_orders, 5, (some .int))
theorem mf_X9_orders : mm_mf q_X9_orders 0 := ⟨mm_u3 216 rfl rfl, mm_u1 1 rfl rfl, by decide +kernel, by decide +kernel, by decide, by decide +kernel⟩
theorem im_X9_orders : Cond.instanceMethod q_X9_orders.1 ∈ mm_tb := mm_u3 214 rfl rfl
theorem se_X9_orders : Cond.selects q_X9_orders.1.cls q_X9_orders.1 q_X9_orders.1 ∈ mm_tb := mm_u3 215 rfl rfl
def q_X9_fault : mmM := (yX9_fault, cX9_fault, 1, (some .int))
theorem mf_X9_fault : mm_mf q_X9_fault 0 := ⟨mm_u4 37 rfl rfl, mm_u1 1 rfl rfl, by decide +kernel, by decide +kernel, by decide, by decide +kernel⟩
theorem im_X9_fault : Cond.instanceMethod q_X9_fault.1 ∈ mm_tb := mm_u4 35 rfl rfl
theorem se_X9_fault : Cond.selects q_X9_fault.1.cls q_X9_fault.1 q_X9_fault.1 ∈ mm_tb := mm_u4 36 rfl rfl
def q_X9_stopped : mmM := (yX9_stopped, cX9_stopped, 1, (some .int))
theorem mf_X9_stopped : mm_mf q_X9_stopped 0 := ⟨mm_u4 41 rfl rfl, mm_u1 1 rfl rfl, by decide +kernel, by decide +kernel, by decide, by decide +kernel⟩
theorem im_X9_stopped : Cond.instanceMethod q_X9_stopped.1 ∈ mm_tb := mm_u4 39 rfl rfl
theorem se_X9_stopped : Cond.selects q_X9_stopped.1.cls q_X9_stopped.1 q_X9_stopped.1 ∈ mm_tb := mm_u4 40 rfl rfl
def q_X9_force : mmM := (yX9_force, cX9_force, 3, (some .int))
theorem mf_X9_force : mm_mf q_X9_force 1 := ⟨mm_u4 45 rfl rfl, mm_u1 1 rfl rfl, by decide +kernel, by decide +kernel, by decide, by decide +kernel⟩
theorem im_X9_force : Cond.instanceMethod q_X9_force.1 ∈ mm_tb := mm_u4 43 rfl rfl
theorem se_X9_force : Cond.selects q_X9_force.1.cls q_X9_force.1 q_X9_force.1 ∈ mm_tb := mm_u4 44 rfl rfl
def q_X9_read : mmM := (yX9_read, cX9_read, 3, (some .int))
theorem mf_X9_read : mm_mf q_X9_read 2 := ⟨mm_u4 50 rfl rfl, mm_u1 1 rfl rfl, by decide +kernel, by decide +kernel, by decide, by decide +kernel⟩
theorem im_X9_read : Cond.instanceMethod q_X9_read.1 ∈ mm_tb := mm_u4 48 rfl rfl
theorem se_X9_read : Cond.selects q_X9_read.1.cls q_X9_read.1 q_X9_read.1 ∈ mm_tb := mm_u4 49 rfl rfl
def q_X9_answer : mmM := (yX9_answer, cX9_answer, 3, (some .int))
theorem mf_X9_answer : mm_mf q_X9_answer 2 := ⟨mm_u4 58 rfl rfl, mm_u1 1 rfl rfl, by decide +kernel, by decide +kernel, by decide, by decide +kernel⟩
theorem im_X9_answer : Cond.instanceMethod q_X9_answer.1 ∈ mm_tb := mm_u4 56 rfl rfl
theorem se_X9_answer : Cond.selects q_X9_answer.1.cls q_X9_answer.1 q_X9_answer.1 ∈ mm_tb := mm_u4 57 rfl rfl
def q_X9_lose : mmM := (yX9_lose, cX9_lose, 3, (some .int))
theorem mf_X9_lose : mm_mf q_X9_lose 2 := ⟨mm_u4 62 rfl rfl, mm_u1 1 rfl rfl, by decide +kernel, by decide +kernel, by decide, by decide +kernel⟩
theorem im_X9_lose : Cond.instanceMethod q_X9_lose.1 ∈ mm_tb := mm_u4 60 rfl rfl
theorem se_X9_lose : Cond.selects q_X9_lose.1.cls q_X9_lose.1 q_X9_lose.1 ∈ mm_tb := mm_u4 61 rfl rfl
def q_X9_pass : mmM := (yX9_pass, cX9_pass, 1, (some .int))
theorem mf_X9_pass : mm_mf q_X9_pass 0 := ⟨mm_u4 66 rfl rfl, mm_u1 1 rfl rfl, by decide +kernel, by decide +kernel, by decide, by decide +kernel⟩
theorem im_X9_pass : Cond.instanceMethod q_X9_pass.1 ∈ mm_tb := mm_u4 64 rfl rfl
theorem se_X9_pass : Cond.selects q_X9_pass.1.cls q_X9_pass.1 q_X9_pass.1 ∈ mm_tb := mm_u4 65 rfl rfl
def q_X9_undo : mmM := (yX9_undo, cX9_undo, 2, (some .int))
theorem mf_X9_undo : mm_mf q_X9_undo 0 := ⟨mm_u4 70 rfl rfl, mm_u1 1 rfl rfl, by decide +kernel, by decide +kernel, by decide, by decide +kernel⟩
theorem im_X9_undo : Cond.instanceMethod q_X9_undo.1 ∈ mm_tb := mm_u4 68 rfl rfl
theorem se_X9_undo : Cond.selects q_X9_undo.1.cls q_X9_undo.1 q_X9_undo.1 ∈ mm_tb := mm_u4 69 rfl rfl
def q_X9_lesson : mmM := (yX9_lesson, cX9_lesson, 5, (some .int))
theorem mf_X9_lesson : mm_mf q_X9_lesson 3 := ⟨mm_u4 78 rfl rfl, mm_u1 1 rfl rfl, by decide +kernel, by decide +kernel, by decide, by decide +kernel⟩
theorem im_X9_lesson : Cond.instanceMethod q_X9_lesson.1 ∈ mm_tb := mm_u4 76 rfl rfl
theorem se_X9_lesson : Cond.selects q_X9_lesson.1.cls q_X9_lesson.1 q_X9_lesson.1 ∈ mm_tb := mm_u4 77 rfl rfl
def q_X9_told : mmM := (yX9_told, cX9_told, 3, (some .int))
theorem mf_X9_told : mm_mf q_X9_told 2 := ⟨mm_u4 95 rfl rfl, mm_u1 1 rfl rfl, by decide +kernel, by decide +kernel, by decide, by decide +kernel⟩
theorem im_X9_told : Cond.instanceMethod q_X9_told.1 ∈ mm_tb := mm_u4 93 rfl rfl
theorem se_X9_told : Cond.selects q_X9_told.1.cls q_X9_told.1 q_X9_told.1 ∈ mm_tb := mm_u4 94 rfl rfl
def q_X9_forget : mmM := (yX9_forget, cX9_forget, 2, (some .int))
theorem mf_X9_forget : mm_mf q_X9_forget 0 := ⟨mm_u4 103 rfl rfl, mm_u1 1 rfl rfl, by decide +kernel, by decide +kernel, by decide, by decide +kernel⟩
theorem im_X9_forget : Cond.instanceMethod q_X9_forget.1 ∈ mm_tb := mm_u4 101 rfl rfl
theorem se_X9_forget : Cond.selects q_X9_forget.1.cls q_X9_forget.1 q_X9_forget.1 ∈ mm_tb := mm_u4 102 rfl rfl
def q_X9_heard : mmM := (yX9_heard, cX9_heard, 4, (some .int))
theorem mf_X9_heard : mm_mf q_X9_heard 2 := ⟨mm_u4 107 rfl rfl, mm_u1 1 rfl rfl, by decide +kernel, by decide +kernel, by decide, by decide +kernel⟩
theorem im_X9_heard : Cond.instanceMethod q_X9_heard.1 ∈ mm_tb := mm_u4 105 rfl rfl
theorem se_X9_heard : Cond.selects q_X9_heard.1.cls q_X9_heard.1 q_X9_heard.1 ∈ mm_tb := mm_u4 106 rfl rfl
def q_X9_ask : mmM := (yX9_ask, cX9_ask, 8, (some .int))
theorem mf_X9_ask : mm_mf q_X9_ask 2 := ⟨mm_u4 119 rfl rfl, mm_u1 1 rfl rfl, by decide +kernel, by decide +kernel, by decide, by decide +kernel⟩
theorem im_X9_ask : Cond.instanceMethod q_X9_ask.1 ∈ mm_tb := mm_u4 117 rfl rfl
theorem se_X9_ask : Cond.selects q_X9_ask.1.cls q_X9_ask.1 q_X9_ask.1 ∈ mm_tb := mm_u4 118 rfl rfl
def q_X9_matched : mmM := (yX9_matched, cX9_matched, 3, (some .int))
theorem mf_X9_matched : mm_mf q_X9_matched 1 := ⟨mm_u4 128 rfl rfl, mm_u1 1 rfl rfl, by decide +kernel, by decide +kernel, by decide, by decide +kernel⟩
theorem im_X9_matched : Cond.instanceMethod q_X9_matched.1 ∈ mm_tb := mm_u4 126 rfl rfl
theorem se_X9_matched : Cond.selects q_X9_matched.1.cls q_X9_matched.1 q_X9_matched.1 ∈ mm_tb := mm_u4 127 rfl rfl
def q_X9_together : mmM := (yX9_together, cX9_together, 4, (some .int))
theorem mf_X9_together : mm_mf q_X9_together 2 := ⟨mm_u4 152 rfl rfl, mm_u1 1 rfl rfl, by decide +kernel, by decide +kernel, by decide, by decide +kernel⟩
theorem im_X9_together : Cond.instanceMethod q_X9_together.1 ∈ mm_tb := mm_u4 150 rfl rfl
theorem se_X9_together : Cond.selects q_X9_together.1.cls q_X9_together.1 q_X9_together.1 ∈ mm_tb := mm_u4 151 rfl rfl
def q_X9_clashes : mmM := (yX9_clashes, cX9_clashes, 6, (some .int))
theorem mf_X9_clashes : mm_mf q_X9_clashes 1 := ⟨mm_u4 164 rfl rfl, mm_u1 1 rfl rfl, by decide +kernel, by decide +kernel, by decide, by decide +kernel⟩
theorem im_X9_clashes : Cond.instanceMethod q_X9_clashes.1 ∈ mm_tb := mm_u4 162 rfl rfl
theorem se_X9_clashes : Cond.selects q_X9_clashes.1.cls q_X9_clashes.1 q_X9_clashes.1 ∈ mm_tb := mm_u4 163 rfl rfl
def q_X9_later : mmM := (yX9_later, cX9_later, 5, (some .int))
theorem mf_X9_later : mm_mf q_X9_later 2 := ⟨mm_u4 172 rfl rfl, mm_u1 1 rfl rfl, by decide +kernel, by decide +kernel, by decide, by decide +kernel⟩
theorem im_X9_later : Cond.instanceMethod q_X9_later.1 ∈ mm_tb := mm_u4 170 rfl rfl
theorem se_X9_later : Cond.selects q_X9_later.1.cls q_X9_later.1 q_X9_later.1 ∈ mm_tb := mm_u4 171 rfl rfl
def q_X9_likest : mmM := (yX9_likest, cX9_likest, 7, (some .int))
theorem mf_X9_likest : mm_mf q_X9_likest 2 := ⟨mm_u4 177 rfl rfl, mm_u1 1 rfl rfl, by decide +kernel, by decide +kernel, by decide, by decide +kernel⟩
theorem im_X9_likest : Cond.instanceMethod q_X9_likest.1 ∈ mm_tb := mm_u4 175 rfl rfl
theorem se_X9_likest : Cond.selects q_X9_likest.1.cls q_X9_likest.1 q_X9_likest.1 ∈ mm_tb := mm_u4 176 rfl rfl
def q_X9_lost : mmM := (yX9_lost, cX9_lost, 4, (some .int))
theorem mf_X9_lost : mm_mf q_X9_lost 0 := ⟨mm_u4 181 rfl rfl, mm_u1 1 rfl rfl, by decide +kernel, by decide +kernel, by decide, by decide +kernel⟩
theorem im_X9_lost : Cond.instanceMethod q_X9_lost.1 ∈ mm_tb := mm_u4 179 rfl rfl
theorem se_X9_lost : Cond.selects q_X9_lost.1.cls q_X9_lost.1 q_X9_lost.1 ∈ mm_tb := mm_u4 180 rfl rfl
def q_X9_few : mmM := (yX9_few, cX9_few, 3, (some .long))
theorem mf_X9_few : mm_mf q_X9_few 2 := ⟨mm_u4 186 rfl rfl, mm_u1 1 rfl rfl, by decide +kernel, by decide +kernel, by decide, by decide +kernel⟩
theorem im_X9_few : Cond.instanceMethod q_X9_few.1 ∈ mm_tb := mm_u4 184 rfl rfl
theorem se_X9_few : Cond.selects q_X9_few.1.cls q_X9_few.1 q_X9_few.1 ∈ mm_tb := mm_u4 185 rfl rfl
def q_X9_compare : mmM := (yX9_compare, cX9_compare, 6, (some .int))
theorem mf_X9_compare : mm_mf q_X9_compare 1 := ⟨mm_u4 200 rfl rfl, mm_u1 1 rfl rfl, by decide +kernel, by decide +kernel, by decide, by decide +kernel⟩
theorem im_X9_compare : Cond.instanceMethod q_X9_compare.1 ∈ mm_tb := mm_u4 198 rfl rfl
theorem se_X9_compare : Cond.selects q_X9_compare.1.cls q_X9_compare.1 q_X9_compare.1 ∈ mm_tb := mm_u4 199 rfl rfl
def q_X9_schools : mmM := (yX9_schools, cX9_schools, 3, (some .int))
theorem mf_X9_schools : mm_mf q_X9_schools 2 := ⟨mm_u4 204 rfl rfl, mm_u1 1 rfl rfl, by decide +kernel, by decide +kernel, by decide, by decide +kernel⟩
theorem im_X9_schools : Cond.instanceMethod q_X9_schools.1 ∈ mm_tb := mm_u4 202 rfl rfl
theorem se_X9_schools : Cond.selects q_X9_schools.1.cls q_X9_schools.1 q_X9_schools.1 ∈ mm_tb := mm_u4 203 rfl rfl
def q_X9_drawn : mmM := (yX9_drawn, cX9_drawn, 3, (some .int))
theorem mf_X9_drawn : mm_mf q_X9_drawn 2 := ⟨mm_u4 223 rfl rfl, mm_u1 1 rfl rfl, by decide +kernel, by decide +kernel, by decide, by decide +kernel⟩
theorem im_X9_drawn : Cond.instanceMethod q_X9_drawn.1 ∈ mm_tb := mm_u4 221 rfl rfl
theorem se_X9_drawn : Cond.selects q_X9_drawn.1.cls q_X9_drawn.1 q_X9_drawn.1 ∈ mm_tb := mm_u4 222 rfl rfl
def q_X9_image : mmM := (yX9_image, cX9_image, 2, (some .int))
theorem mf_X9_image : mm_mf q_X9_image 1 := ⟨mm_u4 227 rfl rfl, mm_u1 1 rfl rfl, by decide +kernel, by decide +kernel, by decide, by decide +kernel⟩
theorem im_X9_image : Cond.instanceMethod q_X9_image.1 ∈ mm_tb := mm_u4 225 rfl rfl
theorem se_X9_image : Cond.selects q_X9_image.1.cls q_X9_image.1 q_X9_image.1 ∈ mm_tb := mm_u4 226 rfl rfl
def q_X9_back : mmM := (yX9_back, cX9_back, 2, (some .int))
theorem mf_X9_back : mm_mf q_X9_back 1 := ⟨mm_u4 231 rfl rfl, mm_u1 1 rfl rfl, by decide +kernel, by decide +kernel, by decide, by decide +kernel⟩
theorem im_X9_back : Cond.instanceMethod q_X9_back.1 ∈ mm_tb := mm_u4 229 rfl rfl
theorem se_X9_back : Cond.selects q_X9_back.1.cls q_X9_back.1 q_X9_back.1 ∈ mm_tb := mm_u4 230 rfl rfl
def q_X9_count : mmM := (yX9_count, cX9_count, 2, (some .int))
theorem mf_X9_count : mm_mf q_X9_count 1 := ⟨mm_u4 235 rfl rfl, mm_u1 1 rfl rfl, by decide +kernel, by decide +kernel, by decide, by decide +kernel⟩
theorem im_X9_count : Cond.instanceMethod q_X9_count.1 ∈ mm_tb := mm_u4 233 rfl rfl
theorem se_X9_count : Cond.selects q_X9_count.1.cls q_X9_count.1 q_X9_count.1 ∈ mm_tb := mm_u4 234 rfl rfl
def q_X9_status : mmM := (yX9_status, cX9_status, 1, (some .int))
theorem mf_X9_status : mm_mf q_X9_status 0 := ⟨mm_u5 0 rfl rfl, mm_u1 1 rfl rfl, by decide +kernel, by decide +kernel, by decide, by decide +kernel⟩
theorem im_X9_status : Cond.instanceMethod q_X9_status.1 ∈ mm_tb := mm_u4 238 rfl rfl
theorem se_X9_status : Cond.selects q_X9_status.1.cls q_X9_status.1 q_X9_status.1 ∈ mm_tb := mm_u4 239 rfl rfl
def q_X9_accept : mmM := (yX9_accept, cX9_accept, 2, (some .int))
theorem mf_X9_accept : mm_mf q_X9_accept 1 := ⟨mm_u2 168 rfl rfl, mm_u1 1 rfl rfl, by decide +kernel, by decide +kernel, by decide, by decide +kernel⟩
theorem im_X9_accept : Cond.instanceMethod q_X9_accept.1 ∈ mm_tb := mm_u2 167 rfl rfl
theorem se_X9_accept : Cond.selects q_X9_accept.1.cls q_X9_accept.1 q_X9_accept.1 ∈ mm_tb := mm_tb_of (List.mem_append_left _ (List.mem_of_getElem? (i := 3) rfl)) rfl
def q_X9_refuse : mmM := (yX9_refuse, cX9_refuse, 3, (some .int))
theorem mf_X9_refuse : mm_mf q_X9_refuse 1 := ⟨mm_u2 156 rfl rfl, mm_u1 1 rfl rfl, by decide +kernel, by decide +kernel, by decide, by decide +kernel⟩
theorem im_X9_refuse : Cond.instanceMethod q_X9_refuse.1 ∈ mm_tb := mm_u2 155 rfl rfl
theorem se_X9_refuse : Cond.selects q_X9_refuse.1.cls q_X9_refuse.1 q_X9_refuse.1 ∈ mm_tb := mm_tb_of (List.mem_append_left _ (List.mem_of_getElem? (i := 0) rfl)) rfl
def q_X9_settle : mmM := (yX9_settle, cX9_settle, 2, (some .int))
theorem mf_X9_settle : mm_mf q_X9_settle 1 := ⟨mm_u4 54 rfl rfl, mm_u1 1 rfl rfl, by decide +kernel, by decide +kernel, by decide, by decide +kernel⟩
theorem im_X9_settle : Cond.instanceMethod q_X9_settle.1 ∈ mm_tb := mm_u4 53 rfl rfl
theorem se_X9_settle : Cond.selects q_X9_settle.1.cls q_X9_settle.1 q_X9_settle.1 ∈ mm_tb := mm_tb_of (List.mem_append_left _ (List.mem_of_getElem? (i := 52) rfl)) rfl
def q_X9_highestTerm : mmM := (yX9_highestTerm, cX9_highestTerm, 1, (some .int))
theorem mf_X9_highestTerm : mm_mf q_X9_highestTerm 1 := ⟨mm_u3 20 rfl rfl, mm_u1 1 rfl rfl, by decide +kernel, by decide +kernel, by decide, by decide +kernel⟩
theorem st_X9_highestTerm : Cond.static q_X9_highestTerm.1 ∈ mm_tb := mm_u3 19 rfl rfl
def q_X9_takeLetter : mmM := (yX9_takeLetter, cX9_takeLetter, 5, (some .boolean))
theorem mf_X9_takeLetter : mm_mf q_X9_takeLetter 1 := ⟨mm_u3 44 rfl rfl, mm_u1 1 rfl rfl, by decide +kernel, by decide +kernel, by decide, by decide +kernel⟩
theorem im_X9_takeLetter : Cond.instanceMethod q_X9_takeLetter.1 ∈ mm_tb := mm_u3 43 rfl rfl
theorem se_X9_takeLetter : Cond.selects q_X9_takeLetter.1.cls q_X9_takeLetter.1 q_X9_takeLetter.1 ∈ mm_tb := mm_tb_of (List.mem_append_left _ (List.mem_of_getElem? (i := 18) rfl)) rfl
def q_X9_runOnce : mmM := (yX9_runOnce, cX9_runOnce, 7, (some .boolean))
theorem mf_X9_runOnce : mm_mf q_X9_runOnce 2 := ⟨mm_u3 230 rfl rfl, mm_u1 1 rfl rfl, by decide +kernel, by decide +kernel, by decide, by decide +kernel⟩
theorem im_X9_runOnce : Cond.instanceMethod q_X9_runOnce.1 ∈ mm_tb := mm_u3 229 rfl rfl
theorem se_X9_runOnce : Cond.selects q_X9_runOnce.1.cls q_X9_runOnce.1 q_X9_runOnce.1 ∈ mm_tb := mm_tb_of (List.mem_append_left _ (List.mem_of_getElem? (i := 43) rfl)) rfl
def q_X9_act : mmM := (yX9_act, cX9_act, 5, (some .int))
theorem mf_X9_act : mm_mf q_X9_act 3 := ⟨mm_u4 6 rfl rfl, mm_u1 1 rfl rfl, by decide +kernel, by decide +kernel, by decide, by decide +kernel⟩
theorem im_X9_act : Cond.instanceMethod q_X9_act.1 ∈ mm_tb := mm_u4 5 rfl rfl
theorem se_X9_act : Cond.selects q_X9_act.1.cls q_X9_act.1 q_X9_act.1 ∈ mm_tb := mm_tb_of (List.mem_append_left _ (List.mem_of_getElem? (i := 46) rfl)) rfl
def q_X10_init : mmM := (yX10_init, cX10_init, 1, none)
theorem mf_X10_init : mm_mf q_X10_init 0 := ⟨mm_u5 5 rfl rfl, mm_u1 11 rfl rfl, by decide +kernel, by decide +kernel, by decide, by decide +kernel⟩
theorem im_X10_init : Cond.instanceMethod q_X10_init.1 ∈ mm_tb := mm_u5 4 rfl rfl
def q_X10_in : mmM := (yX10_in, cX10_in, 6, (some .boolean))
theorem mf_X10_in : mm_mf q_X10_in 3 := ⟨mm_u5 221 rfl rfl, mm_u1 11 rfl rfl, by decide +kernel, by decide +kernel, by decide, by decide +kernel⟩
theorem st_X10_in : Cond.static q_X10_in.1 ∈ mm_tb := mm_u5 220 rfl rfl
def q_X10_is : mmM := (yX10_is, cX10_is, 2, (some .boolean))
theorem mf_X10_is : mm_mf q_X10_is 2 := ⟨mm_u7 20 rfl rfl, mm_u1 11 rfl rfl, by decide +kernel, by decide +kernel, by decide, by decide +kernel⟩
theorem st_X10_is : Cond.static q_X10_is.1 ∈ mm_tb := mm_u7 19 rfl rfl
def q_X10_ones : mmM := (yX10_ones, cX10_ones, 3, (some .int))
theorem mf_X10_ones : mm_mf q_X10_ones 1 := ⟨mm_u6 35 rfl rfl, mm_u1 11 rfl rfl, by decide +kernel, by decide +kernel, by decide, by decide +kernel⟩
theorem st_X10_ones : Cond.static q_X10_ones.1 ∈ mm_tb := mm_u6 34 rfl rfl
def q_X10_within : mmM := (yX10_within, cX10_within, 4, (some .int))
theorem mf_X10_within : mm_mf q_X10_within 3 := ⟨mm_u6 65 rfl rfl, mm_u1 11 rfl rfl, by decide +kernel, by decide +kernel, by decide, by decide +kernel⟩
theorem st_X10_within : Cond.static q_X10_within.1 ∈ mm_tb := mm_u6 64 rfl rfl
def q_X10_tell : mmM := (yX10_tell, cX10_tell, 2, (some .int))
theorem mf_X10_tell : mm_mf q_X10_tell 1 := ⟨mm_u5 210 rfl rfl, mm_u1 11 rfl rfl, by decide +kernel, by decide +kernel, by decide, by decide +kernel⟩
theorem im_X10_tell : Cond.instanceMethod q_X10_tell.1 ∈ mm_tb := mm_u5 209 rfl rfl
theorem se_X10_tell : Cond.selects q_X10_tell.1.cls q_X10_tell.1 q_X10_tell.1 ∈ mm_tb := mm_tb_of (List.mem_append_left _ (List.mem_of_getElem? (i := 70) rfl)) rfl
def q_X10_change : mmM := (yX10_change, cX10_change, 4, (some .int))
theorem mf_X10_change : mm_mf q_X10_change 2 := ⟨mm_u6 82 rfl rfl, mm_u1 11 rfl rfl, by decide +kernel, by decide +kernel, by decide, by decide +kernel⟩
theorem im_X10_change : Cond.instanceMethod q_X10_change.1 ∈ mm_tb := mm_u6 81 rfl rfl
theorem se_X10_change : Cond.selects q_X10_change.1.cls q_X10_change.1 q_X10_change.1 ∈ mm_tb := mm_tb_of (List.mem_append_left _ (List.mem_of_getElem? (i := 85) rfl)) rfl
def q_X10_settled : mmM := (yX10_settled, cX10_settled, 2, (some .int))
theorem mf_X10_settled : mm_mf q_X10_settled 1 := ⟨mm_u5 229 rfl rfl, mm_u1 11 rfl rfl, by decide +kernel, by decide +kernel, by decide, by decide +kernel⟩
theorem im_X10_settled : Cond.instanceMethod q_X10_settled.1 ∈ mm_tb := mm_u5 228 rfl rfl
theorem se_X10_settled : Cond.selects q_X10_settled.1.cls q_X10_settled.1 q_X10_settled.1 ∈ mm_tb := mm_tb_of (List.mem_append_left _ (List.mem_of_getElem? (i := 72) rfl)) rfl
def q_X10_keepAll : mmM := (yX10_keepAll, cX10_keepAll, 3, none)
theorem mf_X10_keepAll : mm_mf q_X10_keepAll 1 := ⟨mm_u7 9 rfl rfl, mm_u1 11 rfl rfl, by decide +kernel, by decide +kernel, by decide, by decide +kernel⟩
theorem im_X10_keepAll : Cond.instanceMethod q_X10_keepAll.1 ∈ mm_tb := mm_u7 8 rfl rfl
theorem se_X10_keepAll : Cond.selects q_X10_keepAll.1.cls q_X10_keepAll.1 q_X10_keepAll.1 ∈ mm_tb := mm_tb_of (List.mem_append_left _ (List.mem_of_getElem? (i := 113) rfl)) rfl
def q_X10_putBack : mmM := (yX10_putBack, cX10_putBack, 3, none)
theorem mf_X10_putBack : mm_mf q_X10_putBack 1 := ⟨mm_u5 214 rfl rfl, mm_u1 11 rfl rfl, by decide +kernel, by decide +kernel, by decide, by decide +kernel⟩
theorem im_X10_putBack : Cond.instanceMethod q_X10_putBack.1 ∈ mm_tb := mm_u5 213 rfl rfl
theorem se_X10_putBack : Cond.selects q_X10_putBack.1.cls q_X10_putBack.1 q_X10_putBack.1 ∈ mm_tb := mm_tb_of (List.mem_append_left _ (List.mem_of_getElem? (i := 71) rfl)) rfl
def q_X10_remember : mmM := (yX10_remember, cX10_remember, 3, none)
theorem mf_X10_remember : mm_mf q_X10_remember 1 := ⟨mm_u7 5 rfl rfl, mm_u1 11 rfl rfl, by decide +kernel, by decide +kernel, by decide, by decide +kernel⟩
theorem im_X10_remember : Cond.instanceMethod q_X10_remember.1 ∈ mm_tb := mm_u7 4 rfl rfl
theorem se_X10_remember : Cond.selects q_X10_remember.1.cls q_X10_remember.1 q_X10_remember.1 ∈ mm_tb := mm_tb_of (List.mem_append_left _ (List.mem_of_getElem? (i := 112) rfl)) rfl
def q_X10_undo : mmM := (yX10_undo, cX10_undo, 1, (some .int))
theorem mf_X10_undo : mm_mf q_X10_undo 0 := ⟨mm_u5 206 rfl rfl, mm_u1 11 rfl rfl, by decide +kernel, by decide +kernel, by decide, by decide +kernel⟩
theorem im_X10_undo : Cond.instanceMethod q_X10_undo.1 ∈ mm_tb := mm_u5 204 rfl rfl
theorem se_X10_undo : Cond.selects q_X10_undo.1.cls q_X10_undo.1 q_X10_undo.1 ∈ mm_tb := mm_u5 205 rfl rfl
def q_X10_image : mmM := (yX10_image, cX10_image, 3, (some .int))
theorem mf_X10_image : mm_mf q_X10_image 1 := ⟨mm_u5 218 rfl rfl, mm_u1 11 rfl rfl, by decide +kernel, by decide +kernel, by decide, by decide +kernel⟩
theorem im_X10_image : Cond.instanceMethod q_X10_image.1 ∈ mm_tb := mm_u5 216 rfl rfl
theorem se_X10_image : Cond.selects q_X10_image.1.cls q_X10_image.1 q_X10_image.1 ∈ mm_tb := mm_u5 217 rfl rfl
def q_X10_back : mmM := (yX10_back, cX10_back, 3, (some .int))
theorem mf_X10_back : mm_mf q_X10_back 1 := ⟨mm_u5 225 rfl rfl, mm_u1 11 rfl rfl, by decide +kernel, by decide +kernel, by decide, by decide +kernel⟩
theorem im_X10_back : Cond.instanceMethod q_X10_back.1 ∈ mm_tb := mm_u5 223 rfl rfl
theorem se_X10_back : Cond.selects q_X10_back.1.cls q_X10_back.1 q_X10_back.1 ∈ mm_tb := mm_u5 224 rfl rfl
def q_X10_isLetter1 : mmM := (yX10_isLetter1, cX10_isLetter1, 2, (some .boolean))
theorem mf_X10_isLetter1 : mm_mf q_X10_isLetter1 1 := ⟨mm_u6 10 rfl rfl, mm_u1 11 rfl rfl, by decide +kernel, by decide +kernel, by decide, by decide +kernel⟩
theorem im_X10_isLetter1 : Cond.instanceMethod q_X10_isLetter1.1 ∈ mm_tb := mm_u6 9 rfl rfl
theorem se_X10_isLetter1 : Cond.selects q_X10_isLetter1.1.cls q_X10_isLetter1.1 q_X10_isLetter1.1 ∈ mm_tb := mm_tb_of (List.mem_append_left _ (List.mem_of_getElem? (i := 74) rfl)) rfl
def q_X10_isChild : mmM := (yX10_isChild, cX10_isChild, 2, (some .boolean))
theorem mf_X10_isChild : mm_mf q_X10_isChild 1 := ⟨mm_u6 23 rfl rfl, mm_u1 11 rfl rfl, by decide +kernel, by decide +kernel, by decide, by decide +kernel⟩
theorem im_X10_isChild : Cond.instanceMethod q_X10_isChild.1 ∈ mm_tb := mm_u6 22 rfl rfl
theorem se_X10_isChild : Cond.selects q_X10_isChild.1.cls q_X10_isChild.1 q_X10_isChild.1 ∈ mm_tb := mm_tb_of (List.mem_append_left _ (List.mem_of_getElem? (i := 75) rfl)) rfl
def q_X10_isTrait : mmM := (yX10_isTrait, cX10_isTrait, 1, (some .boolean))
theorem mf_X10_isTrait : mm_mf q_X10_isTrait 1 := ⟨mm_u7 43 rfl rfl, mm_u1 11 rfl rfl, by decide +kernel, by decide +kernel, by decide, by decide +kernel⟩
theorem st_X10_isTrait : Cond.static q_X10_isTrait.1 ∈ mm_tb := mm_u7 42 rfl rfl
def q_X10_isSet : mmM := (yX10_isSet, cX10_isSet, 1, (some .boolean))
theorem mf_X10_isSet : mm_mf q_X10_isSet 1 := ⟨mm_u6 0 rfl rfl, mm_u1 11 rfl rfl, by decide +kernel, by decide +kernel, by decide, by decide +kernel⟩
theorem st_X10_isSet : Cond.static q_X10_isSet.1 ∈ mm_tb := mm_u5 239 rfl rfl
def q_X10_servedBy : mmM := (yX10_servedBy, cX10_servedBy, 3, (some .int))
theorem mf_X10_servedBy : mm_mf q_X10_servedBy 2 := ⟨mm_u6 40 rfl rfl, mm_u1 11 rfl rfl, by decide +kernel, by decide +kernel, by decide, by decide +kernel⟩
theorem im_X10_servedBy : Cond.instanceMethod q_X10_servedBy.1 ∈ mm_tb := mm_u6 39 rfl rfl
theorem se_X10_servedBy : Cond.selects q_X10_servedBy.1.cls q_X10_servedBy.1 q_X10_servedBy.1 ∈ mm_tb := mm_tb_of (List.mem_append_left _ (List.mem_of_getElem? (i := 78) rfl)) rfl
def q_X10_openOnes : mmM := (yX10_openOnes, cX10_openOnes, 3, (some .int))
theorem mf_X10_openOnes : mm_mf q_X10_openOnes 0 := ⟨mm_u7 169 rfl rfl, mm_u1 11 rfl rfl, by decide +kernel, by decide +kernel, by decide, by decide +kernel⟩
theorem im_X10_openOnes : Cond.instanceMethod q_X10_openOnes.1 ∈ mm_tb := mm_u7 168 rfl rfl
theorem se_X10_openOnes : Cond.selects q_X10_openOnes.1.cls q_X10_openOnes.1 q_X10_openOnes.1 ∈ mm_tb := mm_tb_of (List.mem_append_left _ (List.mem_of_getElem? (i := 133) rfl)) rfl
def q_X10_come : mmM := (yX10_come, cX10_come, 5, (some .int))
theorem mf_X10_come : mm_mf q_X10_come 3 := ⟨mm_u5 237 rfl rfl, mm_u1 11 rfl rfl, by decide +kernel, by decide +kernel, by decide, by decide +kernel⟩
theorem im_X10_come : Cond.instanceMethod q_X10_come.1 ∈ mm_tb := mm_u5 236 rfl rfl
theorem se_X10_come : Cond.selects q_X10_come.1.cls q_X10_come.1 q_X10_come.1 ∈ mm_tb := mm_tb_of (List.mem_append_left _ (List.mem_of_getElem? (i := 73) rfl)) rfl
def q_X10_letter : mmM := (yX10_letter, cX10_letter, 4, (some .int))
theorem mf_X10_letter : mm_mf q_X10_letter 3 := ⟨mm_u5 233 rfl rfl, mm_u1 11 rfl rfl, by decide +kernel, by decide +kernel, by decide, by decide +kernel⟩
theorem im_X10_letter : Cond.instanceMethod q_X10_letter.1 ∈ mm_tb := mm_u5 231 rfl rfl
theorem se_X10_letter : Cond.selects q_X10_letter.1.cls q_X10_letter.1 q_X10_letter.1 ∈ mm_tb := mm_u5 232 rfl rfl
def q_X10_at : mmM := (yX10_at, cX10_at, 3, (some .int))
theorem mf_X10_at : mm_mf q_X10_at 2 := ⟨mm_u6 6 rfl rfl, mm_u1 11 rfl rfl, by decide +kernel, by decide +kernel, by decide, by decide +kernel⟩
theorem im_X10_at : Cond.instanceMethod q_X10_at.1 ∈ mm_tb := mm_u6 4 rfl rfl
theorem se_X10_at : Cond.selects q_X10_at.1.cls q_X10_at.1 q_X10_at.1 ∈ mm_tb := mm_u6 5 rfl rfl
def q_X10_child : mmM := (yX10_child, cX10_child, 3, (some .int))
theorem mf_X10_child : mm_mf q_X10_child 1 := ⟨mm_u6 14 rfl rfl, mm_u1 11 rfl rfl, by decide +kernel, by decide +kernel, by decide, by decide +kernel⟩
theorem im_X10_child : Cond.instanceMethod q_X10_child.1 ∈ mm_tb := mm_u6 12 rfl rfl
theorem se_X10_child : Cond.selects q_X10_child.1.cls q_X10_child.1 q_X10_child.1 ∈ mm_tb := mm_u6 13 rfl rfl
def q_X10_of : mmM := (yX10_of, cX10_of, 3, (some .int))
theorem mf_X10_of : mm_mf q_X10_of 2 := ⟨mm_u6 19 rfl rfl, mm_u1 11 rfl rfl, by decide +kernel, by decide +kernel, by decide, by decide +kernel⟩
theorem im_X10_of : Cond.instanceMethod q_X10_of.1 ∈ mm_tb := mm_u6 17 rfl rfl
theorem se_X10_of : Cond.selects q_X10_of.1.cls q_X10_of.1 q_X10_of.1 ∈ mm_tb := mm_u6 18 rfl rfl
def q_X10_asks : mmM := (yX10_asks, cX10_asks, 4, (some .int))
theorem mf_X10_asks : mm_mf q_X10_asks 3 := ⟨mm_u6 58 rfl rfl, mm_u1 11 rfl rfl, by decide +kernel, by decide +kernel, by decide, by decide +kernel⟩
theorem im_X10_asks : Cond.instanceMethod q_X10_asks.1 ∈ mm_tb := mm_u6 56 rfl rfl
theorem se_X10_asks : Cond.selects q_X10_asks.1.cls q_X10_asks.1 q_X10_asks.1 ∈ mm_tb := mm_u6 57 rfl rfl
def q_X10_terms : mmM := (yX10_terms, cX10_terms, 4, (some .int))
theorem mf_X10_terms : mm_mf q_X10_terms 2 := ⟨mm_u6 77 rfl rfl, mm_u1 11 rfl rfl, by decide +kernel, by decide +kernel, by decide, by decide +kernel⟩
theorem im_X10_terms : Cond.instanceMethod q_X10_terms.1 ∈ mm_tb := mm_u6 75 rfl rfl
theorem se_X10_terms : Cond.selects q_X10_terms.1.cls q_X10_terms.1 q_X10_terms.1 ∈ mm_tb := mm_u6 76 rfl rfl
def q_X10_row : mmM := (yX10_row, cX10_row, 4, (some .int))
theorem mf_X10_row : mm_mf q_X10_row 0 := ⟨mm_u6 86 rfl rfl, mm_u1 11 rfl rfl, by decide +kernel, by decide +kernel, by decide, by decide +kernel⟩
theorem im_X10_row : Cond.instanceMethod q_X10_row.1 ∈ mm_tb := mm_u6 84 rfl rfl
theorem se_X10_row : Cond.selects q_X10_row.1.cls q_X10_row.1 q_X10_row.1 ∈ mm_tb := mm_u6 85 rfl rfl
def q_X10_blots : mmM := (yX10_blots, cX10_blots, 1, (some .int))
theorem mf_X10_blots : mm_mf q_X10_blots 0 := ⟨mm_u6 90 rfl rfl, mm_u1 11 rfl rfl, by decide +kernel, by decide +kernel, by decide, by decide +kernel⟩
theorem im_X10_blots : Cond.instanceMethod q_X10_blots.1 ∈ mm_tb := mm_u6 88 rfl rfl
theorem se_X10_blots : Cond.selects q_X10_blots.1.cls q_X10_blots.1 q_X10_blots.1 ∈ mm_tb := mm_u6 89 rfl rfl
def q_X10_four : mmM := (yX10_four, cX10_four, 3, none)
theorem mf_X10_four : mm_mf q_X10_four 1 := ⟨mm_u6 98 rfl rfl, mm_u1 11 rfl rfl, by decide +kernel, by decide +kernel, by decide, by decide +kernel⟩
theorem im_X10_four : Cond.instanceMethod q_X10_four.1 ∈ mm_tb := mm_u6 97 rfl rfl
theorem se_X10_four : Cond.selects q_X10_four.1.cls q_X10_four.1 q_X10_four.1 ∈ mm_tb := mm_tb_of (List.mem_append_left _ (List.mem_of_getElem? (i := 86) rfl)) rfl
def q_X10_feed : mmM := (yX10_feed, cX10_feed, 6, (some .int))
theorem mf_X10_feed : mm_mf q_X10_feed 5 := ⟨mm_u6 94 rfl rfl, mm_u1 11 rfl rfl, by decide +kernel, by decide +kernel, by decide, by decide +kernel⟩
theorem im_X10_feed : Cond.instanceMethod q_X10_feed.1 ∈ mm_tb := mm_u6 92 rfl rfl
theorem se_X10_feed : Cond.selects q_X10_feed.1.cls q_X10_feed.1 q_X10_feed.1 ∈ mm_tb := mm_u6 93 rfl rfl
def q_X10_end : mmM := (yX10_end, cX10_end, 2, (some .int))
theorem mf_X10_end : mm_mf q_X10_end 1 := ⟨mm_u6 102 rfl rfl, mm_u1 11 rfl rfl, by decide +kernel, by decide +kernel, by decide, by decide +kernel⟩
theorem im_X10_end : Cond.instanceMethod q_X10_end.1 ∈ mm_tb := mm_u6 100 rfl rfl
theorem se_X10_end : Cond.selects q_X10_end.1.cls q_X10_end.1 q_X10_end.1 ∈ mm_tb := mm_u6 101 rfl rfl
def q_X10_isSmall : mmM := (yX10_isSmall, cX10_isSmall, 1, (some .boolean))
theorem mf_X10_isSmall : mm_mf q_X10_isSmall 1 := ⟨mm_u6 125 rfl rfl, mm_u1 11 rfl rfl, by decide +kernel, by decide +kernel, by decide, by decide +kernel⟩
theorem st_X10_isSmall : Cond.static q_X10_isSmall.1 ∈ mm_tb := mm_u6 124 rfl rfl
def q_X10_isDigit : mmM := (yX10_isDigit, cX10_isDigit, 1, (some .boolean))
theorem mf_X10_isDigit : mm_mf q_X10_isDigit 1 := ⟨mm_u6 128 rfl rfl, mm_u1 11 rfl rfl, by decide +kernel, by decide +kernel, by decide, by decide +kernel⟩
theorem st_X10_isDigit : Cond.static q_X10_isDigit.1 ∈ mm_tb := mm_u6 127 rfl rfl
def q_X10_begin : mmM := (yX10_begin, cX10_begin, 1, none)
theorem mf_X10_begin : mm_mf q_X10_begin 0 := ⟨mm_u6 118 rfl rfl, mm_u1 11 rfl rfl, by decide +kernel, by decide +kernel, by decide, by decide +kernel⟩
theorem im_X10_begin : Cond.instanceMethod q_X10_begin.1 ∈ mm_tb := mm_u6 117 rfl rfl
theorem se_X10_begin : Cond.selects q_X10_begin.1.cls q_X10_begin.1 q_X10_begin.1 ∈ mm_tb := mm_tb_of (List.mem_append_left _ (List.mem_of_getElem? (i := 88) rfl)) rfl
def q_X10_next : mmM := (yX10_next, cX10_next, 1, none)
theorem mf_X10_next : mm_mf q_X10_next 0 := ⟨mm_u6 122 rfl rfl, mm_u1 11 rfl rfl, by decide +kernel, by decide +kernel, by decide, by decide +kernel⟩
theorem im_X10_next : Cond.instanceMethod q_X10_next.1 ∈ mm_tb := mm_u6 121 rfl rfl
theorem se_X10_next : Cond.selects q_X10_next.1.cls q_X10_next.1 q_X10_next.1 ∈ mm_tb := mm_tb_of (List.mem_append_left _ (List.mem_of_getElem? (i := 89) rfl)) rfl
def q_X10_isWord : mmM := (yX10_isWord, cX10_isWord, 3, (some .boolean))
theorem mf_X10_isWord : mm_mf q_X10_isWord 1 := ⟨mm_u6 140 rfl rfl, mm_u1 11 rfl rfl, by decide +kernel, by decide +kernel, by decide, by decide +kernel⟩
theorem im_X10_isWord : Cond.instanceMethod q_X10_isWord.1 ∈ mm_tb := mm_u6 139 rfl rfl
theorem se_X10_isWord : Cond.selects q_X10_isWord.1.cls q_X10_isWord.1 q_X10_isWord.1 ∈ mm_tb := mm_tb_of (List.mem_append_left _ (List.mem_of_getElem? (i := 91) rfl)) rfl
def q_X10_isSign : mmM := (yX10_isSign, cX10_isSign, 2, (some .boolean))
theorem mf_X10_isSign : mm_mf q_X10_isSign 1 := ⟨mm_u6 161 rfl rfl, mm_u1 11 rfl rfl, by decide +kernel, by decide +kernel, by decide, by decide +kernel⟩
theorem im_X10_isSign : Cond.instanceMethod q_X10_isSign.1 ∈ mm_tb := mm_u6 160 rfl rfl
theorem se_X10_isSign : Cond.selects q_X10_isSign.1.cls q_X10_isSign.1 q_X10_isSign.1 ∈ mm_tb := mm_tb_of (List.mem_append_left _ (List.mem_of_getElem? (i := 96) rfl)) rfl
def q_X10_must : mmM := (yX10_must, cX10_must, 2, none)
theorem mf_X10_must : mm_mf q_X10_must 1 := ⟨mm_u6 144 rfl rfl, mm_u1 11 rfl rfl, by decide +kernel, by decide +kernel, by decide, by decide +kernel⟩
theorem im_X10_must : Cond.instanceMethod q_X10_must.1 ∈ mm_tb := mm_u6 143 rfl rfl
theorem se_X10_must : Cond.selects q_X10_must.1.cls q_X10_must.1 q_X10_must.1 ∈ mm_tb := mm_tb_of (List.mem_append_left _ (List.mem_of_getElem? (i := 92) rfl)) rfl
def q_X10_number : mmM := (yX10_number, cX10_number, 6, (some .int))
theorem mf_X10_number : mm_mf q_X10_number 2 := ⟨mm_u6 191 rfl rfl, mm_u1 11 rfl rfl, by decide +kernel, by decide +kernel, by decide, by decide +kernel⟩
theorem im_X10_number : Cond.instanceMethod q_X10_number.1 ∈ mm_tb := mm_u6 190 rfl rfl
theorem se_X10_number : Cond.selects q_X10_number.1.cls q_X10_number.1 q_X10_number.1 ∈ mm_tb := mm_tb_of (List.mem_append_left _ (List.mem_of_getElem? (i := 103) rfl)) rfl
def q_X10_fault : mmM := (yX10_fault, cX10_fault, 1, (some .int))
theorem mf_X10_fault : mm_mf q_X10_fault 0 := ⟨mm_u6 106 rfl rfl, mm_u1 11 rfl rfl, by decide +kernel, by decide +kernel, by decide, by decide +kernel⟩
theorem im_X10_fault : Cond.instanceMethod q_X10_fault.1 ∈ mm_tb := mm_u6 104 rfl rfl
theorem se_X10_fault : Cond.selects q_X10_fault.1.cls q_X10_fault.1 q_X10_fault.1 ∈ mm_tb := mm_u6 105 rfl rfl
def q_X10_emit : mmM := (yX10_emit, cX10_emit, 3, none)
theorem mf_X10_emit : mm_mf q_X10_emit 2 := ⟨mm_u6 186 rfl rfl, mm_u1 11 rfl rfl, by decide +kernel, by decide +kernel, by decide, by decide +kernel⟩
theorem im_X10_emit : Cond.instanceMethod q_X10_emit.1 ∈ mm_tb := mm_u6 185 rfl rfl
theorem se_X10_emit : Cond.selects q_X10_emit.1.cls q_X10_emit.1 q_X10_emit.1 ∈ mm_tb := mm_tb_of (List.mem_append_left _ (List.mem_of_getElem? (i := 102) rfl)) rfl
def q_X10_push : mmM := (yX10_push, cX10_push, 3, none)
theorem mf_X10_push : mm_mf q_X10_push 2 := ⟨mm_u6 157 rfl rfl, mm_u1 11 rfl rfl, by decide +kernel, by decide +kernel, by decide, by decide +kernel⟩
theorem im_X10_push : Cond.instanceMethod q_X10_push.1 ∈ mm_tb := mm_u6 156 rfl rfl
theorem se_X10_push : Cond.selects q_X10_push.1.cls q_X10_push.1 q_X10_push.1 ∈ mm_tb := mm_tb_of (List.mem_append_left _ (List.mem_of_getElem? (i := 95) rfl)) rfl
def q_X10_binds : mmM := (yX10_binds, cX10_binds, 1, (some .int))
theorem mf_X10_binds : mm_mf q_X10_binds 1 := ⟨mm_u6 198 rfl rfl, mm_u1 11 rfl rfl, by decide +kernel, by decide +kernel, by decide, by decide +kernel⟩
theorem st_X10_binds : Cond.static q_X10_binds.1 ∈ mm_tb := mm_u6 197 rfl rfl
def q_X10_settle : mmM := (yX10_settle, cX10_settle, 2, none)
theorem mf_X10_settle : mm_mf q_X10_settle 1 := ⟨mm_u6 202 rfl rfl, mm_u1 11 rfl rfl, by decide +kernel, by decide +kernel, by decide, by decide +kernel⟩
theorem im_X10_settle : Cond.instanceMethod q_X10_settle.1 ∈ mm_tb := mm_u6 201 rfl rfl
theorem se_X10_settle : Cond.selects q_X10_settle.1.cls q_X10_settle.1 q_X10_settle.1 ∈ mm_tb := mm_tb_of (List.mem_append_left _ (List.mem_of_getElem? (i := 105) rfl)) rfl
def q_X10_inner : mmM := (yX10_inner, cX10_inner, 3, (some .int))
theorem mf_X10_inner : mm_mf q_X10_inner 0 := ⟨mm_u6 206 rfl rfl, mm_u1 11 rfl rfl, by decide +kernel, by decide +kernel, by decide, by decide +kernel⟩
theorem im_X10_inner : Cond.instanceMethod q_X10_inner.1 ∈ mm_tb := mm_u6 205 rfl rfl
theorem se_X10_inner : Cond.selects q_X10_inner.1.cls q_X10_inner.1 q_X10_inner.1 ∈ mm_tb := mm_tb_of (List.mem_append_left _ (List.mem_of_getElem? (i := 106) rfl)) rfl
def q_X10_isCompared : mmM := (yX10_isCompared, cX10_isCompared, 2, (some .boolean))
theorem mf_X10_isCompared : mm_mf q_X10_isCompared 0 := ⟨mm_u6 210 rfl rfl, mm_u1 11 rfl rfl, by decide +kernel, by decide +kernel, by decide, by decide +kernel⟩
theorem im_X10_isCompared : Cond.instanceMethod q_X10_isCompared.1 ∈ mm_tb := mm_u6 209 rfl rfl
theorem se_X10_isCompared : Cond.selects q_X10_isCompared.1.cls q_X10_isCompared.1 q_X10_isCompared.1 ∈ mm_tb := mm_tb_of (List.mem_append_left _ (List.mem_of_getElem? (i := 107) rfl)) rfl
def q_X10_partAt : mmM := (yX10_partAt, cX10_partAt, 3, (some .int))
theorem mf_X10_partAt : mm_mf q_X10_partAt 0 := ⟨mm_u6 177 rfl rfl, mm_u1 11 rfl rfl, by decide +kernel, by decide +kernel, by decide, by decide +kernel⟩
theorem im_X10_partAt : Cond.instanceMethod q_X10_partAt.1 ∈ mm_tb := mm_u6 176 rfl rfl
theorem se_X10_partAt : Cond.selects q_X10_partAt.1.cls q_X10_partAt.1 q_X10_partAt.1 ∈ mm_tb := mm_tb_of (List.mem_append_left _ (List.mem_of_getElem? (i := 100) rfl)) rfl
def q_X10_orderPartAt : mmM := (yX10_orderPartAt, cX10_orderPartAt, 3, (some .int))
theorem mf_X10_orderPartAt : mm_mf q_X10_orderPartAt 0 := ⟨mm_u6 173 rfl rfl, mm_u1 11 rfl rfl, by decide +kernel, by decide +kernel, by decide, by decide +kernel⟩
theorem im_X10_orderPartAt : Cond.instanceMethod q_X10_orderPartAt.1 ∈ mm_tb := mm_u6 172 rfl rfl
theorem se_X10_orderPartAt : Cond.selects q_X10_orderPartAt.1.cls q_X10_orderPartAt.1 q_X10_orderPartAt.1 ∈ mm_tb := mm_tb_of (List.mem_append_left _ (List.mem_of_getElem? (i := 99) rfl)) rfl
def q_X10_openBracket : mmM := (yX10_openBracket, cX10_openBracket, 2, none)
theorem mf_X10_openBracket : mm_mf q_X10_openBracket 1 := ⟨mm_u6 165 rfl rfl, mm_u1 11 rfl rfl, by decide +kernel, by decide +kernel, by decide, by decide +kernel⟩
theorem im_X10_openBracket : Cond.instanceMethod q_X10_openBracket.1 ∈ mm_tb := mm_u6 164 rfl rfl
theorem se_X10_openBracket : Cond.selects q_X10_openBracket.1.cls q_X10_openBracket.1 q_X10_openBracket.1 ∈ mm_tb := mm_tb_of (List.mem_append_left _ (List.mem_of_getElem? (i := 97) rfl)) rfl
def q_X10_leaf : mmM := (yX10_leaf, cX10_leaf, 4, none)
theorem mf_X10_leaf : mm_mf q_X10_leaf 3 := ⟨mm_u6 182 rfl rfl, mm_u1 11 rfl rfl, by decide +kernel, by decide +kernel, by decide, by decide +kernel⟩
theorem im_X10_leaf : Cond.instanceMethod q_X10_leaf.1 ∈ mm_tb := mm_u6 181 rfl rfl
theorem se_X10_leaf : Cond.selects q_X10_leaf.1.cls q_X10_leaf.1 q_X10_leaf.1 ∈ mm_tb := mm_tb_of (List.mem_append_left _ (List.mem_of_getElem? (i := 101) rfl)) rfl
def q_X10_readPart : mmM := (yX10_readPart, cX10_readPart, 4, (some .int))
theorem mf_X10_readPart : mm_mf q_X10_readPart 0 := ⟨mm_u6 169 rfl rfl, mm_u1 11 rfl rfl, by decide +kernel, by decide +kernel, by decide, by decide +kernel⟩
theorem im_X10_readPart : Cond.instanceMethod q_X10_readPart.1 ∈ mm_tb := mm_u6 168 rfl rfl
theorem se_X10_readPart : Cond.selects q_X10_readPart.1.cls q_X10_readPart.1 q_X10_readPart.1 ∈ mm_tb := mm_tb_of (List.mem_append_left _ (List.mem_of_getElem? (i := 98) rfl)) rfl
def q_X10_readPlain : mmM := (yX10_readPlain, cX10_readPlain, 1, (some .int))
theorem mf_X10_readPlain : mm_mf q_X10_readPlain 0 := ⟨mm_u6 152 rfl rfl, mm_u1 11 rfl rfl, by decide +kernel, by decide +kernel, by decide, by decide +kernel⟩
theorem im_X10_readPlain : Cond.instanceMethod q_X10_readPlain.1 ∈ mm_tb := mm_u6 151 rfl rfl
theorem se_X10_readPlain : Cond.selects q_X10_readPlain.1.cls q_X10_readPlain.1 q_X10_readPlain.1 ∈ mm_tb := mm_tb_of (List.mem_append_left _ (List.mem_of_getElem? (i := 94) rfl)) rfl
def q_X10_behindSum : mmM := (yX10_behindSum, cX10_behindSum, 4, (some .int))
theorem mf_X10_behindSum : mm_mf q_X10_behindSum 1 := ⟨mm_u6 195 rfl rfl, mm_u1 11 rfl rfl, by decide +kernel, by decide +kernel, by decide, by decide +kernel⟩
theorem im_X10_behindSum : Cond.instanceMethod q_X10_behindSum.1 ∈ mm_tb := mm_u6 194 rfl rfl
theorem se_X10_behindSum : Cond.selects q_X10_behindSum.1.cls q_X10_behindSum.1 q_X10_behindSum.1 ∈ mm_tb := mm_tb_of (List.mem_append_left _ (List.mem_of_getElem? (i := 104) rfl)) rfl
def q_X10_behindTest : mmM := (yX10_behindTest, cX10_behindTest, 2, (some .int))
theorem mf_X10_behindTest : mm_mf q_X10_behindTest 0 := ⟨mm_u6 218 rfl rfl, mm_u1 11 rfl rfl, by decide +kernel, by decide +kernel, by decide, by decide +kernel⟩
theorem im_X10_behindTest : Cond.instanceMethod q_X10_behindTest.1 ∈ mm_tb := mm_u6 217 rfl rfl
theorem se_X10_behindTest : Cond.selects q_X10_behindTest.1.cls q_X10_behindTest.1 q_X10_behindTest.1 ∈ mm_tb := mm_tb_of (List.mem_append_left _ (List.mem_of_getElem? (i := 108) rfl)) rfl
def q_X10_readExpression : mmM := (yX10_readExpression, cX10_readExpression, 3, none)
theorem mf_X10_readExpression : mm_mf q_X10_readExpression 1 := ⟨mm_u6 148 rfl rfl, mm_u1 11 rfl rfl, by decide +kernel, by decide +kernel, by decide, by decide +kernel⟩
theorem im_X10_readExpression : Cond.instanceMethod q_X10_readExpression.1 ∈ mm_tb := mm_u6 147 rfl rfl
theorem se_X10_readExpression : Cond.selects q_X10_readExpression.1.cls q_X10_readExpression.1 q_X10_readExpression.1 ∈ mm_tb := mm_tb_of (List.mem_append_left _ (List.mem_of_getElem? (i := 93) rfl)) rfl
def q_X10_beginText : mmM := (yX10_beginText, cX10_beginText, 2, none)
theorem mf_X10_beginText : mm_mf q_X10_beginText 1 := ⟨mm_u6 114 rfl rfl, mm_u1 11 rfl rfl, by decide +kernel, by decide +kernel, by decide, by decide +kernel⟩
theorem im_X10_beginText : Cond.instanceMethod q_X10_beginText.1 ∈ mm_tb := mm_u6 113 rfl rfl
theorem se_X10_beginText : Cond.selects q_X10_beginText.1.cls q_X10_beginText.1 q_X10_beginText.1 ∈ mm_tb := mm_tb_of (List.mem_append_left _ (List.mem_of_getElem? (i := 87) rfl)) rfl
def q_X10_endText : mmM := (yX10_endText, cX10_endText, 1, none)
theorem mf_X10_endText : mm_mf q_X10_endText 0 := ⟨mm_u6 225 rfl rfl, mm_u1 11 rfl rfl, by decide +kernel, by decide +kernel, by decide, by decide +kernel⟩
theorem im_X10_endText : Cond.instanceMethod q_X10_endText.1 ∈ mm_tb := mm_u6 224 rfl rfl
theorem se_X10_endText : Cond.selects q_X10_endText.1.cls q_X10_endText.1 q_X10_endText.1 ∈ mm_tb := mm_tb_of (List.mem_append_left _ (List.mem_of_getElem? (i := 109) rfl)) rfl
def q_X10_readLaw : mmM := (yX10_readLaw, cX10_readLaw, 4, none)
theorem mf_X10_readLaw : mm_mf q_X10_readLaw 0 := ⟨mm_u6 136 rfl rfl, mm_u1 11 rfl rfl, by decide +kernel, by decide +kernel, by decide, by decide +kernel⟩
theorem im_X10_readLaw : Cond.instanceMethod q_X10_readLaw.1 ∈ mm_tb := mm_u6 135 rfl rfl
theorem se_X10_readLaw : Cond.selects q_X10_readLaw.1.cls q_X10_readLaw.1 q_X10_readLaw.1 ∈ mm_tb := mm_tb_of (List.mem_append_left _ (List.mem_of_getElem? (i := 90) rfl)) rfl
def q_X10_law : mmM := (yX10_law, cX10_law, 3, (some .int))
theorem mf_X10_law : mm_mf q_X10_law 0 := ⟨mm_u6 110 rfl rfl, mm_u1 11 rfl rfl, by decide +kernel, by decide +kernel, by decide, by decide +kernel⟩
theorem im_X10_law : Cond.instanceMethod q_X10_law.1 ∈ mm_tb := mm_u6 108 rfl rfl
theorem se_X10_law : Cond.selects q_X10_law.1.cls q_X10_law.1 q_X10_law.1 ∈ mm_tb := mm_u6 109 rfl rfl
def q_X10_isLaw : mmM := (yX10_isLaw, cX10_isLaw, 2, (some .boolean))
theorem mf_X10_isLaw : mm_mf q_X10_isLaw 1 := ⟨mm_u6 233 rfl rfl, mm_u1 11 rfl rfl, by decide +kernel, by decide +kernel, by decide, by decide +kernel⟩
theorem im_X10_isLaw : Cond.instanceMethod q_X10_isLaw.1 ∈ mm_tb := mm_u6 232 rfl rfl
theorem se_X10_isLaw : Cond.selects q_X10_isLaw.1.cls q_X10_isLaw.1 q_X10_isLaw.1 ∈ mm_tb := mm_tb_of (List.mem_append_left _ (List.mem_of_getElem? (i := 110) rfl)) rfl
def q_X10_force : mmM := (yX10_force, cX10_force, 2, (some .int))
theorem mf_X10_force : mm_mf q_X10_force 1 := ⟨mm_u6 229 rfl rfl, mm_u1 11 rfl rfl, by decide +kernel, by decide +kernel, by decide, by decide +kernel⟩
theorem im_X10_force : Cond.instanceMethod q_X10_force.1 ∈ mm_tb := mm_u6 227 rfl rfl
theorem se_X10_force : Cond.selects q_X10_force.1.cls q_X10_force.1 q_X10_force.1 ∈ mm_tb := mm_u6 228 rfl rfl
def q_X10_reckon : mmM := (yX10_reckon, cX10_reckon, 6, (some .long))
theorem mf_X10_reckon : mm_mf q_X10_reckon 3 := ⟨mm_u6 52 rfl rfl, mm_u1 11 rfl rfl, by decide +kernel, by decide +kernel, by decide, by decide +kernel⟩
theorem im_X10_reckon : Cond.instanceMethod q_X10_reckon.1 ∈ mm_tb := mm_u6 51 rfl rfl
theorem se_X10_reckon : Cond.selects q_X10_reckon.1.cls q_X10_reckon.1 q_X10_reckon.1 ∈ mm_tb := mm_tb_of (List.mem_append_left _ (List.mem_of_getElem? (i := 81) rfl)) rfl
def q_X10_reckonAll : mmM := (yX10_reckonAll, cX10_reckonAll, 7, none)
theorem mf_X10_reckonAll : mm_mf q_X10_reckonAll 2 := ⟨mm_u6 48 rfl rfl, mm_u1 11 rfl rfl, by decide +kernel, by decide +kernel, by decide, by decide +kernel⟩
theorem im_X10_reckonAll : Cond.instanceMethod q_X10_reckonAll.1 ∈ mm_tb := mm_u6 47 rfl rfl
theorem se_X10_reckonAll : Cond.selects q_X10_reckonAll.1.cls q_X10_reckonAll.1 q_X10_reckonAll.1 ∈ mm_tb := mm_tb_of (List.mem_append_left _ (List.mem_of_getElem? (i := 80) rfl)) rfl
def q_X10_isSo : mmM := (yX10_isSo, cX10_isSo, 2, (some .boolean))
theorem mf_X10_isSo : mm_mf q_X10_isSo 1 := ⟨mm_u6 44 rfl rfl, mm_u1 11 rfl rfl, by decide +kernel, by decide +kernel, by decide, by decide +kernel⟩
theorem im_X10_isSo : Cond.instanceMethod q_X10_isSo.1 ∈ mm_tb := mm_u6 43 rfl rfl
theorem se_X10_isSo : Cond.selects q_X10_isSo.1.cls q_X10_isSo.1 q_X10_isSo.1 ∈ mm_tb := mm_tb_of (List.mem_append_left _ (List.mem_of_getElem? (i := 79) rfl)) rfl
def q_X10_tells : mmM := (yX10_tells, cX10_tells, 11, (some .long))
theorem mf_X10_tells : mm_mf q_X10_tells 5 := ⟨mm_u6 32 rfl rfl, mm_u1 11 rfl rfl, by decide +kernel, by decide +kernel, by decide, by decide +kernel⟩
theorem im_X10_tells : Cond.instanceMethod q_X10_tells.1 ∈ mm_tb := mm_u6 31 rfl rfl
theorem se_X10_tells : Cond.selects q_X10_tells.1.cls q_X10_tells.1 q_X10_tells.1 ∈ mm_tb := mm_tb_of (List.mem_append_left _ (List.mem_of_getElem? (i := 77) rfl)) rfl
def q_X10_worthOf : mmM := (yX10_worthOf, cX10_worthOf, 3, (some .int))
theorem mf_X10_worthOf : mm_mf q_X10_worthOf 2 := ⟨mm_u6 62 rfl rfl, mm_u1 11 rfl rfl, by decide +kernel, by decide +kernel, by decide, by decide +kernel⟩
theorem im_X10_worthOf : Cond.instanceMethod q_X10_worthOf.1 ∈ mm_tb := mm_u6 61 rfl rfl
theorem se_X10_worthOf : Cond.selects q_X10_worthOf.1.cls q_X10_worthOf.1 q_X10_worthOf.1 ∈ mm_tb := mm_tb_of (List.mem_append_left _ (List.mem_of_getElem? (i := 82) rfl)) rfl
def q_X10_isBarred : mmM := (yX10_isBarred, cX10_isBarred, 3, (some .boolean))
theorem mf_X10_isBarred : mm_mf q_X10_isBarred 2 := ⟨mm_u6 69 rfl rfl, mm_u1 11 rfl rfl, by decide +kernel, by decide +kernel, by decide, by decide +kernel⟩
theorem im_X10_isBarred : Cond.instanceMethod q_X10_isBarred.1 ∈ mm_tb := mm_u6 68 rfl rfl
theorem se_X10_isBarred : Cond.selects q_X10_isBarred.1.cls q_X10_isBarred.1 q_X10_isBarred.1 ∈ mm_tb := mm_tb_of (List.mem_append_left _ (List.mem_of_getElem? (i := 83) rfl)) rfl
def q_X10_shuns : mmM := (yX10_shuns, cX10_shuns, 4, (some .boolean))
theorem mf_X10_shuns : mm_mf q_X10_shuns 3 := ⟨mm_u6 73 rfl rfl, mm_u1 11 rfl rfl, by decide +kernel, by decide +kernel, by decide, by decide +kernel⟩
theorem im_X10_shuns : Cond.instanceMethod q_X10_shuns.1 ∈ mm_tb := mm_u6 72 rfl rfl
theorem se_X10_shuns : Cond.selects q_X10_shuns.1.cls q_X10_shuns.1 q_X10_shuns.1 ∈ mm_tb := mm_tb_of (List.mem_append_left _ (List.mem_of_getElem? (i := 84) rfl)) rfl
def q_X10_fades : mmM := (yX10_fades, cX10_fades, 3, (some .boolean))
theorem mf_X10_fades : mm_mf q_X10_fades 2 := ⟨mm_u6 28 rfl rfl, mm_u1 11 rfl rfl, by decide +kernel, by decide +kernel, by decide, by decide +kernel⟩
theorem im_X10_fades : Cond.instanceMethod q_X10_fades.1 ∈ mm_tb := mm_u6 27 rfl rfl
theorem se_X10_fades : Cond.selects q_X10_fades.1.cls q_X10_fades.1 q_X10_fades.1 ∈ mm_tb := mm_tb_of (List.mem_append_left _ (List.mem_of_getElem? (i := 76) rfl)) rfl
def q_X10_hear : mmM := (yX10_hear, cX10_hear, 6, none)
theorem mf_X10_hear : mm_mf q_X10_hear 2 := ⟨mm_u7 17 rfl rfl, mm_u1 11 rfl rfl, by decide +kernel, by decide +kernel, by decide, by decide +kernel⟩
theorem im_X10_hear : Cond.instanceMethod q_X10_hear.1 ∈ mm_tb := mm_u7 16 rfl rfl
theorem se_X10_hear : Cond.selects q_X10_hear.1.cls q_X10_hear.1 q_X10_hear.1 ∈ mm_tb := mm_tb_of (List.mem_append_left _ (List.mem_of_getElem? (i := 115) rfl)) rfl
def q_X10_readIt : mmM := (yX10_readIt, cX10_readIt, 4, (some .int))
theorem mf_X10_readIt : mm_mf q_X10_readIt 2 := ⟨mm_u7 13 rfl rfl, mm_u1 11 rfl rfl, by decide +kernel, by decide +kernel, by decide, by decide +kernel⟩
theorem im_X10_readIt : Cond.instanceMethod q_X10_readIt.1 ∈ mm_tb := mm_u7 12 rfl rfl
theorem se_X10_readIt : Cond.selects q_X10_readIt.1.cls q_X10_readIt.1 q_X10_readIt.1 ∈ mm_tb := mm_tb_of (List.mem_append_left _ (List.mem_of_getElem? (i := 114) rfl)) rfl
def q_X10_readNow : mmM := (yX10_readNow, cX10_readNow, 3, (some .int))
theorem mf_X10_readNow : mm_mf q_X10_readNow 2 := ⟨mm_u7 1 rfl rfl, mm_u1 11 rfl rfl, by decide +kernel, by decide +kernel, by decide, by decide +kernel⟩
theorem im_X10_readNow : Cond.instanceMethod q_X10_readNow.1 ∈ mm_tb := mm_u7 0 rfl rfl
theorem se_X10_readNow : Cond.selects q_X10_readNow.1.cls q_X10_readNow.1 q_X10_readNow.1 ∈ mm_tb := mm_tb_of (List.mem_append_left _ (List.mem_of_getElem? (i := 111) rfl)) rfl
def q_X10_read : mmM := (yX10_read, cX10_read, 3, (some .int))
theorem mf_X10_read : mm_mf q_X10_read 2 := ⟨mm_u6 237 rfl rfl, mm_u1 11 rfl rfl, by decide +kernel, by decide +kernel, by decide, by decide +kernel⟩
theorem im_X10_read : Cond.instanceMethod q_X10_read.1 ∈ mm_tb := mm_u6 235 rfl rfl
theorem se_X10_read : Cond.selects q_X10_read.1.cls q_X10_read.1 q_X10_read.1 ∈ mm_tb := mm_u6 236 rfl rfl
def q_X10_canAnswer : mmM := (yX10_canAnswer, cX10_canAnswer, 3, (some .boolean))
theorem mf_X10_canAnswer : mm_mf q_X10_canAnswer 2 := ⟨mm_u7 32 rfl rfl, mm_u1 11 rfl rfl, by decide +kernel, by decide +kernel, by decide, by decide +kernel⟩
theorem im_X10_canAnswer : Cond.instanceMethod q_X10_canAnswer.1 ∈ mm_tb := mm_u7 31 rfl rfl
theorem se_X10_canAnswer : Cond.selects q_X10_canAnswer.1.cls q_X10_canAnswer.1 q_X10_canAnswer.1 ∈ mm_tb := mm_tb_of (List.mem_append_left _ (List.mem_of_getElem? (i := 117) rfl)) rfl
def q_X10_answerNow : mmM := (yX10_answerNow, cX10_answerNow, 4, (some .int))
theorem mf_X10_answerNow : mm_mf q_X10_answerNow 2 := ⟨mm_u7 28 rfl rfl, mm_u1 11 rfl rfl, by decide +kernel, by decide +kernel, by decide, by decide +kernel⟩
theorem im_X10_answerNow : Cond.instanceMethod q_X10_answerNow.1 ∈ mm_tb := mm_u7 27 rfl rfl
theorem se_X10_answerNow : Cond.selects q_X10_answerNow.1.cls q_X10_answerNow.1 q_X10_answerNow.1 ∈ mm_tb := mm_tb_of (List.mem_append_left _ (List.mem_of_getElem? (i := 116) rfl)) rfl
def q_X10_answer : mmM := (yX10_answer, cX10_answer, 3, (some .int))
theorem mf_X10_answer : mm_mf q_X10_answer 2 := ⟨mm_u7 24 rfl rfl, mm_u1 11 rfl rfl, by decide +kernel, by decide +kernel, by decide, by decide +kernel⟩
theorem im_X10_answer : Cond.instanceMethod q_X10_answer.1 ∈ mm_tb := mm_u7 22 rfl rfl
theorem se_X10_answer : Cond.selects q_X10_answer.1.cls q_X10_answer.1 q_X10_answer.1 ∈ mm_tb := mm_u7 23 rfl rfl
def q_X10_loseNow : mmM := (yX10_loseNow, cX10_loseNow, 3, (some .int))
theorem mf_X10_loseNow : mm_mf q_X10_loseNow 2 := ⟨mm_u7 40 rfl rfl, mm_u1 11 rfl rfl, by decide +kernel, by decide +kernel, by decide, by decide +kernel⟩
theorem im_X10_loseNow : Cond.instanceMethod q_X10_loseNow.1 ∈ mm_tb := mm_u7 39 rfl rfl
theorem se_X10_loseNow : Cond.selects q_X10_loseNow.1.cls q_X10_loseNow.1 q_X10_loseNow.1 ∈ mm_tb := mm_tb_of (List.mem_append_left _ (List.mem_of_getElem? (i := 118) rfl)) rfl
def q_X10_lose : mmM := (yX10_lose, cX10_lose, 3, (some .int))
theorem mf_X10_lose : mm_mf q_X10_lose 2 := ⟨mm_u7 36 rfl rfl, mm_u1 11 rfl rfl, by decide +kernel, by decide +kernel, by decide, by decide +kernel⟩
theorem im_X10_lose : Cond.instanceMethod q_X10_lose.1 ∈ mm_tb := mm_u7 34 rfl rfl
theorem se_X10_lose : Cond.selects q_X10_lose.1.cls q_X10_lose.1 q_X10_lose.1 ∈ mm_tb := mm_u7 35 rfl rfl
def q_X10_fading : mmM := (yX10_fading, cX10_fading, 4, (some .int))
theorem mf_X10_fading : mm_mf q_X10_fading 1 := ⟨mm_u7 60 rfl rfl, mm_u1 11 rfl rfl, by decide +kernel, by decide +kernel, by decide, by decide +kernel⟩
theorem im_X10_fading : Cond.instanceMethod q_X10_fading.1 ∈ mm_tb := mm_u7 59 rfl rfl
theorem se_X10_fading : Cond.selects q_X10_fading.1.cls q_X10_fading.1 q_X10_fading.1 ∈ mm_tb := mm_tb_of (List.mem_append_left _ (List.mem_of_getElem? (i := 121) rfl)) rfl
def q_X10_passIt : mmM := (yX10_passIt, cX10_passIt, 2, none)
theorem mf_X10_passIt : mm_mf q_X10_passIt 0 := ⟨mm_u7 56 rfl rfl, mm_u1 11 rfl rfl, by decide +kernel, by decide +kernel, by decide, by decide +kernel⟩
theorem im_X10_passIt : Cond.instanceMethod q_X10_passIt.1 ∈ mm_tb := mm_u7 55 rfl rfl
theorem se_X10_passIt : Cond.selects q_X10_passIt.1.cls q_X10_passIt.1 q_X10_passIt.1 ∈ mm_tb := mm_tb_of (List.mem_append_left _ (List.mem_of_getElem? (i := 120) rfl)) rfl
def q_X10_passNow : mmM := (yX10_passNow, cX10_passNow, 1, (some .int))
theorem mf_X10_passNow : mm_mf q_X10_passNow 0 := ⟨mm_u7 52 rfl rfl, mm_u1 11 rfl rfl, by decide +kernel, by decide +kernel, by decide, by decide +kernel⟩
theorem im_X10_passNow : Cond.instanceMethod q_X10_passNow.1 ∈ mm_tb := mm_u7 51 rfl rfl
theorem se_X10_passNow : Cond.selects q_X10_passNow.1.cls q_X10_passNow.1 q_X10_passNow.1 ∈ mm_tb := mm_tb_of (List.mem_append_left _ (List.mem_of_getElem? (i := 119) rfl)) rfl
def q_X10_pass : mmM := (yX10_pass, cX10_pass, 1, (some .int))
theorem mf_X10_pass : mm_mf q_X10_pass 0 := ⟨mm_u7 48 rfl rfl, mm_u1 11 rfl rfl, by decide +kernel, by decide +kernel, by decide, by decide +kernel⟩
theorem im_X10_pass : Cond.instanceMethod q_X10_pass.1 ∈ mm_tb := mm_u7 46 rfl rfl
theorem se_X10_pass : Cond.selects q_X10_pass.1.cls q_X10_pass.1 q_X10_pass.1 ∈ mm_tb := mm_u7 47 rfl rfl
def q_X10_layBehind : mmM := (yX10_layBehind, cX10_layBehind, 5, none)
theorem mf_X10_layBehind : mm_mf q_X10_layBehind 1 := ⟨mm_u7 68 rfl rfl, mm_u1 11 rfl rfl, by decide +kernel, by decide +kernel, by decide, by decide +kernel⟩
theorem im_X10_layBehind : Cond.instanceMethod q_X10_layBehind.1 ∈ mm_tb := mm_u7 67 rfl rfl
theorem se_X10_layBehind : Cond.selects q_X10_layBehind.1.cls q_X10_layBehind.1 q_X10_layBehind.1 ∈ mm_tb := mm_tb_of (List.mem_append_left _ (List.mem_of_getElem? (i := 122) rfl)) rfl
def q_X10_layLeft : mmM := (yX10_layLeft, cX10_layLeft, 6, none)
theorem mf_X10_layLeft : mm_mf q_X10_layLeft 1 := ⟨mm_u7 72 rfl rfl, mm_u1 11 rfl rfl, by decide +kernel, by decide +kernel, by decide, by decide +kernel⟩
theorem im_X10_layLeft : Cond.instanceMethod q_X10_layLeft.1 ∈ mm_tb := mm_u7 71 rfl rfl
theorem se_X10_layLeft : Cond.selects q_X10_layLeft.1.cls q_X10_layLeft.1 q_X10_layLeft.1 ∈ mm_tb := mm_tb_of (List.mem_append_left _ (List.mem_of_getElem? (i := 123) rfl)) rfl
def q_X10_nextLetter : mmM := (yX10_nextLetter, cX10_nextLetter, 3, (some .int))
theorem mf_X10_nextLetter : mm_mf q_X10_nextLetter 1 := ⟨mm_u7 77 rfl rfl, mm_u1 11 rfl rfl, by decide +kernel, by decide +kernel, by decide, by decide +kernel⟩
theorem im_X10_nextLetter : Cond.instanceMethod q_X10_nextLetter.1 ∈ mm_tb := mm_u7 76 rfl rfl
theorem se_X10_nextLetter : Cond.selects q_X10_nextLetter.1.cls q_X10_nextLetter.1 q_X10_nextLetter.1 ∈ mm_tb := mm_tb_of (List.mem_append_left _ (List.mem_of_getElem? (i := 124) rfl)) rfl
def q_X10_lesson : mmM := (yX10_lesson, cX10_lesson, 7, (some .int))
theorem mf_X10_lesson : mm_mf q_X10_lesson 3 := ⟨mm_u7 64 rfl rfl, mm_u1 11 rfl rfl, by decide +kernel, by decide +kernel, by decide, by decide +kernel⟩
theorem im_X10_lesson : Cond.instanceMethod q_X10_lesson.1 ∈ mm_tb := mm_u7 62 rfl rfl
theorem se_X10_lesson : Cond.selects q_X10_lesson.1.cls q_X10_lesson.1 q_X10_lesson.1 ∈ mm_tb := mm_u7 63 rfl rfl
def q_X10_told : mmM := (yX10_told, cX10_told, 4, (some .int))
theorem mf_X10_told : mm_mf q_X10_told 2 := ⟨mm_u7 81 rfl rfl, mm_u1 11 rfl rfl, by decide +kernel, by decide +kernel, by decide, by decide +kernel⟩
theorem im_X10_told : Cond.instanceMethod q_X10_told.1 ∈ mm_tb := mm_u7 79 rfl rfl
theorem se_X10_told : Cond.selects q_X10_told.1.cls q_X10_told.1 q_X10_told.1 ∈ mm_tb := mm_u7 80 rfl rfl
def q_X10_forget : mmM := (yX10_forget, cX10_forget, 2, (some .int))
theorem mf_X10_forget : mm_mf q_X10_forget 0 := ⟨mm_u7 85 rfl rfl, mm_u1 11 rfl rfl, by decide +kernel, by decide +kernel, by decide, by decide +kernel⟩
theorem im_X10_forget : Cond.instanceMethod q_X10_forget.1 ∈ mm_tb := mm_u7 83 rfl rfl
theorem se_X10_forget : Cond.selects q_X10_forget.1.cls q_X10_forget.1 q_X10_forget.1 ∈ mm_tb := mm_u7 84 rfl rfl
def q_X10_knownBy : mmM := (yX10_knownBy, cX10_knownBy, 4, (some .int))
theorem mf_X10_knownBy : mm_mf q_X10_knownBy 1 := ⟨mm_u7 93 rfl rfl, mm_u1 11 rfl rfl, by decide +kernel, by decide +kernel, by decide, by decide +kernel⟩
theorem im_X10_knownBy : Cond.instanceMethod q_X10_knownBy.1 ∈ mm_tb := mm_u7 92 rfl rfl
theorem se_X10_knownBy : Cond.selects q_X10_knownBy.1.cls q_X10_knownBy.1 q_X10_knownBy.1 ∈ mm_tb := mm_tb_of (List.mem_append_left _ (List.mem_of_getElem? (i := 125) rfl)) rfl
def q_X10_isToldOf : mmM := (yX10_isToldOf, cX10_isToldOf, 4, (some .boolean))
theorem mf_X10_isToldOf : mm_mf q_X10_isToldOf 1 := ⟨mm_u7 97 rfl rfl, mm_u1 11 rfl rfl, by decide +kernel, by decide +kernel, by decide, by decide +kernel⟩
theorem im_X10_isToldOf : Cond.instanceMethod q_X10_isToldOf.1 ∈ mm_tb := mm_u7 96 rfl rfl
theorem se_X10_isToldOf : Cond.selects q_X10_isToldOf.1.cls q_X10_isToldOf.1 q_X10_isToldOf.1 ∈ mm_tb := mm_tb_of (List.mem_append_left _ (List.mem_of_getElem? (i := 126) rfl)) rfl
def q_X10_heard : mmM := (yX10_heard, cX10_heard, 6, (some .int))
theorem mf_X10_heard : mm_mf q_X10_heard 2 := ⟨mm_u7 89 rfl rfl, mm_u1 11 rfl rfl, by decide +kernel, by decide +kernel, by decide, by decide +kernel⟩
theorem im_X10_heard : Cond.instanceMethod q_X10_heard.1 ∈ mm_tb := mm_u7 87 rfl rfl
theorem se_X10_heard : Cond.selects q_X10_heard.1.cls q_X10_heard.1 q_X10_heard.1 ∈ mm_tb := mm_u7 88 rfl rfl
def q_X10_ask : mmM := (yX10_ask, cX10_ask, 8, (some .int))
theorem mf_X10_ask : mm_mf q_X10_ask 2 := ⟨mm_u7 101 rfl rfl, mm_u1 11 rfl rfl, by decide +kernel, by decide +kernel, by decide, by decide +kernel⟩
theorem im_X10_ask : Cond.instanceMethod q_X10_ask.1 ∈ mm_tb := mm_u7 99 rfl rfl
theorem se_X10_ask : Cond.selects q_X10_ask.1.cls q_X10_ask.1 q_X10_ask.1 ∈ mm_tb := mm_u7 100 rfl rfl
def q_X10_matchedBy : mmM := (yX10_matchedBy, cX10_matchedBy, 4, (some .int))
theorem mf_X10_matchedBy : mm_mf q_X10_matchedBy 3 := ⟨mm_u7 113 rfl rfl, mm_u1 11 rfl rfl, by decide +kernel, by decide +kernel, by decide, by decide +kernel⟩
theorem im_X10_matchedBy : Cond.instanceMethod q_X10_matchedBy.1 ∈ mm_tb := mm_u7 112 rfl rfl
theorem se_X10_matchedBy : Cond.selects q_X10_matchedBy.1.cls q_X10_matchedBy.1 q_X10_matchedBy.1 ∈ mm_tb := mm_tb_of (List.mem_append_left _ (List.mem_of_getElem? (i := 128) rfl)) rfl
def q_X10_layMost : mmM := (yX10_layMost, cX10_layMost, 6, none)
theorem mf_X10_layMost : mm_mf q_X10_layMost 0 := ⟨mm_u7 109 rfl rfl, mm_u1 11 rfl rfl, by decide +kernel, by decide +kernel, by decide, by decide +kernel⟩
theorem im_X10_layMost : Cond.instanceMethod q_X10_layMost.1 ∈ mm_tb := mm_u7 108 rfl rfl
theorem se_X10_layMost : Cond.selects q_X10_layMost.1.cls q_X10_layMost.1 q_X10_layMost.1 ∈ mm_tb := mm_tb_of (List.mem_append_left _ (List.mem_of_getElem? (i := 127) rfl)) rfl
def q_X10_matched : mmM := (yX10_matched, cX10_matched, 6, (some .int))
theorem mf_X10_matched : mm_mf q_X10_matched 1 := ⟨mm_u7 105 rfl rfl, mm_u1 11 rfl rfl, by decide +kernel, by decide +kernel, by decide, by decide +kernel⟩
theorem im_X10_matched : Cond.instanceMethod q_X10_matched.1 ∈ mm_tb := mm_u7 103 rfl rfl
theorem se_X10_matched : Cond.selects q_X10_matched.1.cls q_X10_matched.1 q_X10_matched.1 ∈ mm_tb := mm_u7 104 rfl rfl
def q_X10_together : mmM := (yX10_together, cX10_together, 8, (some .int))
theorem mf_X10_together : mm_mf q_X10_together 2 := ⟨mm_u7 117 rfl rfl, mm_u1 11 rfl rfl, by decide +kernel, by decide +kernel, by decide, by decide +kernel⟩
theorem im_X10_together : Cond.instanceMethod q_X10_together.1 ∈ mm_tb := mm_u7 115 rfl rfl
theorem se_X10_together : Cond.selects q_X10_together.1.cls q_X10_together.1 q_X10_together.1 ∈ mm_tb := mm_u7 116 rfl rfl
def q_X10_needsOf : mmM := (yX10_needsOf, cX10_needsOf, 3, (some .boolean))
theorem mf_X10_needsOf : mm_mf q_X10_needsOf 2 := ⟨mm_u7 125 rfl rfl, mm_u1 11 rfl rfl, by decide +kernel, by decide +kernel, by decide, by decide +kernel⟩
theorem im_X10_needsOf : Cond.instanceMethod q_X10_needsOf.1 ∈ mm_tb := mm_u7 124 rfl rfl
theorem se_X10_needsOf : Cond.selects q_X10_needsOf.1.cls q_X10_needsOf.1 q_X10_needsOf.1 ∈ mm_tb := mm_tb_of (List.mem_append_left _ (List.mem_of_getElem? (i := 129) rfl)) rfl
def q_X10_clashes : mmM := (yX10_clashes, cX10_clashes, 6, (some .int))
theorem mf_X10_clashes : mm_mf q_X10_clashes 1 := ⟨mm_u7 121 rfl rfl, mm_u1 11 rfl rfl, by decide +kernel, by decide +kernel, by decide, by decide +kernel⟩
theorem im_X10_clashes : Cond.instanceMethod q_X10_clashes.1 ∈ mm_tb := mm_u7 119 rfl rfl
theorem se_X10_clashes : Cond.selects q_X10_clashes.1.cls q_X10_clashes.1 q_X10_clashes.1 ∈ mm_tb := mm_u7 120 rfl rfl
def q_X10_later : mmM := (yX10_later, cX10_later, 4, (some .int))
theorem mf_X10_later : mm_mf q_X10_later 2 := ⟨mm_u7 129 rfl rfl, mm_u1 11 rfl rfl, by decide +kernel, by decide +kernel, by decide, by decide +kernel⟩
theorem im_X10_later : Cond.instanceMethod q_X10_later.1 ∈ mm_tb := mm_u7 127 rfl rfl
theorem se_X10_later : Cond.selects q_X10_later.1.cls q_X10_later.1 q_X10_later.1 ∈ mm_tb := mm_u7 128 rfl rfl
def q_X10_likest : mmM := (yX10_likest, cX10_likest, 7, (some .int))
theorem mf_X10_likest : mm_mf q_X10_likest 2 := ⟨mm_u7 134 rfl rfl, mm_u1 11 rfl rfl, by decide +kernel, by decide +kernel, by decide, by decide +kernel⟩
theorem im_X10_likest : Cond.instanceMethod q_X10_likest.1 ∈ mm_tb := mm_u7 132 rfl rfl
theorem se_X10_likest : Cond.selects q_X10_likest.1.cls q_X10_likest.1 q_X10_likest.1 ∈ mm_tb := mm_u7 133 rfl rfl
def q_X10_lost : mmM := (yX10_lost, cX10_lost, 4, (some .int))
theorem mf_X10_lost : mm_mf q_X10_lost 0 := ⟨mm_u7 138 rfl rfl, mm_u1 11 rfl rfl, by decide +kernel, by decide +kernel, by decide, by decide +kernel⟩
theorem im_X10_lost : Cond.instanceMethod q_X10_lost.1 ∈ mm_tb := mm_u7 136 rfl rfl
theorem se_X10_lost : Cond.selects q_X10_lost.1.cls q_X10_lost.1 q_X10_lost.1 ∈ mm_tb := mm_u7 137 rfl rfl
def q_X10_few : mmM := (yX10_few, cX10_few, 8, (some .long))
theorem mf_X10_few : mm_mf q_X10_few 2 := ⟨mm_u7 142 rfl rfl, mm_u1 11 rfl rfl, by decide +kernel, by decide +kernel, by decide, by decide +kernel⟩
theorem im_X10_few : Cond.instanceMethod q_X10_few.1 ∈ mm_tb := mm_u7 140 rfl rfl
theorem se_X10_few : Cond.selects q_X10_few.1.cls q_X10_few.1 q_X10_few.1 ∈ mm_tb := mm_u7 141 rfl rfl
def q_X10_compare : mmM := (yX10_compare, cX10_compare, 6, (some .int))
theorem mf_X10_compare : mm_mf q_X10_compare 1 := ⟨mm_u7 148 rfl rfl, mm_u1 11 rfl rfl, by decide +kernel, by decide +kernel, by decide, by decide +kernel⟩
theorem im_X10_compare : Cond.instanceMethod q_X10_compare.1 ∈ mm_tb := mm_u7 146 rfl rfl
theorem se_X10_compare : Cond.selects q_X10_compare.1.cls q_X10_compare.1 q_X10_compare.1 ∈ mm_tb := mm_u7 147 rfl rfl
def q_X10_readSum : mmM := (yX10_readSum, cX10_readSum, 2, none)
theorem mf_X10_readSum : mm_mf q_X10_readSum 1 := ⟨mm_u7 160 rfl rfl, mm_u1 11 rfl rfl, by decide +kernel, by decide +kernel, by decide, by decide +kernel⟩
theorem im_X10_readSum : Cond.instanceMethod q_X10_readSum.1 ∈ mm_tb := mm_u7 159 rfl rfl
theorem se_X10_readSum : Cond.selects q_X10_readSum.1.cls q_X10_readSum.1 q_X10_readSum.1 ∈ mm_tb := mm_tb_of (List.mem_append_left _ (List.mem_of_getElem? (i := 131) rfl)) rfl
def q_X10_readOrder : mmM := (yX10_readOrder, cX10_readOrder, 4, none)
theorem mf_X10_readOrder : mm_mf q_X10_readOrder 0 := ⟨mm_u7 156 rfl rfl, mm_u1 11 rfl rfl, by decide +kernel, by decide +kernel, by decide, by decide +kernel⟩
theorem im_X10_readOrder : Cond.instanceMethod q_X10_readOrder.1 ∈ mm_tb := mm_u7 155 rfl rfl
theorem se_X10_readOrder : Cond.selects q_X10_readOrder.1.cls q_X10_readOrder.1 q_X10_readOrder.1 ∈ mm_tb := mm_tb_of (List.mem_append_left _ (List.mem_of_getElem? (i := 130) rfl)) rfl
def q_X10_sumOf : mmM := (yX10_sumOf, cX10_sumOf, 2, (some .int))
theorem mf_X10_sumOf : mm_mf q_X10_sumOf 1 := ⟨mm_u7 173 rfl rfl, mm_u1 11 rfl rfl, by decide +kernel, by decide +kernel, by decide, by decide +kernel⟩
theorem im_X10_sumOf : Cond.instanceMethod q_X10_sumOf.1 ∈ mm_tb := mm_u7 172 rfl rfl
theorem se_X10_sumOf : Cond.selects q_X10_sumOf.1.cls q_X10_sumOf.1 q_X10_sumOf.1 ∈ mm_tb := mm_tb_of (List.mem_append_left _ (List.mem_of_getElem? (i := 134) rfl)) rfl
def q_X10_act : mmM := (yX10_act, cX10_act, 4, (some .int))
theorem mf_X10_act : mm_mf q_X10_act 3 := ⟨mm_u7 177 rfl rfl, mm_u1 11 rfl rfl, by decide +kernel, by decide +kernel, by decide, by decide +kernel⟩
theorem im_X10_act : Cond.instanceMethod q_X10_act.1 ∈ mm_tb := mm_u7 176 rfl rfl
theorem se_X10_act : Cond.selects q_X10_act.1.cls q_X10_act.1 q_X10_act.1 ∈ mm_tb := mm_tb_of (List.mem_append_left _ (List.mem_of_getElem? (i := 135) rfl)) rfl
def q_X10_run : mmM := (yX10_run, cX10_run, 5, (some .int))
theorem mf_X10_run : mm_mf q_X10_run 1 := ⟨mm_u7 165 rfl rfl, mm_u1 11 rfl rfl, by decide +kernel, by decide +kernel, by decide, by decide +kernel⟩
theorem im_X10_run : Cond.instanceMethod q_X10_run.1 ∈ mm_tb := mm_u7 164 rfl rfl
theorem se_X10_run : Cond.selects q_X10_run.1.cls q_X10_run.1 q_X10_run.1 ∈ mm_tb := mm_tb_of (List.mem_append_left _ (List.mem_of_getElem? (i := 132) rfl)) rfl
def q_X10_orders : mmM := (yX10_orders, cX10_orders, 4, (some .int))
theorem mf_X10_orders : mm_mf q_X10_orders 0 := ⟨mm_u7 152 rfl rfl, mm_u1 11 rfl rfl, by decide +kernel, by decide +kernel, by decide, by decide +kernel⟩
theorem im_X10_orders : Cond.instanceMethod q_X10_orders.1 ∈ mm_tb := mm_u7 150 rfl rfl
theorem se_X10_orders : Cond.selects q_X10_orders.1.cls q_X10_orders.1 q_X10_orders.1 ∈ mm_tb := mm_u7 151 rfl rfl
def q_X10_giveBack : mmM := (yX10_giveBack, cX10_giveBack, 3, none)
theorem mf_X10_giveBack : mm_mf q_X10_giveBack 1 := ⟨mm_u7 181 rfl rfl, mm_u1 11 rfl rfl, by decide +kernel, by decide +kernel, by decide, by decide +kernel⟩
theorem im_X10_giveBack : Cond.instanceMethod q_X10_giveBack.1 ∈ mm_tb := mm_u7 180 rfl rfl
theorem se_X10_giveBack : Cond.selects q_X10_giveBack.1.cls q_X10_giveBack.1 q_X10_giveBack.1 ∈ mm_tb := mm_tb_of (List.mem_append_left _ (List.mem_of_getElem? (i := 136) rfl)) rfl
def q_X10_stopped : mmM := (yX10_stopped, cX10_stopped, 1, (some .int))
theorem mf_X10_stopped : mm_mf q_X10_stopped 0 := ⟨mm_u7 185 rfl rfl, mm_u1 11 rfl rfl, by decide +kernel, by decide +kernel, by decide, by decide +kernel⟩
theorem im_X10_stopped : Cond.instanceMethod q_X10_stopped.1 ∈ mm_tb := mm_u7 183 rfl rfl
theorem se_X10_stopped : Cond.selects q_X10_stopped.1.cls q_X10_stopped.1 q_X10_stopped.1 ∈ mm_tb := mm_u7 184 rfl rfl
def q_X10_draw : mmM := (yX10_draw, cX10_draw, 2, (some .int))
theorem mf_X10_draw : mm_mf q_X10_draw 1 := ⟨mm_u7 193 rfl rfl, mm_u1 11 rfl rfl, by decide +kernel, by decide +kernel, by decide, by decide +kernel⟩
theorem im_X10_draw : Cond.instanceMethod q_X10_draw.1 ∈ mm_tb := mm_u7 192 rfl rfl
theorem se_X10_draw : Cond.selects q_X10_draw.1.cls q_X10_draw.1 q_X10_draw.1 ∈ mm_tb := mm_tb_of (List.mem_append_left _ (List.mem_of_getElem? (i := 137) rfl)) rfl
def q_X10_schools : mmM := (yX10_schools, cX10_schools, 8, (some .int))
theorem mf_X10_schools : mm_mf q_X10_schools 2 := ⟨mm_u7 189 rfl rfl, mm_u1 11 rfl rfl, by decide +kernel, by decide +kernel, by decide, by decide +kernel⟩
theorem im_X10_schools : Cond.instanceMethod q_X10_schools.1 ∈ mm_tb := mm_u7 187 rfl rfl
theorem se_X10_schools : Cond.selects q_X10_schools.1.cls q_X10_schools.1 q_X10_schools.1 ∈ mm_tb := mm_u7 188 rfl rfl
def q_X10_drawn : mmM := (yX10_drawn, cX10_drawn, 3, (some .int))
theorem mf_X10_drawn : mm_mf q_X10_drawn 2 := ⟨mm_u7 200 rfl rfl, mm_u1 11 rfl rfl, by decide +kernel, by decide +kernel, by decide, by decide +kernel⟩
theorem im_X10_drawn : Cond.instanceMethod q_X10_drawn.1 ∈ mm_tb := mm_u7 198 rfl rfl
theorem se_X10_drawn : Cond.selects q_X10_drawn.1.cls q_X10_drawn.1 q_X10_drawn.1 ∈ mm_tb := mm_u7 199 rfl rfl
def q_X10_count : mmM := (yX10_count, cX10_count, 2, (some .int))
theorem mf_X10_count : mm_mf q_X10_count 1 := ⟨mm_u7 204 rfl rfl, mm_u1 11 rfl rfl, by decide +kernel, by decide +kernel, by decide, by decide +kernel⟩
theorem im_X10_count : Cond.instanceMethod q_X10_count.1 ∈ mm_tb := mm_u7 202 rfl rfl
theorem se_X10_count : Cond.selects q_X10_count.1.cls q_X10_count.1 q_X10_count.1 ∈ mm_tb := mm_u7 203 rfl rfl
def q_X10_status : mmM := (yX10_status, cX10_status, 1, (some .int))
theorem mf_X10_status : mm_mf q_X10_status 0 := ⟨mm_u7 210 rfl rfl, mm_u1 11 rfl rfl, by decide +kernel, by decide +kernel, by decide, by decide +kernel⟩
theorem im_X10_status : Cond.instanceMethod q_X10_status.1 ∈ mm_tb := mm_u7 208 rfl rfl
theorem se_X10_status : Cond.selects q_X10_status.1.cls q_X10_status.1 q_X10_status.1 ∈ mm_tb := mm_u7 209 rfl rfl
def q_J6_bitCount_0f7a4 : mmM := (yJ6_bitCount_0f7a4, cJ6_bitCount_0f7a4, 1, (some .int))
theorem mf_J6_bitCount_0f7a4 : mm_mf q_J6_bitCount_0f7a4 1 := ⟨mm_u2 219 rfl rfl, mm_u1 12 rfl rfl, by decide +kernel, by decide +kernel, by decide, by decide +kernel⟩
theorem st_J6_bitCount_0f7a4 : Cond.static q_J6_bitCount_0f7a4.1 ∈ mm_tb := mm_u2 218 rfl rfl
def q_J0_length_8abf5 : mmM := (yJ0_length_8abf5, cJ0_length_8abf5, 1, (some .int))
theorem mf_J0_length_8abf5 : mm_mf q_J0_length_8abf5 0 := ⟨mm_u3 86 rfl rfl, mm_u1 14 rfl rfl, by decide +kernel, by decide +kernel, by decide, by decide +kernel⟩
theorem im_J0_length_8abf5 : Cond.instanceMethod q_J0_length_8abf5.1 ∈ mm_tb := mm_u3 84 rfl rfl
theorem se_J0_length_8abf5 : Cond.selects q_J0_length_8abf5.1.cls q_J0_length_8abf5.1 q_J0_length_8abf5.1 ∈ mm_tb := mm_u3 85 rfl rfl
def q_J0_charAt_5068e : mmM := (yJ0_charAt_5068e, cJ0_charAt_5068e, 2, (some .char))
theorem mf_J0_charAt_5068e : mm_mf q_J0_charAt_5068e 1 := ⟨mm_u3 96 rfl rfl, mm_u1 14 rfl rfl, by decide +kernel, by decide +kernel, by decide, by decide +kernel⟩
theorem im_J0_charAt_5068e : Cond.instanceMethod q_J0_charAt_5068e.1 ∈ mm_tb := mm_u3 94 rfl rfl
theorem se_J0_charAt_5068e : Cond.selects q_J0_charAt_5068e.1.cls q_J0_charAt_5068e.1 q_J0_charAt_5068e.1 ∈ mm_tb := mm_u3 95 rfl rfl
def q_J0_coder_7d493 : mmM := (yJ0_coder_7d493, cJ0_coder_7d493, 1, (some .byte))
theorem mf_J0_coder_7d493 : mm_mf q_J0_coder_7d493 0 := ⟨mm_u3 90 rfl rfl, mm_u1 14 rfl rfl, by decide +kernel, by decide +kernel, by decide, by decide +kernel⟩
theorem im_J0_coder_7d493 : Cond.instanceMethod q_J0_coder_7d493.1 ∈ mm_tb := mm_u3 88 rfl rfl
theorem se_J0_coder_7d493 : Cond.selects q_J0_coder_7d493.1.cls q_J0_coder_7d493.1 q_J0_coder_7d493.1 ∈ mm_tb := mm_u3 89 rfl rfl
def q_J0_isLatin1_aae02 : mmM := (yJ0_isLatin1_aae02, cJ0_isLatin1_aae02, 1, (some .boolean))
theorem mf_J0_isLatin1_aae02 : mm_mf q_J0_isLatin1_aae02 0 := ⟨mm_u3 100 rfl rfl, mm_u1 14 rfl rfl, by decide +kernel, by decide +kernel, by decide, by decide +kernel⟩
theorem im_J0_isLatin1_aae02 : Cond.instanceMethod q_J0_isLatin1_aae02.1 ∈ mm_tb := mm_u3 98 rfl rfl
theorem se_J0_isLatin1_aae02 : Cond.selects q_J0_isLatin1_aae02.1.cls q_J0_isLatin1_aae02.1 q_J0_isLatin1_aae02.1 ∈ mm_tb := mm_u3 99 rfl rfl
def q_J0_checkIndex_df160 : mmM := (yJ0_checkIndex_df160, cJ0_checkIndex_df160, 2, none)
theorem mf_J0_checkIndex_df160 : mm_mf q_J0_checkIndex_df160 2 := ⟨mm_u3 106 rfl rfl, mm_u1 14 rfl rfl, by decide +kernel, by decide +kernel, by decide, by decide +kernel⟩
theorem st_J0_checkIndex_df160 : Cond.static q_J0_checkIndex_df160.1 ∈ mm_tb := mm_u3 105 rfl rfl
def q_J1_charAt_3b067 : mmM := (yJ1_charAt_3b067, cJ1_charAt_3b067, 2, (some .char))
theorem mf_J1_charAt_3b067 : mm_mf q_J1_charAt_3b067 2 := ⟨mm_u3 103 rfl rfl, mm_u1 15 rfl rfl, by decide +kernel, by decide +kernel, by decide, by decide +kernel⟩
theorem st_J1_charAt_3b067 : Cond.static q_J1_charAt_3b067.1 ∈ mm_tb := mm_u3 102 rfl rfl
def q_J2_getChar_3b067 : mmM := (yJ2_getChar_3b067, cJ2_getChar_3b067, 2, (some .char))
theorem mf_J2_getChar_3b067 : mm_mf q_J2_getChar_3b067 2 := ⟨mm_u3 124 rfl rfl, mm_u1 17 rfl rfl, by decide +kernel, by decide +kernel, by decide, by decide +kernel⟩
theorem st_J2_getChar_3b067 : Cond.static q_J2_getChar_3b067.1 ∈ mm_tb := mm_u3 123 rfl rfl
def q_J2_length_9d52b : mmM := (yJ2_length_9d52b, cJ2_length_9d52b, 1, (some .int))
theorem mf_J2_length_9d52b : mm_mf q_J2_length_9d52b 1 := ⟨mm_u3 120 rfl rfl, mm_u1 17 rfl rfl, by decide +kernel, by decide +kernel, by decide, by decide +kernel⟩
theorem st_J2_length_9d52b : Cond.static q_J2_length_9d52b.1 ∈ mm_tb := mm_u3 119 rfl rfl
def q_J2_charAt_3b067 : mmM := (yJ2_charAt_3b067, cJ2_charAt_3b067, 2, (some .char))
theorem mf_J2_charAt_3b067 : mm_mf q_J2_charAt_3b067 2 := ⟨mm_u3 114 rfl rfl, mm_u1 17 rfl rfl, by decide +kernel, by decide +kernel, by decide, by decide +kernel⟩
theorem st_J2_charAt_3b067 : Cond.static q_J2_charAt_3b067.1 ∈ mm_tb := mm_u3 113 rfl rfl
def q_J2_checkIndex_2214a : mmM := (yJ2_checkIndex_2214a, cJ2_checkIndex_2214a, 2, none)
theorem mf_J2_checkIndex_2214a : mm_mf q_J2_checkIndex_2214a 2 := ⟨mm_u3 117 rfl rfl, mm_u1 17 rfl rfl, by decide +kernel, by decide +kernel, by decide, by decide +kernel⟩
theorem st_J2_checkIndex_2214a : Cond.static q_J2_checkIndex_2214a.1 ∈ mm_tb := mm_u3 116 rfl rfl
def q_J7_fill_d0a16 : mmM := (yJ7_fill_d0a16, cJ7_fill_d0a16, 5, none)
theorem mf_J7_fill_d0a16 : mm_mf q_J7_fill_d0a16 2 := ⟨mm_u4 194 rfl rfl, mm_u1 19 rfl rfl, by decide +kernel, by decide +kernel, by decide, by decide +kernel⟩
theorem st_J7_fill_d0a16 : Cond.static q_J7_fill_d0a16.1 ∈ mm_tb := mm_u4 193 rfl rfl
def q_J7_fill_53178 : mmM := (yJ7_fill_53178, cJ7_fill_53178, 4, none)
theorem mf_J7_fill_53178 : mm_mf q_J7_fill_53178 2 := ⟨mm_u4 85 rfl rfl, mm_u1 19 rfl rfl, by decide +kernel, by decide +kernel, by decide, by decide +kernel⟩
theorem st_J7_fill_53178 : Cond.static q_J7_fill_53178.1 ∈ mm_tb := mm_u4 84 rfl rfl
def q_J3_checkIndex_8e157 : mmM := (yJ3_checkIndex_8e157, cJ3_checkIndex_8e157, 3, (some .int))
theorem mf_J3_checkIndex_8e157 : mm_mf q_J3_checkIndex_8e157 3 := ⟨mm_u3 111 rfl rfl, mm_u1 16 rfl rfl, by decide +kernel, by decide +kernel, by decide, by decide +kernel⟩
theorem st_J3_checkIndex_8e157 : Cond.static q_J3_checkIndex_8e157.1 ∈ mm_tb := mm_u3 110 rfl rfl
theorem fl_RX9_10 : mm_fl RX9 10 9 0 := ⟨⟨by decide, by decide⟩, Or.inl (mm_u2 94 rfl rfl)⟩
theorem fl_RX9_21 : mm_fl RX9 21 9 1 := ⟨⟨by decide, by decide⟩, Or.inl (mm_u2 95 rfl rfl)⟩
theorem fl_RX9_25 : mm_fl RX9 25 9 2 := ⟨⟨by decide, by decide⟩, Or.inl (mm_u2 96 rfl rfl)⟩
theorem fl_RX9_28 : mm_fl RX9 28 9 3 := ⟨⟨by decide, by decide⟩, Or.inl (mm_u2 97 rfl rfl)⟩
theorem fl_RX9_32 : mm_fl RX9 32 9 4 := ⟨⟨by decide, by decide⟩, Or.inl (mm_u2 98 rfl rfl)⟩
theorem fl_RX9_39 : mm_fl RX9 39 9 5 := ⟨⟨by decide, by decide⟩, Or.inl (mm_u2 99 rfl rfl)⟩
theorem fl_RX9_43 : mm_fl RX9 43 9 6 := ⟨⟨by decide, by decide⟩, Or.inl (mm_u2 100 rfl rfl)⟩
theorem fl_RX9_49 : mm_fl RX9 49 9 7 := ⟨⟨by decide, by decide⟩, Or.inl (mm_u2 101 rfl rfl)⟩
theorem fl_RX9_58 : mm_fl RX9 58 9 8 := ⟨⟨by decide, by decide⟩, Or.inl (mm_u2 102 rfl rfl)⟩
theorem fl_RX9_67 : mm_fl RX9 67 9 9 := ⟨⟨by decide, by decide⟩, Or.inl (mm_u2 103 rfl rfl)⟩
theorem fl_RX9_74 : mm_fl RX9 74 9 10 := ⟨⟨by decide, by decide⟩, Or.inl (mm_u2 104 rfl rfl)⟩
theorem fl_RX9_78 : mm_fl RX9 78 9 11 := ⟨⟨by decide, by decide⟩, Or.inl (mm_u2 105 rfl rfl)⟩
theorem fl_RX9_82 : mm_fl RX9 82 9 13 := ⟨⟨by decide, by decide⟩, Or.inl (mm_u2 107 rfl rfl)⟩
theorem fl_RX9_94 : mm_fl RX9 94 1 1 := ⟨⟨by decide, by decide⟩, Or.inr ⟨"DeadLetters", mm_u1 52 rfl rfl⟩⟩
theorem fl_RX9_111 : mm_fl RX9 111 1 2 := ⟨⟨by decide, by decide⟩, Or.inr ⟨"DeadLetters", mm_u1 56 rfl rfl⟩⟩
theorem fl_RX9_114 : mm_fl RX9 114 1 3 := ⟨⟨by decide, by decide⟩, Or.inr ⟨"DeadLetters", mm_u1 61 rfl rfl⟩⟩
theorem fl_RX9_117 : mm_fl RX9 117 1 4 := ⟨⟨by decide, by decide⟩, Or.inr ⟨"DeadLetters", mm_u1 64 rfl rfl⟩⟩
theorem fl_RX9_123 : mm_fl RX9 123 1 6 := ⟨⟨by decide, by decide⟩, Or.inr ⟨"DeadLetters", mm_u1 69 rfl rfl⟩⟩
theorem fl_RX9_132 : mm_fl RX9 132 1 7 := ⟨⟨by decide, by decide⟩, Or.inr ⟨"DeadLetters", mm_u1 75 rfl rfl⟩⟩
theorem fl_RX9_135 : mm_fl RX9 135 1 8 := ⟨⟨by decide, by decide⟩, Or.inr ⟨"DeadLetters", mm_u1 78 rfl rfl⟩⟩
theorem fl_RX9_138 : mm_fl RX9 138 1 9 := ⟨⟨by decide, by decide⟩, Or.inr ⟨"DeadLetters", mm_u1 82 rfl rfl⟩⟩
theorem fl_RX9_161 : mm_fl RX9 161 1 13 := ⟨⟨by decide, by decide⟩, Or.inr ⟨"DeadLetters", mm_u1 91 rfl rfl⟩⟩
theorem fl_RX9_171 : mm_fl RX9 171 5 1 := ⟨⟨by decide, by decide⟩, Or.inr ⟨"DeadLetters", mm_u1 161 rfl rfl⟩⟩
theorem fl_RX9_174 : mm_fl RX9 174 9 14 := ⟨⟨by decide, by decide⟩, Or.inl (mm_u2 108 rfl rfl)⟩
theorem fl_RX9_180 : mm_fl RX9 180 1 14 := ⟨⟨by decide, by decide⟩, Or.inr ⟨"DeadLetters", mm_u1 94 rfl rfl⟩⟩
theorem fl_RX9_187 : mm_fl RX9 187 3 1 := ⟨⟨by decide, by decide⟩, Or.inr ⟨"DeadLetters", mm_u2 12 rfl rfl⟩⟩
theorem fl_RX9_207 : mm_fl RX9 207 9 15 := ⟨⟨by decide, by decide⟩, Or.inl (mm_u2 109 rfl rfl)⟩
theorem fl_RX9_210 : mm_fl RX9 210 9 16 := ⟨⟨by decide, by decide⟩, Or.inl (mm_u2 110 rfl rfl)⟩
theorem fl_RX9_213 : mm_fl RX9 213 6 0 := ⟨⟨by decide, by decide⟩, Or.inr ⟨"DeadLetters", mm_u1 206 rfl rfl⟩⟩
theorem fl_RX9_216 : mm_fl RX9 216 6 4 := ⟨⟨by decide, by decide⟩, Or.inr ⟨"DeadLetters", mm_u1 219 rfl rfl⟩⟩
theorem fl_RX9_223 : mm_fl RX9 223 3 4 := ⟨⟨by decide, by decide⟩, Or.inr ⟨"DeadLetters", mm_u2 16 rfl rfl⟩⟩
theorem fl_RX9_229 : mm_fl RX9 229 1 16 := ⟨⟨by decide, by decide⟩, Or.inr ⟨"DeadLetters", mm_u1 98 rfl rfl⟩⟩
theorem fl_RX9_246 : mm_fl RX9 246 2 2 := ⟨⟨by decide, by decide⟩, Or.inr ⟨"DeadLetters", mm_u2 37 rfl rfl⟩⟩
theorem fl_RX9_249 : mm_fl RX9 249 1 10 := ⟨⟨by decide, by decide⟩, Or.inr ⟨"DeadLetters", mm_u1 84 rfl rfl⟩⟩
theorem fl_RX9_258 : mm_fl RX9 258 2 7 := ⟨⟨by decide, by decide⟩, Or.inr ⟨"DeadLetters", mm_u2 43 rfl rfl⟩⟩
theorem fl_RX9_268 : mm_fl RX9 268 2 11 := ⟨⟨by decide, by decide⟩, Or.inr ⟨"DeadLetters", mm_u2 48 rfl rfl⟩⟩
theorem fl_RX9_291 : mm_fl RX9 291 1 15 := ⟨⟨by decide, by decide⟩, Or.inr ⟨"DeadLetters", mm_u1 96 rfl rfl⟩⟩
theorem fl_RX9_300 : mm_fl RX9 300 4 0 := ⟨⟨by decide, by decide⟩, Or.inr ⟨"DeadLetters", mm_u2 87 rfl rfl⟩⟩
theorem fl_RX9_304 : mm_fl RX9 304 8 1 := ⟨⟨by decide, by decide⟩, Or.inr ⟨"DeadLetters", mm_u1 143 rfl rfl⟩⟩
theorem fl_RX9_307 : mm_fl RX9 307 9 12 := ⟨⟨by decide, by decide⟩, Or.inl (mm_u2 106 rfl rfl)⟩
theorem fl_RX9_310 : mm_fl RX9 310 5 0 := ⟨⟨by decide, by decide⟩, Or.inr ⟨"DeadLetters", mm_u1 158 rfl rfl⟩⟩
theorem fl_RX9_317 : mm_fl RX9 317 6 5 := ⟨⟨by decide, by decide⟩, Or.inr ⟨"DeadLetters", mm_u1 223 rfl rfl⟩⟩
theorem fl_RX9_324 : mm_fl RX9 324 6 1 := ⟨⟨by decide, by decide⟩, Or.inr ⟨"DeadLetters", mm_u1 209 rfl rfl⟩⟩
theorem fl_RX9_327 : mm_fl RX9 327 6 2 := ⟨⟨by decide, by decide⟩, Or.inr ⟨"DeadLetters", mm_u1 213 rfl rfl⟩⟩
theorem fl_RX9_330 : mm_fl RX9 330 6 3 := ⟨⟨by decide, by decide⟩, Or.inr ⟨"DeadLetters", mm_u1 216 rfl rfl⟩⟩
theorem fl_RX0_11 : mm_fl RX0 11 0 0 := ⟨⟨by decide, by decide⟩, Or.inl (mm_u1 34 rfl rfl)⟩
theorem fl_RX0_15 : mm_fl RX0 15 0 1 := ⟨⟨by decide, by decide⟩, Or.inl (mm_u1 35 rfl rfl)⟩
theorem fl_RX0_24 : mm_fl RX0 24 1 8 := ⟨⟨by decide, by decide⟩, Or.inr ⟨"DeadLetters", mm_u1 77 rfl rfl⟩⟩
theorem fl_RX0_29 : mm_fl RX0 29 1 9 := ⟨⟨by decide, by decide⟩, Or.inr ⟨"DeadLetters", mm_u1 80 rfl rfl⟩⟩
theorem fl_RX0_32 : mm_fl RX0 32 1 4 := ⟨⟨by decide, by decide⟩, Or.inr ⟨"DeadLetters", mm_u1 63 rfl rfl⟩⟩
theorem fl_RX0_35 : mm_fl RX0 35 1 3 := ⟨⟨by decide, by decide⟩, Or.inr ⟨"DeadLetters", mm_u1 60 rfl rfl⟩⟩
theorem fl_RX0_38 : mm_fl RX0 38 1 13 := ⟨⟨by decide, by decide⟩, Or.inr ⟨"DeadLetters", mm_u1 89 rfl rfl⟩⟩
theorem fl_RX0_49 : mm_fl RX0 49 1 7 := ⟨⟨by decide, by decide⟩, Or.inr ⟨"DeadLetters", mm_u1 73 rfl rfl⟩⟩
theorem fl_RX0_58 : mm_fl RX0 58 6 6 := ⟨⟨by decide, by decide⟩, Or.inr ⟨"DeadLetters", mm_u1 225 rfl rfl⟩⟩
theorem fl_RX0_64 : mm_fl RX0 64 6 7 := ⟨⟨by decide, by decide⟩, Or.inr ⟨"DeadLetters", mm_u1 228 rfl rfl⟩⟩
theorem fl_RX0_67 : mm_fl RX0 67 6 8 := ⟨⟨by decide, by decide⟩, Or.inr ⟨"DeadLetters", mm_u1 230 rfl rfl⟩⟩
theorem fl_RX0_92 : mm_fl RX0 92 6 0 := ⟨⟨by decide, by decide⟩, Or.inr ⟨"DeadLetters", mm_u1 205 rfl rfl⟩⟩
theorem fl_RX0_95 : mm_fl RX0 95 6 1 := ⟨⟨by decide, by decide⟩, Or.inr ⟨"DeadLetters", mm_u1 208 rfl rfl⟩⟩
theorem fl_RX0_98 : mm_fl RX0 98 6 5 := ⟨⟨by decide, by decide⟩, Or.inr ⟨"DeadLetters", mm_u1 222 rfl rfl⟩⟩
theorem fl_RX0_109 : mm_fl RX0 109 6 2 := ⟨⟨by decide, by decide⟩, Or.inr ⟨"DeadLetters", mm_u1 212 rfl rfl⟩⟩
theorem fl_RX0_115 : mm_fl RX0 115 1 2 := ⟨⟨by decide, by decide⟩, Or.inr ⟨"DeadLetters", mm_u1 57 rfl rfl⟩⟩
theorem fl_RX1_9 : mm_fl RX1 9 1 0 := ⟨⟨by decide, by decide⟩, Or.inl (mm_u1 50 rfl rfl)⟩
theorem fl_RX1_15 : mm_fl RX1 15 1 2 := ⟨⟨by decide, by decide⟩, Or.inl (mm_u1 55 rfl rfl)⟩
theorem fl_RX1_19 : mm_fl RX1 19 1 3 := ⟨⟨by decide, by decide⟩, Or.inl (mm_u1 58 rfl rfl)⟩
theorem fl_RX1_22 : mm_fl RX1 22 1 4 := ⟨⟨by decide, by decide⟩, Or.inl (mm_u1 62 rfl rfl)⟩
theorem fl_RX1_25 : mm_fl RX1 25 1 7 := ⟨⟨by decide, by decide⟩, Or.inl (mm_u1 71 rfl rfl)⟩
theorem fl_RX1_28 : mm_fl RX1 28 1 8 := ⟨⟨by decide, by decide⟩, Or.inl (mm_u1 76 rfl rfl)⟩
theorem fl_RX1_31 : mm_fl RX1 31 1 9 := ⟨⟨by decide, by decide⟩, Or.inl (mm_u1 79 rfl rfl)⟩
theorem fl_RX1_34 : mm_fl RX1 34 1 11 := ⟨⟨by decide, by decide⟩, Or.inl (mm_u1 85 rfl rfl)⟩
theorem fl_RX1_37 : mm_fl RX1 37 1 12 := ⟨⟨by decide, by decide⟩, Or.inl (mm_u1 86 rfl rfl)⟩
theorem fl_RX1_40 : mm_fl RX1 40 1 13 := ⟨⟨by decide, by decide⟩, Or.inl (mm_u1 87 rfl rfl)⟩
theorem fl_RX1_45 : mm_fl RX1 45 1 15 := ⟨⟨by decide, by decide⟩, Or.inl (mm_u1 95 rfl rfl)⟩
theorem fl_RX1_49 : mm_fl RX1 49 1 16 := ⟨⟨by decide, by decide⟩, Or.inl (mm_u1 97 rfl rfl)⟩
theorem fl_RX1_53 : mm_fl RX1 53 1 1 := ⟨⟨by decide, by decide⟩, Or.inl (mm_u1 51 rfl rfl)⟩
theorem fl_RX1_62 : mm_fl RX1 62 1 5 := ⟨⟨by decide, by decide⟩, Or.inl (mm_u1 65 rfl rfl)⟩
theorem fl_RX1_65 : mm_fl RX1 65 1 6 := ⟨⟨by decide, by decide⟩, Or.inl (mm_u1 68 rfl rfl)⟩
theorem fl_RX1_68 : mm_fl RX1 68 1 10 := ⟨⟨by decide, by decide⟩, Or.inl (mm_u1 83 rfl rfl)⟩
theorem fl_RX1_71 : mm_fl RX1 71 1 14 := ⟨⟨by decide, by decide⟩, Or.inl (mm_u1 93 rfl rfl)⟩
theorem fl_RX2_9 : mm_fl RX2 9 2 0 := ⟨⟨by decide, by decide⟩, Or.inl (mm_u2 34 rfl rfl)⟩
theorem fl_RX2_15 : mm_fl RX2 15 2 1 := ⟨⟨by decide, by decide⟩, Or.inl (mm_u2 35 rfl rfl)⟩
theorem fl_RX2_19 : mm_fl RX2 19 2 2 := ⟨⟨by decide, by decide⟩, Or.inl (mm_u2 36 rfl rfl)⟩
theorem fl_RX2_23 : mm_fl RX2 23 2 3 := ⟨⟨by decide, by decide⟩, Or.inl (mm_u2 38 rfl rfl)⟩
theorem fl_RX2_26 : mm_fl RX2 26 2 4 := ⟨⟨by decide, by decide⟩, Or.inl (mm_u2 39 rfl rfl)⟩
theorem fl_RX2_29 : mm_fl RX2 29 2 5 := ⟨⟨by decide, by decide⟩, Or.inl (mm_u2 40 rfl rfl)⟩
theorem fl_RX2_32 : mm_fl RX2 32 2 6 := ⟨⟨by decide, by decide⟩, Or.inl (mm_u2 41 rfl rfl)⟩
theorem fl_RX2_35 : mm_fl RX2 35 2 7 := ⟨⟨by decide, by decide⟩, Or.inl (mm_u2 42 rfl rfl)⟩
theorem fl_RX2_38 : mm_fl RX2 38 2 8 := ⟨⟨by decide, by decide⟩, Or.inl (mm_u2 44 rfl rfl)⟩
theorem fl_RX2_41 : mm_fl RX2 41 2 9 := ⟨⟨by decide, by decide⟩, Or.inl (mm_u2 45 rfl rfl)⟩
theorem fl_RX2_44 : mm_fl RX2 44 2 10 := ⟨⟨by decide, by decide⟩, Or.inl (mm_u2 46 rfl rfl)⟩
theorem fl_RX2_47 : mm_fl RX2 47 2 11 := ⟨⟨by decide, by decide⟩, Or.inl (mm_u2 47 rfl rfl)⟩
theorem fl_RX2_50 : mm_fl RX2 50 2 12 := ⟨⟨by decide, by decide⟩, Or.inl (mm_u2 49 rfl rfl)⟩
theorem fl_RX2_54 : mm_fl RX2 54 1 3 := ⟨⟨by decide, by decide⟩, Or.inr ⟨"DeadLetters", mm_u1 59 rfl rfl⟩⟩
theorem fl_RX2_65 : mm_fl RX2 65 1 7 := ⟨⟨by decide, by decide⟩, Or.inr ⟨"DeadLetters", mm_u1 72 rfl rfl⟩⟩
theorem fl_RX2_72 : mm_fl RX2 72 1 1 := ⟨⟨by decide, by decide⟩, Or.inr ⟨"DeadLetters", mm_u1 54 rfl rfl⟩⟩
theorem fl_RX2_97 : mm_fl RX2 97 1 6 := ⟨⟨by decide, by decide⟩, Or.inr ⟨"DeadLetters", mm_u1 70 rfl rfl⟩⟩
theorem fl_RX2_123 : mm_fl RX2 123 1 13 := ⟨⟨by decide, by decide⟩, Or.inr ⟨"DeadLetters", mm_u1 92 rfl rfl⟩⟩
theorem fl_RX3_14 : mm_fl RX3 14 3 0 := ⟨⟨by decide, by decide⟩, Or.inl (mm_u2 10 rfl rfl)⟩
theorem fl_RX3_25 : mm_fl RX3 25 3 1 := ⟨⟨by decide, by decide⟩, Or.inl (mm_u2 11 rfl rfl)⟩
theorem fl_RX3_33 : mm_fl RX3 33 3 2 := ⟨⟨by decide, by decide⟩, Or.inl (mm_u2 13 rfl rfl)⟩
theorem fl_RX3_37 : mm_fl RX3 37 3 3 := ⟨⟨by decide, by decide⟩, Or.inl (mm_u2 14 rfl rfl)⟩
theorem fl_RX3_50 : mm_fl RX3 50 7 1 := ⟨⟨by decide, by decide⟩, Or.inr ⟨"DeadLetters", mm_u1 180 rfl rfl⟩⟩
theorem fl_RX3_60 : mm_fl RX3 60 7 2 := ⟨⟨by decide, by decide⟩, Or.inr ⟨"DeadLetters", mm_u1 182 rfl rfl⟩⟩
theorem fl_RX3_81 : mm_fl RX3 81 6 2 := ⟨⟨by decide, by decide⟩, Or.inr ⟨"DeadLetters", mm_u1 211 rfl rfl⟩⟩
theorem fl_RX3_85 : mm_fl RX3 85 6 6 := ⟨⟨by decide, by decide⟩, Or.inr ⟨"DeadLetters", mm_u1 226 rfl rfl⟩⟩
theorem fl_RX3_102 : mm_fl RX3 102 6 5 := ⟨⟨by decide, by decide⟩, Or.inr ⟨"DeadLetters", mm_u1 221 rfl rfl⟩⟩
theorem fl_RX3_107 : mm_fl RX3 107 6 3 := ⟨⟨by decide, by decide⟩, Or.inr ⟨"DeadLetters", mm_u1 215 rfl rfl⟩⟩
theorem fl_RX3_115 : mm_fl RX3 115 6 4 := ⟨⟨by decide, by decide⟩, Or.inr ⟨"DeadLetters", mm_u1 218 rfl rfl⟩⟩
theorem fl_RX3_117 : mm_fl RX3 117 7 4 := ⟨⟨by decide, by decide⟩, Or.inr ⟨"DeadLetters", mm_u1 186 rfl rfl⟩⟩
theorem fl_RX4_14 : mm_fl RX4 14 4 0 := ⟨⟨by decide, by decide⟩, Or.inl (mm_u2 86 rfl rfl)⟩
theorem fl_RX4_24 : mm_fl RX4 24 4 1 := ⟨⟨by decide, by decide⟩, Or.inl (mm_u2 88 rfl rfl)⟩
theorem fl_RX4_28 : mm_fl RX4 28 1 13 := ⟨⟨by decide, by decide⟩, Or.inr ⟨"DeadLetters", mm_u1 88 rfl rfl⟩⟩
theorem fl_RX4_32 : mm_fl RX4 32 1 1 := ⟨⟨by decide, by decide⟩, Or.inr ⟨"DeadLetters", mm_u1 53 rfl rfl⟩⟩
theorem fl_RX4_40 : mm_fl RX4 40 1 6 := ⟨⟨by decide, by decide⟩, Or.inr ⟨"DeadLetters", mm_u1 67 rfl rfl⟩⟩
theorem fl_RX5_9 : mm_fl RX5 9 5 0 := ⟨⟨by decide, by decide⟩, Or.inl (mm_u1 156 rfl rfl)⟩
theorem fl_RX5_15 : mm_fl RX5 15 5 1 := ⟨⟨by decide, by decide⟩, Or.inl (mm_u1 159 rfl rfl)⟩
theorem fl_RX6_9 : mm_fl RX6 9 6 1 := ⟨⟨by decide, by decide⟩, Or.inl (mm_u1 207 rfl rfl)⟩
theorem fl_RX6_15 : mm_fl RX6 15 6 2 := ⟨⟨by decide, by decide⟩, Or.inl (mm_u1 210 rfl rfl)⟩
theorem fl_RX6_18 : mm_fl RX6 18 6 3 := ⟨⟨by decide, by decide⟩, Or.inl (mm_u1 214 rfl rfl)⟩
theorem fl_RX6_21 : mm_fl RX6 21 6 4 := ⟨⟨by decide, by decide⟩, Or.inl (mm_u1 217 rfl rfl)⟩
theorem fl_RX6_24 : mm_fl RX6 24 6 5 := ⟨⟨by decide, by decide⟩, Or.inl (mm_u1 220 rfl rfl)⟩
theorem fl_RX6_27 : mm_fl RX6 27 6 7 := ⟨⟨by decide, by decide⟩, Or.inl (mm_u1 227 rfl rfl)⟩
theorem fl_RX6_30 : mm_fl RX6 30 6 8 := ⟨⟨by decide, by decide⟩, Or.inl (mm_u1 229 rfl rfl)⟩
theorem fl_RX6_33 : mm_fl RX6 33 6 0 := ⟨⟨by decide, by decide⟩, Or.inl (mm_u1 204 rfl rfl)⟩
theorem fl_RX6_37 : mm_fl RX6 37 6 6 := ⟨⟨by decide, by decide⟩, Or.inl (mm_u1 224 rfl rfl)⟩
theorem fl_RX7_9 : mm_fl RX7 9 7 0 := ⟨⟨by decide, by decide⟩, Or.inl (mm_u1 179 rfl rfl)⟩
theorem fl_RX7_15 : mm_fl RX7 15 7 3 := ⟨⟨by decide, by decide⟩, Or.inl (mm_u1 184 rfl rfl)⟩
theorem fl_RX7_22 : mm_fl RX7 22 5 1 := ⟨⟨by decide, by decide⟩, Or.inr ⟨"DeadLetters", mm_u1 160 rfl rfl⟩⟩
theorem fl_RX7_27 : mm_fl RX7 27 5 0 := ⟨⟨by decide, by decide⟩, Or.inr ⟨"DeadLetters", mm_u1 157 rfl rfl⟩⟩
theorem fl_RX7_31 : mm_fl RX7 31 7 2 := ⟨⟨by decide, by decide⟩, Or.inl (mm_u1 183 rfl rfl)⟩
theorem fl_RX7_34 : mm_fl RX7 34 7 1 := ⟨⟨by decide, by decide⟩, Or.inl (mm_u1 181 rfl rfl)⟩
theorem fl_RX7_37 : mm_fl RX7 37 7 4 := ⟨⟨by decide, by decide⟩, Or.inl (mm_u1 185 rfl rfl)⟩
theorem fl_RX8_11 : mm_fl RX8 11 8 0 := ⟨⟨by decide, by decide⟩, Or.inl (mm_u1 141 rfl rfl)⟩
theorem fl_RX8_15 : mm_fl RX8 15 8 1 := ⟨⟨by decide, by decide⟩, Or.inl (mm_u1 142 rfl rfl)⟩
theorem fl_RX8_25 : mm_fl RX8 25 1 5 := ⟨⟨by decide, by decide⟩, Or.inr ⟨"DeadLetters", mm_u1 66 rfl rfl⟩⟩
theorem fl_RX8_30 : mm_fl RX8 30 1 13 := ⟨⟨by decide, by decide⟩, Or.inr ⟨"DeadLetters", mm_u1 90 rfl rfl⟩⟩
theorem fl_RX8_33 : mm_fl RX8 33 1 7 := ⟨⟨by decide, by decide⟩, Or.inr ⟨"DeadLetters", mm_u1 74 rfl rfl⟩⟩
theorem fl_RX8_36 : mm_fl RX8 36 1 9 := ⟨⟨by decide, by decide⟩, Or.inr ⟨"DeadLetters", mm_u1 81 rfl rfl⟩⟩
theorem fl_RX10_7 : mm_fl RX10 7 10 2 := ⟨⟨by decide, by decide⟩, Or.inl (mm_u5 33 rfl rfl)⟩
theorem fl_RX10_13 : mm_fl RX10 13 10 3 := ⟨⟨by decide, by decide⟩, Or.inl (mm_u5 34 rfl rfl)⟩
theorem fl_RX10_16 : mm_fl RX10 16 10 4 := ⟨⟨by decide, by decide⟩, Or.inl (mm_u5 35 rfl rfl)⟩
theorem fl_RX10_19 : mm_fl RX10 19 10 5 := ⟨⟨by decide, by decide⟩, Or.inl (mm_u5 36 rfl rfl)⟩
theorem fl_RX10_23 : mm_fl RX10 23 10 6 := ⟨⟨by decide, by decide⟩, Or.inl (mm_u5 37 rfl rfl)⟩
theorem fl_RX10_26 : mm_fl RX10 26 10 7 := ⟨⟨by decide, by decide⟩, Or.inl (mm_u5 38 rfl rfl)⟩
theorem fl_RX10_29 : mm_fl RX10 29 10 9 := ⟨⟨by decide, by decide⟩, Or.inl (mm_u5 40 rfl rfl)⟩
theorem fl_RX10_32 : mm_fl RX10 32 10 10 := ⟨⟨by decide, by decide⟩, Or.inl (mm_u5 41 rfl rfl)⟩
theorem fl_RX10_35 : mm_fl RX10 35 10 12 := ⟨⟨by decide, by decide⟩, Or.inl (mm_u5 43 rfl rfl)⟩
theorem fl_RX10_38 : mm_fl RX10 38 10 18 := ⟨⟨by decide, by decide⟩, Or.inl (mm_u5 49 rfl rfl)⟩
theorem fl_RX10_42 : mm_fl RX10 42 10 22 := ⟨⟨by decide, by decide⟩, Or.inl (mm_u5 53 rfl rfl)⟩
theorem fl_RX10_45 : mm_fl RX10 45 10 24 := ⟨⟨by decide, by decide⟩, Or.inl (mm_u5 55 rfl rfl)⟩
theorem fl_RX10_48 : mm_fl RX10 48 10 25 := ⟨⟨by decide, by decide⟩, Or.inl (mm_u5 56 rfl rfl)⟩
theorem fl_RX10_51 : mm_fl RX10 51 10 27 := ⟨⟨by decide, by decide⟩, Or.inl (mm_u5 58 rfl rfl)⟩
theorem fl_RX10_54 : mm_fl RX10 54 10 28 := ⟨⟨by decide, by decide⟩, Or.inl (mm_u5 59 rfl rfl)⟩
theorem fl_RX10_77 : mm_fl RX10 77 10 31 := ⟨⟨by decide, by decide⟩, Or.inl (mm_u5 62 rfl rfl)⟩
theorem fl_RX10_87 : mm_fl RX10 87 10 32 := ⟨⟨by decide, by decide⟩, Or.inl (mm_u5 63 rfl rfl)⟩
theorem fl_RX10_98 : mm_fl RX10 98 10 33 := ⟨⟨by decide, by decide⟩, Or.inl (mm_u5 64 rfl rfl)⟩
theorem fl_RX10_101 : mm_fl RX10 101 10 35 := ⟨⟨by decide, by decide⟩, Or.inl (mm_u5 66 rfl rfl)⟩
theorem fl_RX10_104 : mm_fl RX10 104 10 36 := ⟨⟨by decide, by decide⟩, Or.inl (mm_u5 67 rfl rfl)⟩
theorem fl_RX10_107 : mm_fl RX10 107 10 37 := ⟨⟨by decide, by decide⟩, Or.inl (mm_u5 68 rfl rfl)⟩
theorem fl_RX10_110 : mm_fl RX10 110 10 41 := ⟨⟨by decide, by decide⟩, Or.inl (mm_u5 72 rfl rfl)⟩
theorem fl_RX10_113 : mm_fl RX10 113 10 42 := ⟨⟨by decide, by decide⟩, Or.inl (mm_u5 73 rfl rfl)⟩
theorem fl_RX10_116 : mm_fl RX10 116 10 43 := ⟨⟨by decide, by decide⟩, Or.inl (mm_u5 74 rfl rfl)⟩
theorem fl_RX10_119 : mm_fl RX10 119 10 44 := ⟨⟨by decide, by decide⟩, Or.inl (mm_u5 75 rfl rfl)⟩
theorem fl_RX10_122 : mm_fl RX10 122 10 45 := ⟨⟨by decide, by decide⟩, Or.inl (mm_u5 76 rfl rfl)⟩
theorem fl_RX10_125 : mm_fl RX10 125 10 46 := ⟨⟨by decide, by decide⟩, Or.inl (mm_u5 77 rfl rfl)⟩
theorem fl_RX10_136 : mm_fl RX10 136 10 47 := ⟨⟨by decide, by decide⟩, Or.inl (mm_u5 78 rfl rfl)⟩
theorem fl_RX10_145 : mm_fl RX10 145 10 48 := ⟨⟨by decide, by decide⟩, Or.inl (mm_u5 79 rfl rfl)⟩
theorem fl_RX10_148 : mm_fl RX10 148 10 49 := ⟨⟨by decide, by decide⟩, Or.inl (mm_u5 80 rfl rfl)⟩
theorem fl_RX10_151 : mm_fl RX10 151 10 52 := ⟨⟨by decide, by decide⟩, Or.inl (mm_u5 83 rfl rfl)⟩
theorem fl_RX10_154 : mm_fl RX10 154 10 55 := ⟨⟨by decide, by decide⟩, Or.inl (mm_u5 86 rfl rfl)⟩
theorem fl_RX10_157 : mm_fl RX10 157 10 56 := ⟨⟨by decide, by decide⟩, Or.inl (mm_u5 87 rfl rfl)⟩
theorem fl_RX10_163 : mm_fl RX10 163 10 1 := ⟨⟨by decide, by decide⟩, Or.inl (mm_u5 32 rfl rfl)⟩
theorem fl_RX10_166 : mm_fl RX10 166 10 8 := ⟨⟨by decide, by decide⟩, Or.inl (mm_u5 39 rfl rfl)⟩
theorem fl_RX10_237 : mm_fl RX10 237 10 13 := ⟨⟨by decide, by decide⟩, Or.inl (mm_u5 44 rfl rfl)⟩
theorem fl_RX10_240 : mm_fl RX10 240 10 11 := ⟨⟨by decide, by decide⟩, Or.inl (mm_u5 42 rfl rfl)⟩
theorem fl_RX10_246 : mm_fl RX10 246 10 15 := ⟨⟨by decide, by decide⟩, Or.inl (mm_u5 46 rfl rfl)⟩
theorem fl_RX10_249 : mm_fl RX10 249 10 19 := ⟨⟨by decide, by decide⟩, Or.inl (mm_u5 50 rfl rfl)⟩
theorem fl_RX10_256 : mm_fl RX10 256 10 14 := ⟨⟨by decide, by decide⟩, Or.inl (mm_u5 45 rfl rfl)⟩
theorem fl_RX10_259 : mm_fl RX10 259 10 17 := ⟨⟨by decide, by decide⟩, Or.inl (mm_u5 48 rfl rfl)⟩
theorem fl_RX10_269 : mm_fl RX10 269 10 16 := ⟨⟨by decide, by decide⟩, Or.inl (mm_u5 47 rfl rfl)⟩
theorem fl_RX10_286 : mm_fl RX10 286 10 23 := ⟨⟨by decide, by decide⟩, Or.inl (mm_u5 54 rfl rfl)⟩
theorem fl_RX10_289 : mm_fl RX10 289 10 29 := ⟨⟨by decide, by decide⟩, Or.inl (mm_u5 60 rfl rfl)⟩
theorem fl_RX10_311 : mm_fl RX10 311 10 30 := ⟨⟨by decide, by decide⟩, Or.inl (mm_u5 61 rfl rfl)⟩
theorem fl_RX10_317 : mm_fl RX10 317 10 26 := ⟨⟨by decide, by decide⟩, Or.inl (mm_u5 57 rfl rfl)⟩
theorem fl_RX10_326 : mm_fl RX10 326 10 20 := ⟨⟨by decide, by decide⟩, Or.inl (mm_u5 51 rfl rfl)⟩
theorem fl_RX10_380 : mm_fl RX10 380 10 21 := ⟨⟨by decide, by decide⟩, Or.inl (mm_u5 52 rfl rfl)⟩
theorem fl_RX10_400 : mm_fl RX10 400 10 38 := ⟨⟨by decide, by decide⟩, Or.inl (mm_u5 69 rfl rfl)⟩
theorem fl_RX10_403 : mm_fl RX10 403 10 34 := ⟨⟨by decide, by decide⟩, Or.inl (mm_u5 65 rfl rfl)⟩
theorem fl_RX10_414 : mm_fl RX10 414 10 39 := ⟨⟨by decide, by decide⟩, Or.inl (mm_u5 70 rfl rfl)⟩
theorem fl_RX10_420 : mm_fl RX10 420 10 40 := ⟨⟨by decide, by decide⟩, Or.inl (mm_u5 71 rfl rfl)⟩
theorem fl_RX10_506 : mm_fl RX10 506 10 53 := ⟨⟨by decide, by decide⟩, Or.inl (mm_u5 84 rfl rfl)⟩
theorem fl_RX10_509 : mm_fl RX10 509 10 50 := ⟨⟨by decide, by decide⟩, Or.inl (mm_u5 81 rfl rfl)⟩
theorem fl_RX10_512 : mm_fl RX10 512 10 51 := ⟨⟨by decide, by decide⟩, Or.inl (mm_u5 82 rfl rfl)⟩
theorem fl_RX10_533 : mm_fl RX10 533 10 54 := ⟨⟨by decide, by decide⟩, Or.inl (mm_u5 85 rfl rfl)⟩
theorem pw_X0_init_11 : mm_pw q_X0_init 11 0 0 := ⟨⟨by decide, by decide⟩, Or.inr ⟨rfl, rfl, rfl, mm_u1 34 rfl rfl⟩⟩
theorem pw_X0_init_15 : mm_pw q_X0_init 15 0 1 := ⟨⟨by decide, by decide⟩, Or.inr ⟨rfl, rfl, rfl, mm_u1 35 rfl rfl⟩⟩
theorem pw_X10_answer_160 : mm_pw q_X10_answer 160 10 0 := ⟨⟨by decide, by decide⟩, Or.inl ⟨rfl, Or.inl (mm_u5 31 rfl rfl)⟩⟩
theorem pw_X10_ask_160 : mm_pw q_X10_ask 160 10 0 := ⟨⟨by decide, by decide⟩, Or.inl ⟨rfl, Or.inl (mm_u5 31 rfl rfl)⟩⟩
theorem pw_X10_asks_160 : mm_pw q_X10_asks 160 10 0 := ⟨⟨by decide, by decide⟩, Or.inl ⟨rfl, Or.inl (mm_u5 31 rfl rfl)⟩⟩
theorem pw_X10_at_160 : mm_pw q_X10_at 160 10 0 := ⟨⟨by decide, by decide⟩, Or.inl ⟨rfl, Or.inl (mm_u5 31 rfl rfl)⟩⟩
theorem pw_X10_back_160 : mm_pw q_X10_back 160 10 0 := ⟨⟨by decide, by decide⟩, Or.inl ⟨rfl, Or.inl (mm_u5 31 rfl rfl)⟩⟩
theorem pw_X10_begin_38 : mm_pw q_X10_begin 38 10 18 := ⟨⟨by decide, by decide⟩, Or.inl ⟨rfl, Or.inl (mm_u5 49 rfl rfl)⟩⟩
theorem pw_X10_begin_246 : mm_pw q_X10_begin 246 10 15 := ⟨⟨by decide, by decide⟩, Or.inl ⟨rfl, Or.inl (mm_u5 46 rfl rfl)⟩⟩
theorem pw_X10_begin_249 : mm_pw q_X10_begin 249 10 19 := ⟨⟨by decide, by decide⟩, Or.inl ⟨rfl, Or.inl (mm_u5 50 rfl rfl)⟩⟩
theorem pw_X10_beginText_286 : mm_pw q_X10_beginText 286 10 23 := ⟨⟨by decide, by decide⟩, Or.inl ⟨rfl, Or.inl (mm_u5 54 rfl rfl)⟩⟩
theorem pw_X10_beginText_317 : mm_pw q_X10_beginText 317 10 26 := ⟨⟨by decide, by decide⟩, Or.inl ⟨rfl, Or.inl (mm_u5 57 rfl rfl)⟩⟩
theorem pw_X10_beginText_326 : mm_pw q_X10_beginText 326 10 20 := ⟨⟨by decide, by decide⟩, Or.inl ⟨rfl, Or.inl (mm_u5 51 rfl rfl)⟩⟩
theorem pw_X10_beginText_380 : mm_pw q_X10_beginText 380 10 21 := ⟨⟨by decide, by decide⟩, Or.inl ⟨rfl, Or.inl (mm_u5 52 rfl rfl)⟩⟩
theorem pw_X10_behindSum_289 : mm_pw q_X10_behindSum 289 10 29 := ⟨⟨by decide, by decide⟩, Or.inl ⟨rfl, Or.inl (mm_u5 60 rfl rfl)⟩⟩
theorem pw_X10_behindSum_311 : mm_pw q_X10_behindSum 311 10 30 := ⟨⟨by decide, by decide⟩, Or.inl ⟨rfl, Or.inl (mm_u5 61 rfl rfl)⟩⟩
theorem pw_X10_behindTest_289 : mm_pw q_X10_behindTest 289 10 29 := ⟨⟨by decide, by decide⟩, Or.inl ⟨rfl, Or.inl (mm_u5 60 rfl rfl)⟩⟩
theorem pw_X10_behindTest_311 : mm_pw q_X10_behindTest 311 10 30 := ⟨⟨by decide, by decide⟩, Or.inl ⟨rfl, Or.inl (mm_u5 61 rfl rfl)⟩⟩
theorem pw_X10_blots_160 : mm_pw q_X10_blots 160 10 0 := ⟨⟨by decide, by decide⟩, Or.inl ⟨rfl, Or.inl (mm_u5 31 rfl rfl)⟩⟩
theorem pw_X10_change_163 : mm_pw q_X10_change 163 10 1 := ⟨⟨by decide, by decide⟩, Or.inl ⟨rfl, Or.inl (mm_u5 32 rfl rfl)⟩⟩
theorem pw_X10_child_160 : mm_pw q_X10_child 160 10 0 := ⟨⟨by decide, by decide⟩, Or.inl ⟨rfl, Or.inl (mm_u5 31 rfl rfl)⟩⟩
theorem pw_X10_clashes_160 : mm_pw q_X10_clashes 160 10 0 := ⟨⟨by decide, by decide⟩, Or.inl ⟨rfl, Or.inl (mm_u5 31 rfl rfl)⟩⟩
theorem pw_X10_compare_160 : mm_pw q_X10_compare 160 10 0 := ⟨⟨by decide, by decide⟩, Or.inl ⟨rfl, Or.inl (mm_u5 31 rfl rfl)⟩⟩
theorem pw_X10_count_160 : mm_pw q_X10_count 160 10 0 := ⟨⟨by decide, by decide⟩, Or.inl ⟨rfl, Or.inl (mm_u5 31 rfl rfl)⟩⟩
theorem pw_X10_draw_533 : mm_pw q_X10_draw 533 10 54 := ⟨⟨by decide, by decide⟩, Or.inl ⟨rfl, Or.inl (mm_u5 85 rfl rfl)⟩⟩
theorem pw_X10_drawn_160 : mm_pw q_X10_drawn 160 10 0 := ⟨⟨by decide, by decide⟩, Or.inl ⟨rfl, Or.inl (mm_u5 31 rfl rfl)⟩⟩
theorem pw_X10_emit_286 : mm_pw q_X10_emit 286 10 23 := ⟨⟨by decide, by decide⟩, Or.inl ⟨rfl, Or.inl (mm_u5 54 rfl rfl)⟩⟩
theorem pw_X10_end_160 : mm_pw q_X10_end 160 10 0 := ⟨⟨by decide, by decide⟩, Or.inl ⟨rfl, Or.inl (mm_u5 31 rfl rfl)⟩⟩
theorem pw_X10_end_237 : mm_pw q_X10_end 237 10 13 := ⟨⟨by decide, by decide⟩, Or.inl ⟨rfl, Or.inl (mm_u5 44 rfl rfl)⟩⟩
theorem pw_X10_endText_237 : mm_pw q_X10_endText 237 10 13 := ⟨⟨by decide, by decide⟩, Or.inl ⟨rfl, Or.inl (mm_u5 44 rfl rfl)⟩⟩
theorem pw_X10_endText_326 : mm_pw q_X10_endText 326 10 20 := ⟨⟨by decide, by decide⟩, Or.inl ⟨rfl, Or.inl (mm_u5 51 rfl rfl)⟩⟩
theorem pw_X10_fault_160 : mm_pw q_X10_fault 160 10 0 := ⟨⟨by decide, by decide⟩, Or.inl ⟨rfl, Or.inl (mm_u5 31 rfl rfl)⟩⟩
theorem pw_X10_feed_160 : mm_pw q_X10_feed 160 10 0 := ⟨⟨by decide, by decide⟩, Or.inl ⟨rfl, Or.inl (mm_u5 31 rfl rfl)⟩⟩
theorem pw_X10_few_160 : mm_pw q_X10_few 160 10 0 := ⟨⟨by decide, by decide⟩, Or.inl ⟨rfl, Or.inl (mm_u5 31 rfl rfl)⟩⟩
theorem pw_X10_force_160 : mm_pw q_X10_force 160 10 0 := ⟨⟨by decide, by decide⟩, Or.inl ⟨rfl, Or.inl (mm_u5 31 rfl rfl)⟩⟩
theorem pw_X10_forget_160 : mm_pw q_X10_forget 160 10 0 := ⟨⟨by decide, by decide⟩, Or.inl ⟨rfl, Or.inl (mm_u5 31 rfl rfl)⟩⟩
theorem pw_X10_four_237 : mm_pw q_X10_four 237 10 13 := ⟨⟨by decide, by decide⟩, Or.inl ⟨rfl, Or.inl (mm_u5 44 rfl rfl)⟩⟩
theorem pw_X10_giveBack_166 : mm_pw q_X10_giveBack 166 10 8 := ⟨⟨by decide, by decide⟩, Or.inl ⟨rfl, Or.inl (mm_u5 39 rfl rfl)⟩⟩
theorem pw_X10_heard_160 : mm_pw q_X10_heard 160 10 0 := ⟨⟨by decide, by decide⟩, Or.inl ⟨rfl, Or.inl (mm_u5 31 rfl rfl)⟩⟩
theorem pw_X10_image_160 : mm_pw q_X10_image 160 10 0 := ⟨⟨by decide, by decide⟩, Or.inl ⟨rfl, Or.inl (mm_u5 31 rfl rfl)⟩⟩
theorem pw_X10_init_7 : mm_pw q_X10_init 7 10 2 := ⟨⟨by decide, by decide⟩, Or.inr ⟨rfl, rfl, rfl, mm_u5 33 rfl rfl⟩⟩
theorem pw_X10_init_13 : mm_pw q_X10_init 13 10 3 := ⟨⟨by decide, by decide⟩, Or.inr ⟨rfl, rfl, rfl, mm_u5 34 rfl rfl⟩⟩
theorem pw_X10_init_16 : mm_pw q_X10_init 16 10 4 := ⟨⟨by decide, by decide⟩, Or.inr ⟨rfl, rfl, rfl, mm_u5 35 rfl rfl⟩⟩
theorem pw_X10_init_19 : mm_pw q_X10_init 19 10 5 := ⟨⟨by decide, by decide⟩, Or.inr ⟨rfl, rfl, rfl, mm_u5 36 rfl rfl⟩⟩
theorem pw_X10_init_23 : mm_pw q_X10_init 23 10 6 := ⟨⟨by decide, by decide⟩, Or.inr ⟨rfl, rfl, rfl, mm_u5 37 rfl rfl⟩⟩
theorem pw_X10_init_26 : mm_pw q_X10_init 26 10 7 := ⟨⟨by decide, by decide⟩, Or.inr ⟨rfl, rfl, rfl, mm_u5 38 rfl rfl⟩⟩
theorem pw_X10_init_29 : mm_pw q_X10_init 29 10 9 := ⟨⟨by decide, by decide⟩, Or.inr ⟨rfl, rfl, rfl, mm_u5 40 rfl rfl⟩⟩
theorem pw_X10_init_32 : mm_pw q_X10_init 32 10 10 := ⟨⟨by decide, by decide⟩, Or.inr ⟨rfl, rfl, rfl, mm_u5 41 rfl rfl⟩⟩
theorem pw_X10_init_35 : mm_pw q_X10_init 35 10 12 := ⟨⟨by decide, by decide⟩, Or.inr ⟨rfl, rfl, rfl, mm_u5 43 rfl rfl⟩⟩
theorem pw_X10_init_38 : mm_pw q_X10_init 38 10 18 := ⟨⟨by decide, by decide⟩, Or.inl ⟨rfl, Or.inl (mm_u5 49 rfl rfl)⟩⟩
theorem pw_X10_init_42 : mm_pw q_X10_init 42 10 22 := ⟨⟨by decide, by decide⟩, Or.inr ⟨rfl, rfl, rfl, mm_u5 53 rfl rfl⟩⟩
theorem pw_X10_init_45 : mm_pw q_X10_init 45 10 24 := ⟨⟨by decide, by decide⟩, Or.inr ⟨rfl, rfl, rfl, mm_u5 55 rfl rfl⟩⟩
theorem pw_X10_init_48 : mm_pw q_X10_init 48 10 25 := ⟨⟨by decide, by decide⟩, Or.inr ⟨rfl, rfl, rfl, mm_u5 56 rfl rfl⟩⟩
theorem pw_X10_init_51 : mm_pw q_X10_init 51 10 27 := ⟨⟨by decide, by decide⟩, Or.inr ⟨rfl, rfl, rfl, mm_u5 58 rfl rfl⟩⟩
theorem pw_X10_init_54 : mm_pw q_X10_init 54 10 28 := ⟨⟨by decide, by decide⟩, Or.inr ⟨rfl, rfl, rfl, mm_u5 59 rfl rfl⟩⟩
theorem pw_X10_init_77 : mm_pw q_X10_init 77 10 31 := ⟨⟨by decide, by decide⟩, Or.inr ⟨rfl, rfl, rfl, mm_u5 62 rfl rfl⟩⟩
theorem pw_X10_init_87 : mm_pw q_X10_init 87 10 32 := ⟨⟨by decide, by decide⟩, Or.inr ⟨rfl, rfl, rfl, mm_u5 63 rfl rfl⟩⟩
theorem pw_X10_init_98 : mm_pw q_X10_init 98 10 33 := ⟨⟨by decide, by decide⟩, Or.inr ⟨rfl, rfl, rfl, mm_u5 64 rfl rfl⟩⟩
theorem pw_X10_init_101 : mm_pw q_X10_init 101 10 35 := ⟨⟨by decide, by decide⟩, Or.inr ⟨rfl, rfl, rfl, mm_u5 66 rfl rfl⟩⟩
theorem pw_X10_init_104 : mm_pw q_X10_init 104 10 36 := ⟨⟨by decide, by decide⟩, Or.inr ⟨rfl, rfl, rfl, mm_u5 67 rfl rfl⟩⟩
theorem pw_X10_init_107 : mm_pw q_X10_init 107 10 37 := ⟨⟨by decide, by decide⟩, Or.inr ⟨rfl, rfl, rfl, mm_u5 68 rfl rfl⟩⟩
theorem pw_X10_init_110 : mm_pw q_X10_init 110 10 41 := ⟨⟨by decide, by decide⟩, Or.inr ⟨rfl, rfl, rfl, mm_u5 72 rfl rfl⟩⟩
theorem pw_X10_init_113 : mm_pw q_X10_init 113 10 42 := ⟨⟨by decide, by decide⟩, Or.inr ⟨rfl, rfl, rfl, mm_u5 73 rfl rfl⟩⟩
theorem pw_X10_init_116 : mm_pw q_X10_init 116 10 43 := ⟨⟨by decide, by decide⟩, Or.inr ⟨rfl, rfl, rfl, mm_u5 74 rfl rfl⟩⟩
theorem pw_X10_init_119 : mm_pw q_X10_init 119 10 44 := ⟨⟨by decide, by decide⟩, Or.inr ⟨rfl, rfl, rfl, mm_u5 75 rfl rfl⟩⟩
theorem pw_X10_init_122 : mm_pw q_X10_init 122 10 45 := ⟨⟨by decide, by decide⟩, Or.inr ⟨rfl, rfl, rfl, mm_u5 76 rfl rfl⟩⟩
theorem pw_X10_init_125 : mm_pw q_X10_init 125 10 46 := ⟨⟨by decide, by decide⟩, Or.inr ⟨rfl, rfl, rfl, mm_u5 77 rfl rfl⟩⟩
theorem pw_X10_init_136 : mm_pw q_X10_init 136 10 47 := ⟨⟨by decide, by decide⟩, Or.inr ⟨rfl, rfl, rfl, mm_u5 78 rfl rfl⟩⟩
theorem pw_X10_init_145 : mm_pw q_X10_init 145 10 48 := ⟨⟨by decide, by decide⟩, Or.inr ⟨rfl, rfl, rfl, mm_u5 79 rfl rfl⟩⟩
theorem pw_X10_init_148 : mm_pw q_X10_init 148 10 49 := ⟨⟨by decide, by decide⟩, Or.inr ⟨rfl, rfl, rfl, mm_u5 80 rfl rfl⟩⟩
theorem pw_X10_init_151 : mm_pw q_X10_init 151 10 52 := ⟨⟨by decide, by decide⟩, Or.inl ⟨rfl, Or.inl (mm_u5 83 rfl rfl)⟩⟩
theorem pw_X10_init_154 : mm_pw q_X10_init 154 10 55 := ⟨⟨by decide, by decide⟩, Or.inr ⟨rfl, rfl, rfl, mm_u5 86 rfl rfl⟩⟩
theorem pw_X10_init_157 : mm_pw q_X10_init 157 10 56 := ⟨⟨by decide, by decide⟩, Or.inl ⟨rfl, Or.inl (mm_u5 87 rfl rfl)⟩⟩
theorem pw_X10_isSo_420 : mm_pw q_X10_isSo 420 10 40 := ⟨⟨by decide, by decide⟩, Or.inl ⟨rfl, Or.inl (mm_u5 71 rfl rfl)⟩⟩
theorem pw_X10_later_160 : mm_pw q_X10_later 160 10 0 := ⟨⟨by decide, by decide⟩, Or.inl ⟨rfl, Or.inl (mm_u5 31 rfl rfl)⟩⟩
theorem pw_X10_law_160 : mm_pw q_X10_law 160 10 0 := ⟨⟨by decide, by decide⟩, Or.inl ⟨rfl, Or.inl (mm_u5 31 rfl rfl)⟩⟩
theorem pw_X10_law_237 : mm_pw q_X10_law 237 10 13 := ⟨⟨by decide, by decide⟩, Or.inl ⟨rfl, Or.inl (mm_u5 44 rfl rfl)⟩⟩
theorem pw_X10_leaf_317 : mm_pw q_X10_leaf 317 10 26 := ⟨⟨by decide, by decide⟩, Or.inl ⟨rfl, Or.inl (mm_u5 57 rfl rfl)⟩⟩
theorem pw_X10_lesson_160 : mm_pw q_X10_lesson 160 10 0 := ⟨⟨by decide, by decide⟩, Or.inl ⟨rfl, Or.inl (mm_u5 31 rfl rfl)⟩⟩
theorem pw_X10_letter_160 : mm_pw q_X10_letter 160 10 0 := ⟨⟨by decide, by decide⟩, Or.inl ⟨rfl, Or.inl (mm_u5 31 rfl rfl)⟩⟩
theorem pw_X10_likest_160 : mm_pw q_X10_likest 160 10 0 := ⟨⟨by decide, by decide⟩, Or.inl ⟨rfl, Or.inl (mm_u5 31 rfl rfl)⟩⟩
theorem pw_X10_lose_160 : mm_pw q_X10_lose 160 10 0 := ⟨⟨by decide, by decide⟩, Or.inl ⟨rfl, Or.inl (mm_u5 31 rfl rfl)⟩⟩
theorem pw_X10_lost_160 : mm_pw q_X10_lost 160 10 0 := ⟨⟨by decide, by decide⟩, Or.inl ⟨rfl, Or.inl (mm_u5 31 rfl rfl)⟩⟩
theorem pw_X10_matched_160 : mm_pw q_X10_matched 160 10 0 := ⟨⟨by decide, by decide⟩, Or.inl ⟨rfl, Or.inl (mm_u5 31 rfl rfl)⟩⟩
theorem pw_X10_must_38 : mm_pw q_X10_must 38 10 18 := ⟨⟨by decide, by decide⟩, Or.inl ⟨rfl, Or.inl (mm_u5 49 rfl rfl)⟩⟩
theorem pw_X10_must_249 : mm_pw q_X10_must 249 10 19 := ⟨⟨by decide, by decide⟩, Or.inl ⟨rfl, Or.inl (mm_u5 50 rfl rfl)⟩⟩
theorem pw_X10_next_246 : mm_pw q_X10_next 246 10 15 := ⟨⟨by decide, by decide⟩, Or.inl ⟨rfl, Or.inl (mm_u5 46 rfl rfl)⟩⟩
theorem pw_X10_next_256 : mm_pw q_X10_next 256 10 14 := ⟨⟨by decide, by decide⟩, Or.inl ⟨rfl, Or.inl (mm_u5 45 rfl rfl)⟩⟩
theorem pw_X10_next_259 : mm_pw q_X10_next 259 10 17 := ⟨⟨by decide, by decide⟩, Or.inl ⟨rfl, Or.inl (mm_u5 48 rfl rfl)⟩⟩
theorem pw_X10_next_269 : mm_pw q_X10_next 269 10 16 := ⟨⟨by decide, by decide⟩, Or.inl ⟨rfl, Or.inl (mm_u5 47 rfl rfl)⟩⟩
theorem pw_X10_of_160 : mm_pw q_X10_of 160 10 0 := ⟨⟨by decide, by decide⟩, Or.inl ⟨rfl, Or.inl (mm_u5 31 rfl rfl)⟩⟩
theorem pw_X10_openBracket_311 : mm_pw q_X10_openBracket 311 10 30 := ⟨⟨by decide, by decide⟩, Or.inl ⟨rfl, Or.inl (mm_u5 61 rfl rfl)⟩⟩
theorem pw_X10_orders_151 : mm_pw q_X10_orders 151 10 52 := ⟨⟨by decide, by decide⟩, Or.inl ⟨rfl, Or.inl (mm_u5 83 rfl rfl)⟩⟩
theorem pw_X10_orders_160 : mm_pw q_X10_orders 160 10 0 := ⟨⟨by decide, by decide⟩, Or.inl ⟨rfl, Or.inl (mm_u5 31 rfl rfl)⟩⟩
theorem pw_X10_orders_509 : mm_pw q_X10_orders 509 10 50 := ⟨⟨by decide, by decide⟩, Or.inl ⟨rfl, Or.inl (mm_u5 81 rfl rfl)⟩⟩
theorem pw_X10_orders_512 : mm_pw q_X10_orders 512 10 51 := ⟨⟨by decide, by decide⟩, Or.inl ⟨rfl, Or.inl (mm_u5 82 rfl rfl)⟩⟩
theorem pw_X10_pass_160 : mm_pw q_X10_pass 160 10 0 := ⟨⟨by decide, by decide⟩, Or.inl ⟨rfl, Or.inl (mm_u5 31 rfl rfl)⟩⟩
theorem pw_X10_push_289 : mm_pw q_X10_push 289 10 29 := ⟨⟨by decide, by decide⟩, Or.inl ⟨rfl, Or.inl (mm_u5 60 rfl rfl)⟩⟩
theorem pw_X10_read_160 : mm_pw q_X10_read 160 10 0 := ⟨⟨by decide, by decide⟩, Or.inl ⟨rfl, Or.inl (mm_u5 31 rfl rfl)⟩⟩
theorem pw_X10_readExpression_289 : mm_pw q_X10_readExpression 289 10 29 := ⟨⟨by decide, by decide⟩, Or.inl ⟨rfl, Or.inl (mm_u5 60 rfl rfl)⟩⟩
theorem pw_X10_readExpression_311 : mm_pw q_X10_readExpression 311 10 30 := ⟨⟨by decide, by decide⟩, Or.inl ⟨rfl, Or.inl (mm_u5 61 rfl rfl)⟩⟩
theorem pw_X10_readLaw_380 : mm_pw q_X10_readLaw 380 10 21 := ⟨⟨by decide, by decide⟩, Or.inl ⟨rfl, Or.inl (mm_u5 52 rfl rfl)⟩⟩
theorem pw_X10_readOrder_380 : mm_pw q_X10_readOrder 380 10 21 := ⟨⟨by decide, by decide⟩, Or.inl ⟨rfl, Or.inl (mm_u5 52 rfl rfl)⟩⟩
theorem pw_X10_reckon_400 : mm_pw q_X10_reckon 400 10 38 := ⟨⟨by decide, by decide⟩, Or.inl ⟨rfl, Or.inl (mm_u5 69 rfl rfl)⟩⟩
theorem pw_X10_reckonAll_400 : mm_pw q_X10_reckonAll 400 10 38 := ⟨⟨by decide, by decide⟩, Or.inl ⟨rfl, Or.inl (mm_u5 69 rfl rfl)⟩⟩
theorem pw_X10_reckonAll_414 : mm_pw q_X10_reckonAll 414 10 39 := ⟨⟨by decide, by decide⟩, Or.inl ⟨rfl, Or.inl (mm_u5 70 rfl rfl)⟩⟩
theorem pw_X10_remember_166 : mm_pw q_X10_remember 166 10 8 := ⟨⟨by decide, by decide⟩, Or.inl ⟨rfl, Or.inl (mm_u5 39 rfl rfl)⟩⟩
theorem pw_X10_row_160 : mm_pw q_X10_row 160 10 0 := ⟨⟨by decide, by decide⟩, Or.inl ⟨rfl, Or.inl (mm_u5 31 rfl rfl)⟩⟩
theorem pw_X10_row_237 : mm_pw q_X10_row 237 10 13 := ⟨⟨by decide, by decide⟩, Or.inl ⟨rfl, Or.inl (mm_u5 44 rfl rfl)⟩⟩
theorem pw_X10_row_240 : mm_pw q_X10_row 240 10 11 := ⟨⟨by decide, by decide⟩, Or.inl ⟨rfl, Or.inl (mm_u5 42 rfl rfl)⟩⟩
theorem pw_X10_run_506 : mm_pw q_X10_run 506 10 53 := ⟨⟨by decide, by decide⟩, Or.inl ⟨rfl, Or.inl (mm_u5 84 rfl rfl)⟩⟩
theorem pw_X10_run_509 : mm_pw q_X10_run 509 10 50 := ⟨⟨by decide, by decide⟩, Or.inl ⟨rfl, Or.inl (mm_u5 81 rfl rfl)⟩⟩
theorem pw_X10_run_512 : mm_pw q_X10_run 512 10 51 := ⟨⟨by decide, by decide⟩, Or.inl ⟨rfl, Or.inl (mm_u5 82 rfl rfl)⟩⟩
theorem pw_X10_schools_157 : mm_pw q_X10_schools 157 10 56 := ⟨⟨by decide, by decide⟩, Or.inl ⟨rfl, Or.inl (mm_u5 87 rfl rfl)⟩⟩
theorem pw_X10_schools_160 : mm_pw q_X10_schools 160 10 0 := ⟨⟨by decide, by decide⟩, Or.inl ⟨rfl, Or.inl (mm_u5 31 rfl rfl)⟩⟩
theorem pw_X10_schools_533 : mm_pw q_X10_schools 533 10 54 := ⟨⟨by decide, by decide⟩, Or.inl ⟨rfl, Or.inl (mm_u5 85 rfl rfl)⟩⟩
theorem pw_X10_settle_289 : mm_pw q_X10_settle 289 10 29 := ⟨⟨by decide, by decide⟩, Or.inl ⟨rfl, Or.inl (mm_u5 60 rfl rfl)⟩⟩
theorem pw_X10_settled_166 : mm_pw q_X10_settled 166 10 8 := ⟨⟨by decide, by decide⟩, Or.inl ⟨rfl, Or.inl (mm_u5 39 rfl rfl)⟩⟩
theorem pw_X10_status_160 : mm_pw q_X10_status 160 10 0 := ⟨⟨by decide, by decide⟩, Or.inl ⟨rfl, Or.inl (mm_u5 31 rfl rfl)⟩⟩
theorem pw_X10_stopped_160 : mm_pw q_X10_stopped 160 10 0 := ⟨⟨by decide, by decide⟩, Or.inl ⟨rfl, Or.inl (mm_u5 31 rfl rfl)⟩⟩
theorem pw_X10_sumOf_326 : mm_pw q_X10_sumOf 326 10 20 := ⟨⟨by decide, by decide⟩, Or.inl ⟨rfl, Or.inl (mm_u5 51 rfl rfl)⟩⟩
theorem pw_X10_sumOf_506 : mm_pw q_X10_sumOf 506 10 53 := ⟨⟨by decide, by decide⟩, Or.inl ⟨rfl, Or.inl (mm_u5 84 rfl rfl)⟩⟩
theorem pw_X10_tell_163 : mm_pw q_X10_tell 163 10 1 := ⟨⟨by decide, by decide⟩, Or.inl ⟨rfl, Or.inl (mm_u5 32 rfl rfl)⟩⟩
theorem pw_X10_tells_403 : mm_pw q_X10_tells 403 10 34 := ⟨⟨by decide, by decide⟩, Or.inl ⟨rfl, Or.inl (mm_u5 65 rfl rfl)⟩⟩
theorem pw_X10_terms_160 : mm_pw q_X10_terms 160 10 0 := ⟨⟨by decide, by decide⟩, Or.inl ⟨rfl, Or.inl (mm_u5 31 rfl rfl)⟩⟩
theorem pw_X10_terms_166 : mm_pw q_X10_terms 166 10 8 := ⟨⟨by decide, by decide⟩, Or.inl ⟨rfl, Or.inl (mm_u5 39 rfl rfl)⟩⟩
theorem pw_X10_together_160 : mm_pw q_X10_together 160 10 0 := ⟨⟨by decide, by decide⟩, Or.inl ⟨rfl, Or.inl (mm_u5 31 rfl rfl)⟩⟩
theorem pw_X10_told_160 : mm_pw q_X10_told 160 10 0 := ⟨⟨by decide, by decide⟩, Or.inl ⟨rfl, Or.inl (mm_u5 31 rfl rfl)⟩⟩
theorem pw_X10_undo_160 : mm_pw q_X10_undo 160 10 0 := ⟨⟨by decide, by decide⟩, Or.inl ⟨rfl, Or.inl (mm_u5 31 rfl rfl)⟩⟩
theorem pw_X10_undo_166 : mm_pw q_X10_undo 166 10 8 := ⟨⟨by decide, by decide⟩, Or.inl ⟨rfl, Or.inl (mm_u5 39 rfl rfl)⟩⟩
theorem pw_X1_addChild_65 : mm_pw q_X1_addChild 65 1 6 := ⟨⟨by decide, by decide⟩, Or.inl ⟨rfl, Or.inl (mm_u1 68 rfl rfl)⟩⟩
theorem pw_X1_addLaw_71 : mm_pw q_X1_addLaw 71 1 14 := ⟨⟨by decide, by decide⟩, Or.inl ⟨rfl, Or.inl (mm_u1 93 rfl rfl)⟩⟩
theorem pw_X1_addLetter_53 : mm_pw q_X1_addLetter 53 1 1 := ⟨⟨by decide, by decide⟩, Or.inl ⟨rfl, Or.inl (mm_u1 51 rfl rfl)⟩⟩
theorem pw_X1_addTelling_68 : mm_pw q_X1_addTelling 68 1 10 := ⟨⟨by decide, by decide⟩, Or.inl ⟨rfl, Or.inl (mm_u1 83 rfl rfl)⟩⟩
theorem pw_X1_copyFrom_49 : mm_pw q_X1_copyFrom 49 1 16 := ⟨⟨by decide, by decide⟩, Or.inl ⟨rfl, Or.inl (mm_u1 97 rfl rfl)⟩⟩
theorem pw_X1_copyFrom_53 : mm_pw q_X1_copyFrom 53 1 1 := ⟨⟨by decide, by decide⟩, Or.inl ⟨rfl, Or.inl (mm_u1 51 rfl rfl)⟩⟩
theorem pw_X1_copyFrom_62 : mm_pw q_X1_copyFrom 62 1 5 := ⟨⟨by decide, by decide⟩, Or.inl ⟨rfl, Or.inl (mm_u1 65 rfl rfl)⟩⟩
theorem pw_X1_copyFrom_65 : mm_pw q_X1_copyFrom 65 1 6 := ⟨⟨by decide, by decide⟩, Or.inl ⟨rfl, Or.inl (mm_u1 68 rfl rfl)⟩⟩
theorem pw_X1_copyFrom_68 : mm_pw q_X1_copyFrom 68 1 10 := ⟨⟨by decide, by decide⟩, Or.inl ⟨rfl, Or.inl (mm_u1 83 rfl rfl)⟩⟩
theorem pw_X1_copyFrom_71 : mm_pw q_X1_copyFrom 71 1 14 := ⟨⟨by decide, by decide⟩, Or.inl ⟨rfl, Or.inl (mm_u1 93 rfl rfl)⟩⟩
theorem pw_X1_init_9 : mm_pw q_X1_init 9 1 0 := ⟨⟨by decide, by decide⟩, Or.inr ⟨rfl, rfl, rfl, mm_u1 50 rfl rfl⟩⟩
theorem pw_X1_init_15 : mm_pw q_X1_init 15 1 2 := ⟨⟨by decide, by decide⟩, Or.inr ⟨rfl, rfl, rfl, mm_u1 55 rfl rfl⟩⟩
theorem pw_X1_init_19 : mm_pw q_X1_init 19 1 3 := ⟨⟨by decide, by decide⟩, Or.inr ⟨rfl, rfl, rfl, mm_u1 58 rfl rfl⟩⟩
theorem pw_X1_init_22 : mm_pw q_X1_init 22 1 4 := ⟨⟨by decide, by decide⟩, Or.inr ⟨rfl, rfl, rfl, mm_u1 62 rfl rfl⟩⟩
theorem pw_X1_init_25 : mm_pw q_X1_init 25 1 7 := ⟨⟨by decide, by decide⟩, Or.inr ⟨rfl, rfl, rfl, mm_u1 71 rfl rfl⟩⟩
theorem pw_X1_init_28 : mm_pw q_X1_init 28 1 8 := ⟨⟨by decide, by decide⟩, Or.inr ⟨rfl, rfl, rfl, mm_u1 76 rfl rfl⟩⟩
theorem pw_X1_init_31 : mm_pw q_X1_init 31 1 9 := ⟨⟨by decide, by decide⟩, Or.inr ⟨rfl, rfl, rfl, mm_u1 79 rfl rfl⟩⟩
theorem pw_X1_init_34 : mm_pw q_X1_init 34 1 11 := ⟨⟨by decide, by decide⟩, Or.inr ⟨rfl, rfl, rfl, mm_u1 85 rfl rfl⟩⟩
theorem pw_X1_init_37 : mm_pw q_X1_init 37 1 12 := ⟨⟨by decide, by decide⟩, Or.inr ⟨rfl, rfl, rfl, mm_u1 86 rfl rfl⟩⟩
theorem pw_X1_init_40 : mm_pw q_X1_init 40 1 13 := ⟨⟨by decide, by decide⟩, Or.inr ⟨rfl, rfl, rfl, mm_u1 87 rfl rfl⟩⟩
theorem pw_X1_init_45 : mm_pw q_X1_init 45 1 15 := ⟨⟨by decide, by decide⟩, Or.inr ⟨rfl, rfl, rfl, mm_u1 95 rfl rfl⟩⟩
theorem pw_X1_init_49 : mm_pw q_X1_init 49 1 16 := ⟨⟨by decide, by decide⟩, Or.inl ⟨rfl, Or.inl (mm_u1 97 rfl rfl)⟩⟩
theorem pw_X1_perform_62 : mm_pw q_X1_perform 62 1 5 := ⟨⟨by decide, by decide⟩, Or.inl ⟨rfl, Or.inl (mm_u1 65 rfl rfl)⟩⟩
theorem pw_X2_init_9 : mm_pw q_X2_init 9 2 0 := ⟨⟨by decide, by decide⟩, Or.inr ⟨rfl, rfl, rfl, mm_u2 34 rfl rfl⟩⟩
theorem pw_X2_init_15 : mm_pw q_X2_init 15 2 1 := ⟨⟨by decide, by decide⟩, Or.inr ⟨rfl, rfl, rfl, mm_u2 35 rfl rfl⟩⟩
theorem pw_X2_init_19 : mm_pw q_X2_init 19 2 2 := ⟨⟨by decide, by decide⟩, Or.inr ⟨rfl, rfl, rfl, mm_u2 36 rfl rfl⟩⟩
theorem pw_X2_init_23 : mm_pw q_X2_init 23 2 3 := ⟨⟨by decide, by decide⟩, Or.inr ⟨rfl, rfl, rfl, mm_u2 38 rfl rfl⟩⟩
theorem pw_X2_init_26 : mm_pw q_X2_init 26 2 4 := ⟨⟨by decide, by decide⟩, Or.inr ⟨rfl, rfl, rfl, mm_u2 39 rfl rfl⟩⟩
theorem pw_X2_init_29 : mm_pw q_X2_init 29 2 5 := ⟨⟨by decide, by decide⟩, Or.inr ⟨rfl, rfl, rfl, mm_u2 40 rfl rfl⟩⟩
theorem pw_X2_init_32 : mm_pw q_X2_init 32 2 6 := ⟨⟨by decide, by decide⟩, Or.inr ⟨rfl, rfl, rfl, mm_u2 41 rfl rfl⟩⟩
theorem pw_X2_init_35 : mm_pw q_X2_init 35 2 7 := ⟨⟨by decide, by decide⟩, Or.inr ⟨rfl, rfl, rfl, mm_u2 42 rfl rfl⟩⟩
theorem pw_X2_init_38 : mm_pw q_X2_init 38 2 8 := ⟨⟨by decide, by decide⟩, Or.inr ⟨rfl, rfl, rfl, mm_u2 44 rfl rfl⟩⟩
theorem pw_X2_init_41 : mm_pw q_X2_init 41 2 9 := ⟨⟨by decide, by decide⟩, Or.inr ⟨rfl, rfl, rfl, mm_u2 45 rfl rfl⟩⟩
theorem pw_X2_init_44 : mm_pw q_X2_init 44 2 10 := ⟨⟨by decide, by decide⟩, Or.inr ⟨rfl, rfl, rfl, mm_u2 46 rfl rfl⟩⟩
theorem pw_X2_init_47 : mm_pw q_X2_init 47 2 11 := ⟨⟨by decide, by decide⟩, Or.inr ⟨rfl, rfl, rfl, mm_u2 47 rfl rfl⟩⟩
theorem pw_X2_init_50 : mm_pw q_X2_init 50 2 12 := ⟨⟨by decide, by decide⟩, Or.inr ⟨rfl, rfl, rfl, mm_u2 49 rfl rfl⟩⟩
theorem pw_X3_init_14 : mm_pw q_X3_init 14 3 0 := ⟨⟨by decide, by decide⟩, Or.inr ⟨rfl, rfl, rfl, mm_u2 10 rfl rfl⟩⟩
theorem pw_X3_init_25 : mm_pw q_X3_init 25 3 1 := ⟨⟨by decide, by decide⟩, Or.inr ⟨rfl, rfl, rfl, mm_u2 11 rfl rfl⟩⟩
theorem pw_X3_init_29 : mm_pw q_X3_init 29 3 4 := ⟨⟨by decide, by decide⟩, Or.inl ⟨rfl, Or.inl (mm_u2 15 rfl rfl)⟩⟩
theorem pw_X3_stop_29 : mm_pw q_X3_stop 29 3 4 := ⟨⟨by decide, by decide⟩, Or.inl ⟨rfl, Or.inl (mm_u2 15 rfl rfl)⟩⟩
theorem pw_X3_take_29 : mm_pw q_X3_take 29 3 4 := ⟨⟨by decide, by decide⟩, Or.inl ⟨rfl, Or.inl (mm_u2 15 rfl rfl)⟩⟩
theorem pw_X3_take_33 : mm_pw q_X3_take 33 3 2 := ⟨⟨by decide, by decide⟩, Or.inl ⟨rfl, Or.inl (mm_u2 13 rfl rfl)⟩⟩
theorem pw_X3_take_37 : mm_pw q_X3_take 37 3 3 := ⟨⟨by decide, by decide⟩, Or.inl ⟨rfl, Or.inl (mm_u2 14 rfl rfl)⟩⟩
theorem pw_X3_takePart_37 : mm_pw q_X3_takePart 37 3 3 := ⟨⟨by decide, by decide⟩, Or.inl ⟨rfl, Or.inl (mm_u2 14 rfl rfl)⟩⟩
theorem pw_X4_draw_24 : mm_pw q_X4_draw 24 4 1 := ⟨⟨by decide, by decide⟩, Or.inl ⟨rfl, Or.inl (mm_u2 88 rfl rfl)⟩⟩
theorem pw_X4_hold_24 : mm_pw q_X4_hold 24 4 1 := ⟨⟨by decide, by decide⟩, Or.inl ⟨rfl, Or.inl (mm_u2 88 rfl rfl)⟩⟩
theorem pw_X4_init_14 : mm_pw q_X4_init 14 4 0 := ⟨⟨by decide, by decide⟩, Or.inr ⟨rfl, rfl, rfl, mm_u2 86 rfl rfl⟩⟩
theorem pw_X5_append_15 : mm_pw q_X5_append 15 5 1 := ⟨⟨by decide, by decide⟩, Or.inl ⟨rfl, Or.inl (mm_u1 159 rfl rfl)⟩⟩
theorem pw_X5_init_9 : mm_pw q_X5_init 9 5 0 := ⟨⟨by decide, by decide⟩, Or.inr ⟨rfl, rfl, rfl, mm_u1 156 rfl rfl⟩⟩
theorem pw_X6_clear_33 : mm_pw q_X6_clear 33 6 0 := ⟨⟨by decide, by decide⟩, Or.inl ⟨rfl, Or.inl (mm_u1 204 rfl rfl)⟩⟩
theorem pw_X6_clear_37 : mm_pw q_X6_clear 37 6 6 := ⟨⟨by decide, by decide⟩, Or.inl ⟨rfl, Or.inl (mm_u1 224 rfl rfl)⟩⟩
theorem pw_X6_compact_33 : mm_pw q_X6_compact 33 6 0 := ⟨⟨by decide, by decide⟩, Or.inl ⟨rfl, Or.inl (mm_u1 204 rfl rfl)⟩⟩
theorem pw_X6_compact_37 : mm_pw q_X6_compact 37 6 6 := ⟨⟨by decide, by decide⟩, Or.inl ⟨rfl, Or.inl (mm_u1 224 rfl rfl)⟩⟩
theorem pw_X6_emit_37 : mm_pw q_X6_emit 37 6 6 := ⟨⟨by decide, by decide⟩, Or.inl ⟨rfl, Or.inl (mm_u1 224 rfl rfl)⟩⟩
theorem pw_X6_init_9 : mm_pw q_X6_init 9 6 1 := ⟨⟨by decide, by decide⟩, Or.inr ⟨rfl, rfl, rfl, mm_u1 207 rfl rfl⟩⟩
theorem pw_X6_init_15 : mm_pw q_X6_init 15 6 2 := ⟨⟨by decide, by decide⟩, Or.inr ⟨rfl, rfl, rfl, mm_u1 210 rfl rfl⟩⟩
theorem pw_X6_init_18 : mm_pw q_X6_init 18 6 3 := ⟨⟨by decide, by decide⟩, Or.inr ⟨rfl, rfl, rfl, mm_u1 214 rfl rfl⟩⟩
theorem pw_X6_init_21 : mm_pw q_X6_init 21 6 4 := ⟨⟨by decide, by decide⟩, Or.inr ⟨rfl, rfl, rfl, mm_u1 217 rfl rfl⟩⟩
theorem pw_X6_init_24 : mm_pw q_X6_init 24 6 5 := ⟨⟨by decide, by decide⟩, Or.inr ⟨rfl, rfl, rfl, mm_u1 220 rfl rfl⟩⟩
theorem pw_X6_init_27 : mm_pw q_X6_init 27 6 7 := ⟨⟨by decide, by decide⟩, Or.inr ⟨rfl, rfl, rfl, mm_u1 227 rfl rfl⟩⟩
theorem pw_X6_init_30 : mm_pw q_X6_init 30 6 8 := ⟨⟨by decide, by decide⟩, Or.inr ⟨rfl, rfl, rfl, mm_u1 229 rfl rfl⟩⟩
theorem pw_X6_open_33 : mm_pw q_X6_open 33 6 0 := ⟨⟨by decide, by decide⟩, Or.inl ⟨rfl, Or.inl (mm_u1 204 rfl rfl)⟩⟩
theorem pw_X7_advance_15 : mm_pw q_X7_advance 15 7 3 := ⟨⟨by decide, by decide⟩, Or.inl ⟨rfl, Or.inl (mm_u1 184 rfl rfl)⟩⟩
theorem pw_X7_advance_31 : mm_pw q_X7_advance 31 7 2 := ⟨⟨by decide, by decide⟩, Or.inl ⟨rfl, Or.inl (mm_u1 183 rfl rfl)⟩⟩
theorem pw_X7_advance_34 : mm_pw q_X7_advance 34 7 1 := ⟨⟨by decide, by decide⟩, Or.inl ⟨rfl, Or.inl (mm_u1 181 rfl rfl)⟩⟩
theorem pw_X7_advance_37 : mm_pw q_X7_advance 37 7 4 := ⟨⟨by decide, by decide⟩, Or.inl ⟨rfl, Or.inl (mm_u1 185 rfl rfl)⟩⟩
theorem pw_X7_begin_15 : mm_pw q_X7_begin 15 7 3 := ⟨⟨by decide, by decide⟩, Or.inl ⟨rfl, Or.inl (mm_u1 184 rfl rfl)⟩⟩
theorem pw_X7_init_9 : mm_pw q_X7_init 9 7 0 := ⟨⟨by decide, by decide⟩, Or.inr ⟨rfl, rfl, rfl, mm_u1 179 rfl rfl⟩⟩
theorem pw_X8_clear_15 : mm_pw q_X8_clear 15 8 1 := ⟨⟨by decide, by decide⟩, Or.inl ⟨rfl, Or.inl (mm_u1 142 rfl rfl)⟩⟩
theorem pw_X8_copyFrom_15 : mm_pw q_X8_copyFrom 15 8 1 := ⟨⟨by decide, by decide⟩, Or.inl ⟨rfl, Or.inl (mm_u1 142 rfl rfl)⟩⟩
theorem pw_X8_init_11 : mm_pw q_X8_init 11 8 0 := ⟨⟨by decide, by decide⟩, Or.inr ⟨rfl, rfl, rfl, mm_u1 141 rfl rfl⟩⟩
theorem pw_X8_keep_15 : mm_pw q_X8_keep 15 8 1 := ⟨⟨by decide, by decide⟩, Or.inl ⟨rfl, Or.inl (mm_u1 142 rfl rfl)⟩⟩
theorem pw_X8_takeBack_15 : mm_pw q_X8_takeBack 15 8 1 := ⟨⟨by decide, by decide⟩, Or.inl ⟨rfl, Or.inl (mm_u1 142 rfl rfl)⟩⟩
theorem pw_X8_takeBack_25 : mm_pw q_X8_takeBack 25 1 5 := ⟨⟨by decide, by decide⟩, Or.inl ⟨rfl, Or.inr ⟨"DeadLetters", mm_u1 66 rfl rfl⟩⟩⟩
theorem pw_X9_accept_307 : mm_pw q_X9_accept 307 9 12 := ⟨⟨by decide, by decide⟩, Or.inl ⟨rfl, Or.inl (mm_u2 106 rfl rfl)⟩⟩
theorem pw_X9_end_171 : mm_pw q_X9_end 171 5 1 := ⟨⟨by decide, by decide⟩, Or.inl ⟨rfl, Or.inr ⟨"DeadLetters", mm_u1 161 rfl rfl⟩⟩⟩
theorem pw_X9_force_229 : mm_pw q_X9_force 229 1 16 := ⟨⟨by decide, by decide⟩, Or.inl ⟨rfl, Or.inr ⟨"DeadLetters", mm_u1 98 rfl rfl⟩⟩⟩
theorem pw_X9_forget_249 : mm_pw q_X9_forget 249 1 10 := ⟨⟨by decide, by decide⟩, Or.inl ⟨rfl, Or.inr ⟨"DeadLetters", mm_u1 84 rfl rfl⟩⟩⟩
theorem pw_X9_init_10 : mm_pw q_X9_init 10 9 0 := ⟨⟨by decide, by decide⟩, Or.inr ⟨rfl, rfl, rfl, mm_u2 94 rfl rfl⟩⟩
theorem pw_X9_init_21 : mm_pw q_X9_init 21 9 1 := ⟨⟨by decide, by decide⟩, Or.inr ⟨rfl, rfl, rfl, mm_u2 95 rfl rfl⟩⟩
theorem pw_X9_init_25 : mm_pw q_X9_init 25 9 2 := ⟨⟨by decide, by decide⟩, Or.inr ⟨rfl, rfl, rfl, mm_u2 96 rfl rfl⟩⟩
theorem pw_X9_init_28 : mm_pw q_X9_init 28 9 3 := ⟨⟨by decide, by decide⟩, Or.inr ⟨rfl, rfl, rfl, mm_u2 97 rfl rfl⟩⟩
theorem pw_X9_init_32 : mm_pw q_X9_init 32 9 4 := ⟨⟨by decide, by decide⟩, Or.inr ⟨rfl, rfl, rfl, mm_u2 98 rfl rfl⟩⟩
theorem pw_X9_init_39 : mm_pw q_X9_init 39 9 5 := ⟨⟨by decide, by decide⟩, Or.inr ⟨rfl, rfl, rfl, mm_u2 99 rfl rfl⟩⟩
theorem pw_X9_init_43 : mm_pw q_X9_init 43 9 6 := ⟨⟨by decide, by decide⟩, Or.inr ⟨rfl, rfl, rfl, mm_u2 100 rfl rfl⟩⟩
theorem pw_X9_init_49 : mm_pw q_X9_init 49 9 7 := ⟨⟨by decide, by decide⟩, Or.inr ⟨rfl, rfl, rfl, mm_u2 101 rfl rfl⟩⟩
theorem pw_X9_init_58 : mm_pw q_X9_init 58 9 8 := ⟨⟨by decide, by decide⟩, Or.inr ⟨rfl, rfl, rfl, mm_u2 102 rfl rfl⟩⟩
theorem pw_X9_init_67 : mm_pw q_X9_init 67 9 9 := ⟨⟨by decide, by decide⟩, Or.inr ⟨rfl, rfl, rfl, mm_u2 103 rfl rfl⟩⟩
theorem pw_X9_init_74 : mm_pw q_X9_init 74 9 10 := ⟨⟨by decide, by decide⟩, Or.inr ⟨rfl, rfl, rfl, mm_u2 104 rfl rfl⟩⟩
theorem pw_X9_init_78 : mm_pw q_X9_init 78 9 11 := ⟨⟨by decide, by decide⟩, Or.inr ⟨rfl, rfl, rfl, mm_u2 105 rfl rfl⟩⟩
theorem pw_X9_init_82 : mm_pw q_X9_init 82 9 13 := ⟨⟨by decide, by decide⟩, Or.inl ⟨rfl, Or.inl (mm_u2 107 rfl rfl)⟩⟩
theorem pw_X9_law_171 : mm_pw q_X9_law 171 5 1 := ⟨⟨by decide, by decide⟩, Or.inl ⟨rfl, Or.inr ⟨"DeadLetters", mm_u1 161 rfl rfl⟩⟩⟩
theorem pw_X9_orders_82 : mm_pw q_X9_orders 82 9 13 := ⟨⟨by decide, by decide⟩, Or.inl ⟨rfl, Or.inl (mm_u2 107 rfl rfl)⟩⟩
theorem pw_X9_orders_171 : mm_pw q_X9_orders 171 5 1 := ⟨⟨by decide, by decide⟩, Or.inl ⟨rfl, Or.inr ⟨"DeadLetters", mm_u1 161 rfl rfl⟩⟩⟩
theorem pw_X9_orders_207 : mm_pw q_X9_orders 207 9 15 := ⟨⟨by decide, by decide⟩, Or.inl ⟨rfl, Or.inl (mm_u2 109 rfl rfl)⟩⟩
theorem pw_X9_orders_210 : mm_pw q_X9_orders 210 9 16 := ⟨⟨by decide, by decide⟩, Or.inl ⟨rfl, Or.inl (mm_u2 110 rfl rfl)⟩⟩
theorem pw_X9_refuse_307 : mm_pw q_X9_refuse 307 9 12 := ⟨⟨by decide, by decide⟩, Or.inl ⟨rfl, Or.inl (mm_u2 106 rfl rfl)⟩⟩
theorem pw_X9_row_171 : mm_pw q_X9_row 171 5 1 := ⟨⟨by decide, by decide⟩, Or.inl ⟨rfl, Or.inr ⟨"DeadLetters", mm_u1 161 rfl rfl⟩⟩⟩
theorem pw_X9_row_174 : mm_pw q_X9_row 174 9 14 := ⟨⟨by decide, by decide⟩, Or.inl ⟨rfl, Or.inl (mm_u2 108 rfl rfl)⟩⟩
theorem pw_X9_runOnce_207 : mm_pw q_X9_runOnce 207 9 15 := ⟨⟨by decide, by decide⟩, Or.inl ⟨rfl, Or.inl (mm_u2 109 rfl rfl)⟩⟩
theorem pw_X9_runOnce_210 : mm_pw q_X9_runOnce 210 9 16 := ⟨⟨by decide, by decide⟩, Or.inl ⟨rfl, Or.inl (mm_u2 110 rfl rfl)⟩⟩
