/-! the model's reader keeps the grammar's rules -/
section
variable {d : Nat} {h g : mmH} {K : Option Value → mmH → Prop} {o te : Bool} {n : Nat} {t : Nat → Nat} {p c y dd m m' : Nat} {E base : List (Nat × Nat)} {J : jM}
theorem st_lo (S : ST o te n t m' dd g p c E base y J) (h1 : tpb base < lim m) (h2 : tst m → inn base ≠ 32 ∧ te = true) (h3 : blv m ≤ blv m') : ST o te n t m dd g p c E base y J := by
  obtain ⟨s1, s2, s3, s4, s5, s6, s7⟩ := S
  exact ⟨s1, s2, s3, s4, h1, h2, fun x hx => Nat.le_trans h3 (s7 x hx)⟩
theorem st_hi (S : ST o te n t m dd h p c [] base y J) (h1 : lim m ≤ lim m') (h2 : tst m' → tst m) : ST o te n t m' dd h p c [] base y J := by
  obtain ⟨s1, s2, s3, s4, s5, s6, s7⟩ := S
  exact ⟨s1, s2, s3, s4, Nat.lt_of_lt_of_le s5 h1, fun q => s6 (h2 q), fun x hx => by cases hx⟩
theorem st_join {x : Nat × Nat} (S : ST o te n t m' dd g p c E (x :: base) y J) (h0 : nb base = dd) (h1 : tpb base < lim m) (h2 : tst m → inn base ≠ 32 ∧ te = true) (h3 : blv m ≤ bnd x.1) (h4 : blv m ≤ blv m') : ST o te n t m dd g p c (E ++ [x]) base y J := by
  obtain ⟨s1, s2, s3, s4, s5, s6, s7⟩ := S
  have e : (E ++ [x]) ++ base = E ++ x :: base := by simp
  refine ⟨by rw [e]; exact s1, s2, by rw [e]; exact s3, h0, h1, h2, fun z hz => ?_⟩
  rcases List.mem_append.mp hz with q | q
  · exact Nat.le_trans h4 (s7 z q)
  · rcases List.mem_cons.mp q with q | q
    · rw [q]; exact h3
    · cases q
theorem st_n4 (S : ST o te n t m dd h p c E base y J) : p ≤ n ∧ n ≤ 400 := ⟨S.1.2.1.1, S.1.1.2.1.1⟩
theorem st_tb (S : ST o te n t m dd h p c E base y J) (k : tkk n t p ≠ 0) : p < tkb n t p ∧ tkb n t p ≤ n := by
  have a := tks_le (t := t) S.1.2.1.1
  have b := tkb_le (t := t) S.1.2.1.1
  have := b.2.2 k
  omega
theorem xt_l (hl : lvl m) : xt (m + 1) = xt m := by rcases hl with rfl | rfl | rfl | rfl <;> decide
theorem lim_l (hl : lvl m) : lim m ≤ lim (m + 1) ∧ blv m ≤ blv (m + 1) := by rcases hl with rfl | rfl | rfl | rfl <;> decide
theorem tst_l (hl : lvl m) : tst (m + 1) ↔ tst m := by
  unfold tst
  unfold lvl at hl
  omega
theorem en_l {tu : Nat} (hl : lvl m) (H : EN n t m tu p) : EN n t (m + 1) tu p := by
  unfold lvl at hl
  obtain ⟨a, b, c, d, e⟩ := H
  refine ⟨fun q => a (by omega), fun q => by omega, fun q => by omega, fun q _ _ => d (by omega) (by omega) (by omega), fun q => by omega⟩
/-- a word between tests -/
theorem y_word {l q y0 c0 : Nat} {J0 : jM} {A : xD} (hl : l = 0 ∨ l = 1) (S : ST o te n t l dd h p c E base y J) (JA : JSx o J0 y0 E J y (c - c0) A) (e : sO n t l p = some q) (k : ∀ g, fx xMd yMd h g → ST o te n t (l + 1) dd g (tkb n t p) c [] ((30 - l, (sE E J y).2) :: base) ((sE E J y).2 + 1) (ju (sE E J y).1 (sE E J y).2 (30 - l, 0)) → WJ o ((sE E J y).2 + 1) (ju (sE E J y).1 (sE E J y).2 (30 - l, 0)) → EN n t (l + 1) 0 (tkb n t p) → EX d te K 0 g) : EX d te K (xt l) h := by
  obtain ⟨M, hb, hy, s4, s5, s6, s7⟩ := S
  have n4 := M.1.2.1.1
  have q0 : sO n t l p = some 0 ∧ (wN n t p = 498 ∨ wN n t p = 1476) := by
    rcases hl with rfl | rfl
    · have : wq n t 5 p = some q := by rw [sO, if_pos rfl] at e; exact e
      rcases wq_one (n := n) (t := t) (p := p) (i := 5) rfl with u | u
      · rw [u] at this; cases this
      · exact ⟨by rw [sO, if_pos rfl]; exact u, Or.inl (wq_5.mp u)⟩
    · have : wq n t 6 p = some q := by rw [sO, if_neg (by decide), if_pos rfl] at e; exact e
      rcases wq_one (n := n) (t := t) (p := p) (i := 6) rfl with u | u
      · rw [u] at this; cases this
      · exact ⟨by rw [sO, if_neg (by decide), if_pos rfl]; exact u, Or.inr (wq_6.mp u)⟩
  have p2 : p + 2 ≤ tkb n t p := by
    rcases q0.2 with u | u
    · exact wN_ge M u (by decide)
    · exact wN_ge M u (by decide)
  have tb := tkb_le (t := t) M.2.1.1
  have sl := sE_len E J y
  have ll : (E ++ base).length = E.length + base.length := List.length_append
  have ex2 : xt l = 2 := by rcases hl with rfl | rfl <;> rfl
  have bl : blv l = l + 1 ∧ lim l = l + 1 ∧ bnd (30 - l) = l + 1 ∧ l + 1 < lim (l + 1) := by rcases hl with rfl | rfl <;> decide
  rw [ex2]
  refine ex_2 M.1.1 hb (bt_ao (d := d + 2) hl M hb (by omega) q0.1 (fun x hx => by have := s7 x hx; omega) (by omega) (fun g F b M1 => ⟨0, rfl, k g F ⟨M1, b, ?_, ?_, ?_, fun z => ?_, fun x hx => by cases hx⟩ (WJ_s JA.2.1 (wf_ao (r := 0) hl (by decide))) ⟨fun _ => rfl, fun z => by omega, fun z => by omega, fun z => by omega, fun z => by omega⟩⟩))
  · show (sE E J y).2 + 1 + (base.length + 1) ≤ tkb n t p
    omega
  · show (if 31 ≤ 30 - l then 1 else 0) + nb base = dd
    rw [if_neg (by omega), Nat.zero_add]
    exact s4
  · show bnd (30 - l) < lim (l + 1)
    omega
  · have tl : tst l := by unfold tst; omega
    refine ⟨?_, (s6 tl).2⟩
    show (if 31 ≤ 30 - l then 30 - l else inn base) ≠ 32
    rw [if_neg (by omega)]
    exact (s6 tl).1
/-- a sign in a sum -/
theorem y_sign {l q y0 c0 : Nat} {J0 : jM} {A : xD} (hl : l = 3 ∨ l = 4) (S : ST o te n t l dd h p c E base y J) (JA : JSx o J0 y0 E J y (c - c0) A) (e : sO n t l p = some q) (k : ∀ g, fx xMd yMd h g → ST o te n t (l + 1) dd g (tkb n t p) c [] ((20 + q, 0) :: base) (sE E J y).2 (sE E J y).1 → WJ o (sE E J y).2 (sE E J y).1 → EN n t (l + 1) 1 (tkb n t p) → q ≤ 4 → blv l ≤ bnd (20 + q) → EX d te K 1 g) : EX d te K (xt l) h := by
  obtain ⟨M, hb, hy, s4, s5, s6, s7⟩ := S
  have n4 := M.1.2.1.1
  have e' : sO n t 3 p = some q ∨ sO n t 4 p = some q := by rcases hl with rfl | rfl; exact Or.inl e; exact Or.inr e
  obtain ⟨_, q4, k3⟩ := sO_q e'
  have tb := tkb_le (t := t) M.2.1.1
  have tc := tks_le (t := t) M.2.1.1
  have t3 := tb.2.2 (by rw [k3]; decide)
  have sl := sE_len E J y
  have ll : (E ++ base).length = E.length + base.length := List.length_append
  have ex3 : xt l = 3 := by rcases hl with rfl | rfl <;> rfl
  have bl : blv l = bnd (20 + q) ∧ lim l = bnd (20 + q) ∧ bnd (20 + q) < lim (l + 1) := by
    rw [bnd_q q4]
    rcases hl with rfl | rfl
    · have := sO3 e
      rw [if_pos this]
      decide
    · have := sO4 e
      rw [if_neg (by omega)]
      decide
  rw [ex3]
  refine ex_3 M.1.1 hb (bs_op (d := d + 2) M hb (by omega) e' (fun x hx => by have := s7 x hx; omega) (by omega) (fun g F b M1 => ⟨1, rfl, k g F ⟨M1, b, ?_, ?_, ?_, fun z => ?_, fun x hx => by cases hx⟩ JA.2.1 ⟨fun z => by omega, fun z => by omega, fun z => by omega, fun _ _ _ => Or.inl rfl, fun z => by omega⟩ q4 (by omega)⟩))
  · show (sE E J y).2 + (base.length + 1) ≤ tkb n t p
    omega
  · show (if 31 ≤ 20 + q then 1 else 0) + nb base = dd
    rw [if_neg (by omega), Nat.zero_add]
    exact s4
  · show bnd (20 + q) < lim (l + 1)
    omega
  · unfold tst at z
    omega
variable (o te n t d K) in
theorem pc_lev : (∀ l d' p c f, lvl l → MX o te n t d K (l + 1) d' p c (.inl f) → MX o te n t d K l d' p c (.inl f)) ∧
  (∀ l d' p c p1 c1 A r, lvl l → MX o te n t d K (l + 1) d' p c (.inr (p1, c1, A)) → MY o te n t d K l A d' p1 c1 r → MX o te n t d K l d' p c r) ∧
  (∀ l A d' p c, lvl l → sO n t l p = none → MY o te n t d K l A d' p c (.inr (p, c, A))) ∧
  (∀ l A d' p c q f, lvl l → sO n t l p = some q → MX o te n t d K (l + 1) d' (tkb n t p) c (.inl f) → MY o te n t d K l A d' p c (.inl f)) ∧
  (∀ l A d' p c q p1 c1 B r, lvl l → sO n t l p = some q → MX o te n t d K (l + 1) d' (tkb n t p) c (.inr (p1, c1, B)) → MY o te n t d K l (mkD l q A B) d' p1 c1 r → MY o te n t d K l A d' p c r) := by
  refine ⟨?_, ?_, ?_, ?_, ?_⟩
  · intro l d' p c f hl X h base y J tu S W N
    exact X h base y J tu (st_hi S (lim_l hl).1 (tst_l hl).mp) W (en_l hl N)
  · intro l d' p c p1 c1 A r hl X Y h base y J tu S W N
    have X1 := X h base y J tu (st_hi S (lim_l hl).1 (tst_l hl).mp) W (en_l hl N)
    cases r with
    | inl f =>
      intro k
      refine X1 (fun g E y' J' F S' Q cc JA tA => ?_)
      rw [xt_l hl]
      exact Y g base E y' J' y J c (st_lo S' S.2.2.2.2.1 S.2.2.2.2.2.1 (lim_l hl).2) Q cc JA (fun z => tA ((tst_l hl).mpr z)) (fun g2 x mf => k g2 x (MF_pre F mf))
    | inr v =>
      obtain ⟨p', c', D⟩ := v
      intro k
      refine X1 (fun g E y' J' F S' Q cc JA tA => ?_)
      rw [xt_l hl]
      exact Y g base E y' J' y J c (st_lo S' S.2.2.2.2.1 S.2.2.2.2.2.1 (lim_l hl).2) Q cc JA (fun z => tA ((tst_l hl).mpr z)) (fun g2 E2 y2 J2 F2 => k g2 E2 y2 J2 (fx_tr F F2))
  · intro l A d' p c hl e h base E y J y0 J0 c0 S Q cc JA tA k
    refine k h E y J fx_rf S ⟨fun z => ?_, fun z => ?_, fun z => ?_, fun z => ?_⟩ cc JA tA
    · subst z; exact ⟨e, Q.2.1 rfl⟩
    · subst z; exact e
    · subst z; exact ⟨e, Q.2.2.2 rfl⟩
    · subst z; exact e
  · intro l A d' p c q f hl e X h base E y J y0 J0 c0 S Q cc JA tA k
    by_cases l2 : l = 0 ∨ l = 1
    · refine y_word l2 S JA e (fun g F S1 W1 N1 => ?_)
      exact X g _ _ _ 0 S1 W1 N1 (fun g2 x mf => k g2 x (MF_pre F mf))
    · have l3 : l = 3 ∨ l = 4 := by unfold lvl at hl; omega
      refine y_sign l3 S JA e (fun g F S1 W1 N1 _ _ => ?_)
      exact X g _ _ _ 1 S1 W1 N1 (fun g2 x mf => k g2 x (MF_pre F mf))
  · intro l A d' p c q p1 c1 B r hl e X Y h base E y J y0 J0 c0 S Q cc JA tA
    by_cases l2 : l = 0 ∨ l = 1
    · have tl : tst l := by unfold tst; omega
      -- what is behind the second test
      have nx : ∀ (P : Prop), (∀ g2 E2 y2 J2, fx xMd yMd h g2 → ST o te n t l d' g2 p1 c1 (E2 ++ [(30 - l, (sE E J y).2)]) base y2 J2 → QX n t (l + 1) p1 → c0 ≤ c1 → JSx o J0 y0 (E2 ++ [(30 - l, (sE E J y).2)]) J2 y2 (c1 - c0) (mkD l q A B) → (tst l → xT (nwO o) (mkD l q A B)) → EX d te K (xt l) g2) → EX d te K (xt l) h := by
        intro _ k
        refine y_word l2 S JA e (fun g F S1 W1 N1 => ?_)
        refine X g _ _ _ 0 S1 W1 N1 (fun g2 E2 y2 J2 F2 S2 Q2 c2 JB tB => ?_)
        rw [xt_l hl]
        have sl := sE_len E2 J2 y2
        have b4 := S2.1.2.1.2.2.2.1
        rw [List.length_append] at b4
        refine k g2 E2 y2 J2 (fx_tr F F2) (st_join S2 S.2.2.2.1 S.2.2.2.2.1 S.2.2.2.2.2.1 ?_ (lim_l hl).2) Q2 (by omega) (js_ao l2 JA (tA tl) JB cc c2 (by omega)) (fun z => xT_mk hl tB z)
        show blv l ≤ bnd (30 - l)
        rcases l2 with rfl | rfl <;> decide
      cases r with
      | inl f =>
        intro k
        exact nx True (fun g2 E2 y2 J2 F2 S2 Q2 c2 JB tB => Y g2 base _ y2 J2 y0 J0 c0 S2 Q2 c2 JB tB (fun g3 x mf => k g3 x (MF_pre F2 mf)))
      | inr v =>
        obtain ⟨p', c', D⟩ := v
        intro k
        exact nx True (fun g2 E2 y2 J2 F2 S2 Q2 c2 JB tB => Y g2 base _ y2 J2 y0 J0 c0 S2 Q2 c2 JB tB (fun g3 E3 y3 J3 F3 => k g3 E3 y3 J3 (fx_tr F2 F3)))
    · have l3 : l = 3 ∨ l = 4 := by unfold lvl at hl; omega
      have em : mkD l q A B = dJoin q A B := by unfold mkD; rw [if_neg (by omega), if_neg (by omega)]
      have nx : ∀ (P : Prop), (∀ g2 E2 y2 J2, fx xMd yMd h g2 → ST o te n t l d' g2 p1 c1 (E2 ++ [(20 + q, 0)]) base y2 J2 → QX n t (l + 1) p1 → c0 ≤ c1 → JSx o J0 y0 (E2 ++ [(20 + q, 0)]) J2 y2 (c1 - c0) (mkD l q A B) → (tst l → xT (nwO o) (mkD l q A B)) → EX d te K (xt l) g2) → EX d te K (xt l) h := by
        intro _ k
        refine y_sign l3 S JA e (fun g F S1 W1 N1 q4 bq => ?_)
        refine X g _ _ _ 1 S1 W1 N1 (fun g2 E2 y2 J2 F2 S2 Q2 c2 JB tB => ?_)
        rw [xt_l hl]
        exact k g2 E2 y2 J2 (fx_tr F F2) (st_join S2 S.2.2.2.1 S.2.2.2.2.1 S.2.2.2.2.2.1 bq (lim_l hl).2) Q2 (by omega) (by rw [em]; exact js_op JA JB cc c2 (by omega)) (fun z => xT_mk hl tB z)
      cases r with
      | inl f =>
        intro k
        exact nx True (fun g2 E2 y2 J2 F2 S2 Q2 c2 JB tB => Y g2 base _ y2 J2 y0 J0 c0 S2 Q2 c2 JB tB (fun g3 x mf => k g3 x (MF_pre F2 mf)))
      | inr v =>
        obtain ⟨p', c', D⟩ := v
        intro k
        exact nx True (fun g2 E2 y2 J2 F2 S2 Q2 c2 JB tB => Y g2 base _ y2 J2 y0 J0 c0 S2 Q2 c2 JB tB (fun g3 E3 y3 J3 F3 => k g3 E3 y3 J3 (fx_tr F2 F3)))
end
