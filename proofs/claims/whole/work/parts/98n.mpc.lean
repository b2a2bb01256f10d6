/-! the model's reader keeps the grammar's rules: tests, brackets, comparisons, parts -/
section
variable (o te : Bool) (n : Nat) (t : Nat → Nat) (d : Nat) (K : Option Value → mmH → Prop)
theorem pc_plain : (∀ d' p c r, wq n t 2 p = some 0 → MX o te n t d K 2 d' (tkb n t p) c r → MX o te n t d K 2 d' p c (notR r)) ∧
  (∀ d' p c r, wq n t 2 p = none → isS n t 40 p → MX o te n t d K 6 d' p c r → MX o te n t d K 2 d' p c r) ∧
  (∀ d' p c r, wq n t 2 p = none → ¬ isS n t 40 p → MX o te n t d K 8 d' p c r → MX o te n t d K 2 d' p c r) := by
  refine ⟨?_, ?_, ?_⟩
  · intro d' p c r e X h base y J tu S W N
    obtain rfl := N.1 (Nat.le_refl 2)
    have tb := st_tb S (by rw [wq_k (by decide) e]; decide)
    have n4 := st_n4 S
    have S0 := S
    obtain ⟨M, hb, hy, s4, s5, s6, s7⟩ := S
    have hy0 : y + base.length ≤ p := hy
    have s6' := s6 (Or.inl (Nat.le_refl 2))
    have nx : (∀ g, fx xMd yMd h g → ST o te n t 2 d' g (tkb n t p) c [] ((28, 0) :: base) y J → EX d te K 0 g) → EX d te K 0 h := by
      intro k
      refine ex_0 M.1.1 hb (pn_not M (by omega : y + base.length < 400) e (fun g F b M1 => ⟨0, rfl, k g F ⟨M1, b.trans hb, ?_, ?_, ?_, fun z => ?_, fun x hx => by cases hx⟩⟩))
      · show y + (base.length + 1) ≤ tkb n t p
        omega
      · show (if 31 ≤ 28 then 1 else 0) + nb base = d'
        rw [if_neg (by decide), Nat.zero_add]
        exact s4
      · show bnd 28 < lim 2
        decide
      · refine ⟨?_, s6'.2⟩
        show (if 31 ≤ 28 then 28 else inn base) ≠ 32
        rw [if_neg (by decide)]
        exact s6'.1
    have N0 : EN n t 2 0 (tkb n t p) := ⟨fun _ => rfl, fun z => by omega, fun z => by omega, fun z => by omega, fun z => by omega⟩
    cases r with
    | inl f =>
      intro k
      exact nx (fun g F S1 => X g _ y J 0 S1 W N0 (fun g2 x mf => k g2 x (MF_pre F mf)))
    | inr v =>
      obtain ⟨p', c', D⟩ := v
      intro k
      refine nx (fun g F S1 => X g _ y J 0 S1 W N0 (fun g2 E y' J' F2 S2 Q cc JA tA => ?_))
      have tD := tA (Or.inl (Nat.le_refl 2))
      exact k g2 (E ++ [(28, 0)]) y' J' (fx_tr F F2) (st_join S2 s4 s5 s6 (show blv 2 ≤ bnd 28 by decide) (Nat.le_refl _)) Q cc (js_not JA tD) (fun _ => xT_not tD)
  · intro d' p c r e e1 X h base y J tu S W N
    obtain rfl := N.1 (Nat.le_refl 2)
    have X1 := X h base y J 0 (st_hi S (show lim 2 ≤ lim 6 by decide) (fun _ => Or.inl (Nat.le_refl 2))) W ⟨fun z => by omega, fun _ => ⟨rfl, e, e1⟩, fun z => by omega, fun _ z => by omega, fun z => by omega⟩
    cases r with
    | inl f => exact X1
    | inr v =>
      obtain ⟨p', c', D⟩ := v
      intro k
      refine X1 (fun g E y' J' F S' Q cc JA tA => ?_)
      exact k g E y' J' F (st_lo S' S.2.2.2.2.1 S.2.2.2.2.2.1 (by decide)) ⟨fun z => by omega, fun z => by omega, fun z => by omega, fun z => by omega⟩ cc JA (fun _ => tA (by unfold tst; omega))
  · intro d' p c r e e1 X h base y J tu S W N
    obtain rfl := N.1 (Nat.le_refl 2)
    have X1 := X h base y J 0 (st_hi S (show lim 2 ≤ lim 8 by decide) (fun _ => Or.inl (Nat.le_refl 2))) W ⟨fun z => by omega, fun z => by omega, fun _ => ⟨rfl, e, e1⟩, fun _ _ z => by omega, fun z => by omega⟩
    cases r with
    | inl f => exact X1
    | inr v =>
      obtain ⟨p', c', D⟩ := v
      intro k
      refine X1 (fun g E y' J' F S' Q cc JA tA => ?_)
      exact k g E y' J' F (st_lo S' S.2.2.2.2.1 S.2.2.2.2.2.1 (by decide)) ⟨fun z => by omega, fun z => by omega, fun z => by omega, fun z => by omega⟩ cc JA (fun _ => tA (by unfold tst; omega))
/-- a bracket is opened -/
theorem br_open {m dd p c y tu : Nat} {h : mmH} {base : List (Nat × Nat)} {J : jM} (hm : m = 6 ∨ m = 7) (S : ST o te n t m dd h p c [] base y J) (W : WJ o y J) (N : EN n t m tu p) (k1 : dd < 8 → ∀ g, fx xMd yMd h g → ST o te n t (bL m) (dd + 1) g (tkb n t p) c [] ((25 + m, 0) :: base) y J → EN n t (bL m) (m - 6) (tkb n t p) → EX d te K (m - 6) g) (k0 : ¬ dd < 8 → ∀ g, MF o n t h g (tks n t p) → ∀ x, EX d te K x g) : EX d te K tu h := by
  have n4 := st_n4 S
  obtain ⟨M, hb, hy, s4, s5, s6, s7⟩ := S
  have hy0 : y + base.length ≤ p := hy
  rcases hm with rfl | rfl
  · obtain ⟨rfl, e, e1⟩ := N.2.1 rfl
    have a := tks_le (t := t) M.2.1.1
    have b := tkb_le (t := t) M.2.1.1
    have b3 := b.2.2 (by rw [e1.1]; decide)
    have s6' := s6 (by unfold tst; omega)
    refine ex_0 M.1.1 hb (pn_br M hb (by omega : y + base.length < 400) e e1 (fun q g F b M1 => ⟨0, rfl, k1 (by rw [← s4]; exact q) g F ⟨M1, b, ?_, ?_, ?_, fun z => ⟨?_, s6'.2⟩, fun x hx => by cases hx⟩ ⟨fun _ => rfl, fun z => absurd z (by decide), fun z => absurd z (by decide), fun z => absurd z (by decide), fun z => absurd z (by decide)⟩⟩) (fun q g mf => ⟨0, rfl, k0 (by rw [← s4]; exact q) g mf 0⟩))
    · show y + (base.length + 1) ≤ tkb n t p
      omega
    · show (if 31 ≤ 31 then 1 else 0) + nb base = dd + 1
      rw [if_pos (by decide), s4]
      omega
    · show bnd 31 < lim 0
      decide
    · show (if 31 ≤ 31 then 31 else inn base) ≠ 32
      rw [if_pos (by decide)]
      decide
  · have et := N.2.2.2.1 (by decide) (by decide) (by decide)
    have e1 := N.2.2.2.2 rfl
    have a := tks_le (t := t) M.2.1.1
    have b := tkb_le (t := t) M.2.1.1
    have b3 := b.2.2 (by rw [e1.1]; decide)
    refine ex_p M hb et (fun e => rp_br M hb (by omega : y + base.length < 400) e1 (fun q g F b M1 => ⟨1, rfl, k1 (by rw [← s4]; exact q) g F ⟨M1, b, ?_, ?_, ?_, fun z => ?_, fun x hx => by cases hx⟩ ⟨fun z => absurd z (by decide), fun z => absurd z (by decide), fun z => absurd z (by decide), fun _ _ _ => Or.inl rfl, fun z => absurd z (by decide)⟩⟩) (fun q g mf => ⟨1, rfl, k0 (by rw [← s4]; exact q) g mf 1⟩))
    · show y + (base.length + 1) ≤ tkb n t p
      omega
    · show (if 31 ≤ 32 then 1 else 0) + nb base = dd + 1
      rw [if_pos (by decide), s4]
      omega
    · show bnd 32 < lim 3
      decide
    · exact absurd z (by unfold tst bL; rw [if_neg (by decide)]; decide)
/-- and closed -/
theorem br_close {m dd p c y0 y : Nat} {g : mmH} {E base : List (Nat × Nat)} {J : jM} (hm : m = 6 ∨ m = 7) (S : ST o te n t (bL m) (dd + 1) g p c E ((25 + m, 0) :: base) y J) (Q : QX n t (bL m) p) (h0 : nb base = dd) (h1 : tpb base < lim m) (h2 : tst m → inn base ≠ 32 ∧ te = true) (k1 : isS n t (bC m) p → ∀ g2, fx xMd yMd g g2 → ST o te n t m dd g2 (tkb n t p) c [] base (sE E J y).2 (sE E J y).1 → EX d te K (xt m) g2) (k0 : ¬ isS n t (bC m) p → ∀ g2, MF o n t g g2 (tks n t p) → ∀ x, EX d te K x g2) : EX d te K (xt (bL m)) g := by
  have n4 := st_n4 S
  obtain ⟨M, hb, hy, s4, s5, s6, s7⟩ := S
  have sl := sE_len E J y
  have b := tkb_le (t := t) M.2.1.1
  have a := tks_le (t := t) M.2.1.1
  rw [List.length_append, List.length_cons] at hy
  rcases hm with rfl | rfl
  · have q0 := Q.1 rfl
    exact ex_2 M.1.1 hb (bt_cl (d := d + 2) M hb q0.1 q0.2 s7 (fun q g2 F b2 M2 => ⟨2, rfl, k1 q g2 F ⟨M2, b2, (by show (sE E J y).2 + base.length ≤ tkb n t p; omega), h0, h1, h2, fun x hx => by cases hx⟩⟩) (fun q g2 mf => ⟨2, rfl, k0 q g2 mf 2⟩))
  · have q0 := Q.2.2.1 rfl
    exact ex_3 M.1.1 hb (bs_sq (d := d + 2) M hb q0.1 q0.2 s7 (fun q g2 F b2 M2 => ⟨3, rfl, k1 q g2 F ⟨M2, b2, (by show (sE E J y).2 + base.length ≤ tkb n t p; omega), h0, h1, h2, fun x hx => by cases hx⟩⟩) (fun q g2 mf => ⟨3, rfl, k0 q g2 mf 3⟩))
theorem pc_br : (∀ m d' p c, m = 6 ∨ m = 7 → 8 ≤ d' → MX o te n t d K m d' p c (.inl (tks n t p))) ∧
  (∀ m d' p c f, m = 6 ∨ m = 7 → d' < 8 → MX o te n t d K (bL m) (d' + 1) (tkb n t p) c (.inl f) → MX o te n t d K m d' p c (.inl f)) ∧
  (∀ m d' p c p1 c1 D, m = 6 ∨ m = 7 → d' < 8 → MX o te n t d K (bL m) (d' + 1) (tkb n t p) c (.inr (p1, c1, D)) → ¬ isS n t (bC m) p1 → MX o te n t d K m d' p c (.inl (tks n t p1))) ∧
  (∀ m d' p c p1 c1 D, m = 6 ∨ m = 7 → d' < 8 → MX o te n t d K (bL m) (d' + 1) (tkb n t p) c (.inr (p1, c1, D)) → isS n t (bC m) p1 → MX o te n t d K m d' p c (.inr (tkb n t p1, c1, D))) := by
  refine ⟨?_, ?_, ?_, ?_⟩
  · intro m d' p c hm h8 h base y J tu S W N k
    exact br_open o te n t d K hm S W N (fun q => by omega) (fun _ g mf x => k g x mf)
  · intro m d' p c f hm h8 X h base y J tu S W N k
    exact br_open o te n t d K hm S W N (fun _ g F S1 N1 => X g _ y J (m - 6) S1 W N1 (fun g2 x mf => k g2 x (MF_pre F mf))) (fun q => absurd h8 q)
  · intro m d' p c p1 c1 D hm h8 X z h base y J tu S W N k
    refine br_open o te n t d K hm S W N (fun _ g F S1 N1 => X g _ y J (m - 6) S1 W N1 (fun g2 E y' J' F2 S2 Q cc JA tA => ?_)) (fun q => absurd h8 q)
    exact br_close o te n t d K hm (y0 := y) S2 Q S.2.2.2.1 S.2.2.2.2.1 S.2.2.2.2.2.1 (fun q => absurd q z) (fun _ g3 mf x => k g3 x (MF_pre (fx_tr F F2) mf))
  · intro m d' p c p1 c1 D hm h8 X z h base y J tu S W N k
    refine br_open o te n t d K hm S W N (fun _ g F S1 N1 => X g _ y J (m - 6) S1 W N1 (fun g2 E y' J' F2 S2 Q cc JA tA => ?_)) (fun q => absurd h8 q)
    refine br_close o te n t d K hm (y0 := y) S2 Q S.2.2.2.1 S.2.2.2.2.1 S.2.2.2.2.2.1 (fun _ g3 F3 S3 => ?_) (fun q => absurd z q)
    refine k g3 [] _ _ (fx_tr F (fx_tr F2 F3)) S3 ⟨fun q => by omega, fun q => by omega, fun q => by omega, fun q => by omega⟩ cc JA (fun tm => tA ?_)
    rcases hm with rfl | rfl
    · exact Or.inl (by decide)
    · unfold tst at tm; omega
theorem pc_cmp : (∀ d' p c f, MX o te n t d K 3 d' p c (.inl f) → MX o te n t d K 8 d' p c (.inl f)) ∧
  (∀ d' p c p1 c1 A, MX o te n t d K 3 d' p c (.inr (p1, c1, A)) → cO n t p1 = none → MX o te n t d K 8 d' p c (.inl (tks n t p1))) ∧
  (∀ d' p c p1 c1 A q f, MX o te n t d K 3 d' p c (.inr (p1, c1, A)) → cO n t p1 = some q → MX o te n t d K 3 d' (tkb n t p1) c1 (.inl f) → MX o te n t d K 8 d' p c (.inl f)) ∧
  (∀ d' p c p1 c1 A q p2 c2 B, MX o te n t d K 3 d' p c (.inr (p1, c1, A)) → cO n t p1 = some q → MX o te n t d K 3 d' (tkb n t p1) c1 (.inr (p2, c2, B)) → MX o te n t d K 8 d' p c (.inr (p2, c2, dJoin q A B))) := by
  have t3 : ¬ tst 3 := by unfold tst; omega
  have t8 : tst 8 := by unfold tst; omega
  have en : ∀ tu p, EN n t 8 tu p → EN n t 3 tu p := fun tu p N => by
    obtain ⟨rfl, e, e1⟩ := N.2.2.1 rfl
    exact ⟨fun z => absurd z (by decide), fun z => absurd z (by decide), fun z => absurd z (by decide), fun _ _ _ => Or.inr ⟨rfl, e, e1⟩, fun z => absurd z (by decide)⟩
  -- behind the first sum
  have cm : ∀ {h g : mmH} {base E : List (Nat × Nat)} {y y' d' p c p1 c1 : Nat} {J J' : jM}, ST o te n t 8 d' h p c [] base y J → ST o te n t 3 d' g p1 c1 E base y' J' → QX n t 3 p1 → (∀ q, cO n t p1 = some q → 5 ≤ q ∧ q < 8 → ∀ g2, fx xMd yMd g g2 → ST o te n t 3 d' g2 (tkb n t p1) c1 [] ((20 + q, 0) :: base) (sE E J' y').2 (sE E J' y').1 → EX d te K 1 g2) → (cO n t p1 = none → ∀ g2, MF o n t g g2 (tks n t p1) → EX d te K 1 g2) → EX d te K 3 g := by
    intro h g base E y y' d' p c p1 c1 J J' S S1 Q k1 k0
    have n4 := st_n4 S1
    obtain ⟨M, hb, hy, s4, s5, s6, s7⟩ := S1
    have q0 := Q.2.2.1 rfl
    have x6 := S.2.2.2.2.2.1 t8
    have x5 : tpb base < 4 := S.2.2.2.2.1
    have ei : inn (E ++ base) = inn base := inn_app E base (fun x hx => by have : 5 ≤ bnd x.1 := s7 x hx; omega)
    have ec : cmpd (E ++ base) = false := by
      rw [cmpd_app E base (fun x hx => ⟨(M.2.2.2.1.2 x (by simp [hx])).1, s7 x hx⟩)]
      exact cmpd_no base x5
    have b := tkb_le (t := t) M.2.1.1
    have a := tks_le (t := t) M.2.1.1
    have sl := sE_len E J' y'
    have ll : (E ++ base).length = E.length + base.length := List.length_append
    refine ex_3 M.1.1 hb (bs_cmp (d := d + 2) M hb (fun z => by have := b.2.2 z; omega) q0.1 q0.2 (by rw [ei]; exact x6.1) x6.2 (inn_le _ (fun x hx => (M.2.2.2.1.2 x hx).2.1)) ec s7 (by omega) (fun q e q5 k3 g2 F b2 M2 => ⟨1, rfl, k1 q e q5 g2 F ⟨M2, b2, ?_, ?_, ?_, fun z => absurd z t3, fun x hx => by cases hx⟩⟩) (fun e g2 mf => ⟨1, rfl, k0 e g2 mf⟩))
    · show (sE E J' y').2 + (base.length + 1) ≤ tkb n t p1
      have := b.2.2 (by rw [k3]; decide)
      omega
    · show (if 31 ≤ 20 + q then 1 else 0) + nb base = d'
      rw [if_neg (by omega), Nat.zero_add]
      exact s4
    · show bnd (20 + q) < lim 3
      unfold bnd
      rw [if_neg (by omega), if_neg (by omega), if_neg (by omega), if_neg (by omega), if_pos (by omega)]
      decide
  have en1 : ∀ p, EN n t 3 1 p := fun p => ⟨fun z => absurd z (by decide), fun z => absurd z (by decide), fun z => absurd z (by decide), fun _ _ _ => Or.inl rfl, fun z => absurd z (by decide)⟩
  refine ⟨?_, ?_, ?_, ?_⟩
  · intro d' p c f X h base y J tu S W N
    exact X h base y J tu (st_hi S (by decide) (fun z => absurd z t3)) W (en tu p N)
  · intro d' p c p1 c1 A X z h base y J tu S W N k
    refine X h base y J tu (st_hi S (by decide) (fun z => absurd z t3)) W (en tu p N) (fun g E y' J' F S1 Q cc JA tA => ?_)
    exact cm S S1 Q (fun q e => by rw [z] at e; cases e) (fun _ g2 mf => k g2 1 (MF_pre F mf))
  · intro d' p c p1 c1 A q f X z X2 h base y J tu S W N k
    refine X h base y J tu (st_hi S (by decide) (fun z => absurd z t3)) W (en tu p N) (fun g E y' J' F S1 Q cc JA tA => ?_)
    refine cm S S1 Q (fun q' e q5 g2 F2 S2 => ?_) (fun e => by rw [z] at e; cases e)
    obtain rfl : q' = q := by rw [z] at e; exact (Option.some.inj e).symm
    exact X2 g2 _ _ _ 1 S2 JA.2.1 (en1 _) (fun g3 x mf => k g3 x (MF_pre (fx_tr F F2) mf))
  · intro d' p c p1 c1 A q p2 c2 B X z X2 h base y J tu S W N k
    refine X h base y J tu (st_hi S (by decide) (fun z => absurd z t3)) W (en tu p N) (fun g E y' J' F S1 Q cc JA tA => ?_)
    refine cm S S1 Q (fun q' e q5 g2 F2 S2 => ?_) (fun e => by rw [z] at e; cases e)
    obtain rfl : q' = q := by rw [z] at e; exact (Option.some.inj e).symm
    refine X2 g2 _ _ _ 1 S2 JA.2.1 (en1 _) (fun g3 E3 y3 J3 F3 S3 Q3 c3 JB tB => ?_)
    -- behind the second: told
    have x6 := S.2.2.2.2.2.1 t8
    have e7 := S3.2.2.2.2.2.2
    have q0 := Q3.2.2.1 rfl
    have b4 : bnd (20 + q') = 4 := by
      unfold bnd
      rw [if_neg (by omega), if_neg (by omega), if_neg (by omega), if_neg (by omega), if_pos (by omega)]
    have ei : inn (E3 ++ (20 + q', 0) :: base) = inn base := by
      rw [inn_app E3 _ (fun x hx => by have : 5 ≤ bnd x.1 := e7 x hx; omega)]
      show (if 31 ≤ 20 + q' then 20 + q' else inn base) = inn base
      rw [if_neg (by omega)]
    have ec : cmpd (E3 ++ (20 + q', 0) :: base) = true := by
      rw [cmpd_app E3 _ (fun x hx => ⟨(S3.1.2.2.2.1.2 x (by simp [hx])).1, e7 x hx⟩), cmpd, if_neg (by show ¬ (20 ≤ 20 + q' ∧ 20 + q' ≤ 24); omega)]
      exact decide_eq_true (by show 25 ≤ 20 + q' ∧ 20 + q' ≤ 27; omega)
    refine ex_3 S3.1.1.1 S3.2.1 (bs_told (d := d + 2) S3.1 q0.1 q0.2 (by rw [ei]; exact x6.1) x6.2 (inn_le _ (fun x hx => (S3.1.2.2.2.1.2 x hx).2.1)) ec ⟨2, rfl, ?_⟩)
    exact k g3 (E3 ++ [(20 + q', 0)]) y3 J3 (fx_tr F (fx_tr F2 F3)) (st_join S3 S.2.2.2.1 S.2.2.2.2.1 S.2.2.2.2.2.1 (by show blv 8 ≤ bnd (20 + q'); rw [b4]; decide) (by decide)) ⟨fun z => absurd z (by decide), fun z => absurd z (by decide), fun z => absurd z (by decide), fun z => absurd z (by decide)⟩ (by omega) (js_op JA JB cc c3 (by omega)) (fun _ => xT_cmp q5.1)
theorem pc_part : (∀ d' p c r, isS n t 91 p → MX o te n t d K 7 d' p c r → MX o te n t d K 5 d' p c r) ∧
  (∀ d' p c, ¬ isS n t 91 p → 50 ≤ c → MX o te n t d K 5 d' p c (.inl (tks n t p))) ∧
  (∀ d' p c, ¬ isS n t 91 p → c < 50 → isN n t 0 1000 p → MX o te n t d K 5 d' p c (.inr (tkb n t p, c + 1, dNum (tkv n t p)))) ∧
  (∀ d' p c, ¬ isS n t 91 p → c < 50 → ¬ isN n t 0 1000 p → wq n t (wl o) p = none → MX o te n t d K 5 d' p c (.inl (tks n t p))) ∧
  (∀ d' p c j, ¬ isS n t 91 p → c < 50 → ¬ isN n t 0 1000 p → wq n t (wl o) p = some j → o = false ∨ j < 4 → MX o te n t d K 5 d' p c (.inr (tkb n t p, c + 1, dWord j))) ∧
  (∀ d' p c j, ¬ isS n t 91 p → c < 50 → ¬ isN n t 0 1000 p → wq n t (wl o) p = some j → o = true → 4 ≤ j → isN n t 0 5 (tkb n t p) → MX o te n t d K 5 d' p c (.inr (tkb n t (tkb n t p), c + 1, dWord ((if j = 4 then 4 else 10) + tkv n t (tkb n t p))))) ∧
  (∀ d' p c j, ¬ isS n t 91 p → c < 50 → ¬ isN n t 0 1000 p → wq n t (wl o) p = some j → o = true → 4 ≤ j → ¬ isN n t 0 5 (tkb n t p) → MX o te n t d K 5 d' p c (.inl (tks n t (tkb n t p)))) := by
  have t5 : ¬ tst 5 := by unfold tst; omega
  have hyp : ∀ {h : mmH} {base : List (Nat × Nat)} {y d' p c : Nat} {J : jM}, ST o te n t 5 d' h p c [] base y J → tkk n t p ≠ 0 → y + base.length < 400 := fun {h base y d' p c J} S z => by
    have n4 := st_n4 S
    have tb := st_tb S z
    have : y + base.length ≤ p := S.2.2.1
    omega
  have et : ∀ {tu p : Nat}, EN n t 5 tu p → ETp n t tu p := fun N => N.2.2.2.1 (by decide) (by decide) (by decide)
  have q5 : ∀ p, QX n t 5 p := fun p => ⟨fun z => absurd z (by decide), fun z => absurd z (by decide), fun z => absurd z (by decide), fun z => absurd z (by decide)⟩
  -- a part is laid down
  have leaf : ∀ {h g : mmH} {base : List (Nat × Nat)} {y d' p c p1 : Nat} {J : jM} {x : Nat × Int32}, ST o te n t 5 d' h p c [] base y J → mm_gi g 91 19 = 0 → MS o n t g p1 (c + 1) base (y + 1) (ju J y x) → p < p1 → ST o te n t 5 d' g p1 (c + 1) [] base (y + 1) (ju J y x) := by
    intro h g base y d' p c p1 J x S b M hp
    have : y + base.length ≤ p := S.2.2.1
    exact ⟨M, b, (by show y + 1 + base.length ≤ p1; omega), S.2.2.2.1, S.2.2.2.2.1, fun z => absurd z t5, fun x hx => by cases hx⟩
  refine ⟨?_, ?_, ?_, ?_, ?_, ?_, ?_⟩
  · intro d' p c r e X h base y J tu S W N
    have X1 := X h base y J tu (st_hi S (by decide) (fun z => absurd z (by unfold tst; omega))) W ⟨fun z => absurd z (by decide), fun z => absurd z (by decide), fun z => absurd z (by decide), fun _ _ _ => et N, fun _ => e⟩
    cases r with
    | inl f => exact X1
    | inr v =>
      obtain ⟨p', c', D⟩ := v
      intro k
      refine X1 (fun g E y' J' F S' Q cc JA tA => ?_)
      exact k g E y' J' F (st_lo S' S.2.2.2.2.1 S.2.2.2.2.2.1 (by decide)) (q5 _) cc JA (fun z => absurd z t5)
  · intro d' p c z c5 h base y J tu S W N k
    exact ex_p S.1 S.2.1 (et N) (fun e => rp_bad S.1 S.2.1 (hyp S) z (Or.inl c5) (fun g mf => ⟨3, rfl, k g 3 mf⟩))
  · intro d' p c z c5 w h base y J tu S W N k
    have tb := st_tb S (by rw [w.1]; decide)
    have vl : tkv n t p ≤ 1000 := w.2.2
    refine ex_p S.1 S.2.1 (et N) (fun e => rp_num S.1 S.2.1 (hyp S) z c5 w (fun g F b M => ⟨3, rfl, ?_⟩))
    refine k g [] (y + 1) _ F (leaf S b M tb.1) (q5 _) (by omega) (js_leaf W (wf_num (by omega)) (xP_num ?_ vl)) (fun z => absurd z t5)
    show dec o (ju J y _ y) = _
    rw [ju_eq]
    exact dec_num (by omega)
  · intro d' p c z c5 w e h base y J tu S W N k
    exact ex_p S.1 S.2.1 (et N) (fun _ => rp_bad S.1 S.2.1 (hyp S) z (Or.inr ⟨w, e⟩) (fun g mf => ⟨3, rfl, k g 3 mf⟩))
  · intro d' p c j z c5 w e oj h base y J tu S W N k
    have tb := st_tb S (by rw [wq_k (by unfold wl; split <;> decide) e]; decide)
    have jl := wl_lt e
    have j10 : j < 10 := by split at jl <;> omega
    refine ex_p S.1 S.2.1 (et N) (fun _ => rp_wrd S.1 S.2.1 (hyp S) z c5 w e (fun _ g F b M => ⟨3, rfl, ?_⟩) (fun o1 j4 => ?_) (fun o1 j4 => ?_))
    · refine k g [] (y + 1) _ F (leaf S b M tb.1) (q5 _) (by omega) (js_leaf W (wf_word j10 oj) (xP_word ?_ ?_)) (fun z => absurd z t5)
      · show dec o (ju J y _ y) = _
        rw [ju_eq]
        exact dec_word j10 oj
      · unfold nwO
        split <;> omega
    · exfalso
      rcases oj with q | q
      · rw [q] at o1; cases o1
      · omega
    · exfalso
      rcases oj with q | q
      · rw [q] at o1; cases o1
      · omega
  · intro d' p c j z c5 w e o1 j4 u h base y J tu S W N k
    have tb := st_tb S (by rw [wq_k (by unfold wl; split <;> decide) e]; decide)
    have jl := wl_lt e
    subst o1
    have j6 : j = 4 ∨ j = 5 := by rw [if_pos rfl] at jl; omega
    have u2 := u.2.2
    refine ex_p S.1 S.2.1 (et N) (fun _ => rp_wrd S.1 S.2.1 (hyp S) z c5 w e (fun oj => ?_) (fun _ _ _ g F b M => ⟨3, rfl, ?_⟩) (fun _ _ u3 => absurd u u3))
    · exfalso
      rcases oj with q | q
      · cases q
      · omega
    · have a := tkb_le (t := t) tb.2
      have a2 := tks_le (t := t) tb.2
      refine k g [] (y + 1) _ F (leaf S b M (by omega)) (q5 _) (by omega) (js_leaf W (wf_k j6 u2) (xP_word ?_ ?_)) (fun z => absurd z t5)
      · show dec true (ju J y _ y) = _
        rw [ju_eq]
        exact dec_k j6 u2
      · show _ < 16
        split <;> omega
  · intro d' p c j z c5 w e o1 j4 u h base y J tu S W N k
    refine ex_p S.1 S.2.1 (et N) (fun _ => rp_wrd S.1 S.2.1 (hyp S) z c5 w e (fun oj => ?_) (fun _ _ u3 => absurd u3 u) (fun _ _ _ g mf => ⟨3, rfl, k g 3 mf⟩))
    exfalso
    rcases oj with q | q
    · rw [q] at o1; cases o1
    · omega
theorem pc_all : PC o n t (MX o te n t d K) (MY o te n t d K) := ⟨pc_lev (o := o) (te := te) (n := n) (t := t) (d := d) (K := K), pc_plain o te n t d K, pc_br o te n t d K, pc_cmp o te n t d K, pc_part o te n t d K⟩
end
