/-! THE INVARIANT: a house's meaning S, and how the class and the model hold it -/
abbrev HSt : Type := Nat → Nat → Nat
-- S 0: letters, children, tellings, laws, answered bits, force (0 none, j + 1 law j); S 1 knows, S 2 grown, S 3 bears, S 4 content, S 5 need, S 6 home, S 7 told trait, S 8 told known, S 9 terms
def fo (n : Nat) : Int32 := if n = 0 then -1 else nI (n - 1)
def HV (S : HSt) : Prop := (S 0 0 ≤ 8 ∧ S 0 1 ≤ 6 ∧ S 0 2 ≤ 8 ∧ S 0 3 ≤ 6 ∧ S 0 4 < 2 ^ S 0 0 ∧ S 0 5 ≤ S 0 3) ∧ (∀ c, c < S 0 1 → S 1 c < 256 ∧ S 2 c ≤ 99 ∧ 1 ≤ S 3 c ∧ S 3 c ≤ 8) ∧ (∀ l, l < S 0 0 → S 4 l < 256 ∧ S 5 l < 256 ∧ S 6 l ≤ 9) ∧ (∀ t, t < S 0 2 → S 7 t < 8 ∧ S 8 t < 2) ∧ ∀ k, k < 3 → S 9 k ≤ tmax k
/-- the class's house at a holds S -/
def HC (h : mmH) (a : Nat) (S : HSt) : Prop := (mm_gi h a 1 = nI (S 0 0) ∧ mm_gi h a 6 = nI (S 0 1) ∧ mm_gi h a 10 = nI (S 0 2) ∧ mm_gi h a 14 = nI (S 0 3) ∧ mm_gi h a 5 = nI (S 0 4) ∧ mm_gi h a 16 = fo (S 0 5)) ∧ (∀ c, c < S 0 1 → mm_gi h (a + 4) c = nI (S 1 c) ∧ mm_gi h (a + 6) c = nI (S 2 c) ∧ mm_gi h (a + 5) c = nI (S 3 c)) ∧ (∀ l, l < S 0 0 → mm_gi h (a + 1) l = nI (S 4 l) ∧ mm_gi h (a + 2) l = nI (S 5 l) ∧ mm_gi h (a + 3) l = nI (S 6 l)) ∧ (∀ t, t < S 0 2 → mm_gi h (a + 7) t = nI (S 7 t) ∧ mm_gi h (a + 8) t = nI (S 8 t)) ∧ ∀ k, k < 3 → mm_gi h (a + 9) k = nI (S 9 k)
/-- the model's row f, from place o on, holds S -/
def HM (f : Nat → Int32) (o : Nat) (S : HSt) : Prop := (f o = nI (S 0 0) ∧ f (o + 1) = nI (S 0 1) ∧ f (o + 2) = nI (S 0 2) ∧ f (o + 3) = nI (S 0 3) ∧ f (o + 4) = fo (S 0 5)) ∧ (∀ c, c < S 0 1 → f (o + 8 + c) = nI (S 1 c) ∧ f (o + 14 + c) = nI (S 2 c) ∧ f (o + 52 + c) = nI (S 3 c)) ∧ (∀ l, l < S 0 0 → f (o + 28 + l) = nI (S 4 l) ∧ f (o + 36 + l) = nI (S 5 l) ∧ f (o + 44 + l) = nI (S 6 l) ∧ f (o + 20 + l) = nI (S 0 4 / 2 ^ l % 2)) ∧ (∀ t, t < S 0 2 → f (o + 58 + 2 * t) = nI (S 7 t) ∧ f (o + 58 + 2 * t + 1) = nI (S 8 t)) ∧ ∀ k, k < 3 → f (o + 5 + k) = nI (S 9 k)
/-- the laws of the house at a are those of the row f from o on; L says when a text and a stretch of a row are the same law -/
def HLw (LR : mmH → Nat → (Nat → Int32) → Nat → Prop) (h : mmH) (a : Nat) (f : Nat → Int32) (o W : Nat) : Prop := (∀ w, w < W → ∃ t, mm_gr h (a + 10) w = some t ∧ 122 ≤ t ∧ LR h t f (o + 75 + 900 * w)) ∧ ∀ w, w < 6 → ∀ t, mm_gr h (a + 10) w = some t → 122 ≤ t ∧ mm_kd h t = 6 ∧ t < mm_sz h
/-- entry k of the trail: kind j, answered A, day D, knows and grown of C children; found and mood as they are in S -/
def TE (h : mmH) (S : HSt) (k : Nat) : Prop := ∃ (j A D : Nat) (kn gw : Nat → Nat), j < 4 ∧ A < 2 ^ S 0 0 ∧ D ≤ 999 ∧ (∀ c, c < S 0 1 → kn c < 256 ∧ gw c ≤ 99) ∧
  (mm_gi h 51 (15 * k) = nI j ∧ mm_gi h 51 (15 * k + 1) = nI A ∧ mm_gi h 51 (15 * k + 2) = nI D ∧ ∀ c, c < S 0 1 → mm_gi h 51 (15 * k + 3 + c) = nI (kn c) ∧ mm_gi h 51 (15 * k + 9 + c) = nI (gw c)) ∧
  (mm_gi h 97 k = nI j ∧ mm_gi h 96 (23 * k) = nI D ∧ mm_gi h 96 (23 * k + 1) = nI (S 9 1) ∧ mm_gi h 96 (23 * k + 2) = nI (S 9 2) ∧ (∀ c, c < S 0 1 → mm_gi h 96 (23 * k + 3 + c) = nI (kn c) ∧ mm_gi h 96 (23 * k + 9 + c) = nI (gw c)) ∧ ∀ l, l < S 0 0 → mm_gi h 96 (23 * k + 15 + l) = nI (A / 2 ^ l % 2))
def I_misc (h : mmH) : Prop := (mm_gi h 0 12 = mm_gi h 91 1 ∧ mm_gi h 0 13 = mm_gi h 91 52 ∧ mm_gi h 0 14 = mm_gi h 91 11 ∧ mm_gi h 56 4 = mm_gi h 91 18) ∧ mm_gi h 90 0 = mm_gi h 92 1 ∧ mm_gi h 90 1 = mm_gi h 92 2 ∧ mm_gi h 90 2 = mm_gi h 92 3 ∧ mm_gi h 90 3 = mm_gi h 92 5 ∧ mm_gi h 90 4 = mm_gi h 92 6
def I_tape (h : mmH) : Prop := ∃ n, n ≤ 400 ∧ mm_gi h 54 1 = nI n ∧ mm_gi h 91 13 = nI n ∧ ∀ i, i < n → ∃ v, v < 256 ∧ mm_gi h 55 i = nI v ∧ mm_gi h 100 i = nI v
def I_trail (h : mmH) (S : HSt) : Prop := ∃ n, n ≤ 16 ∧ mm_gi h 50 1 = nI n ∧ mm_gi h 91 8 = nI n ∧ ∀ k, k < n → TE h S k
def I_img (LR : mmH → Nat → (Nat → Int32) → Nat → Prop) (h : mmH) (k a : Nat) : Prop := (∀ w, w < 6 → ∀ t, mm_gr h (a + 10) w = some t → 122 ≤ t ∧ mm_kd h t = 6 ∧ t < mm_sz h) ∧ ((mm_gi h 49 k = 0 ∧ mm_gi h 95 k = 0) ∨ (mm_gi h 49 k = 1 ∧ mm_gi h 95 k = 1 ∧ ∃ S, HV S ∧ HC h a S ∧ HM (mm_gi h 94) (5475 * k) S ∧ HLw LR h a (mm_gi h 94) (5475 * k) (S 0 3)))
def I_school (h : mmH) : Prop := ∃ c, c ≤ 6 ∧ mm_gi h 79 6 = nI c ∧ (mm_gi h 91 56 = nI c ∨ (c = 0 ∧ mm_gi h 91 56 = -1)) ∧ ∀ i, i < c → mm_gi h 83 i = mm_gi h 121 i ∧ mm_gi h 85 i = mm_gi h 121 (6 + i)
def Lref (h : mmH) (a : Nat) : Prop := ∀ w, w < 6 → ∀ t, mm_gr h (a + 10) w = some t → 122 ≤ t ∧ mm_kd h t = 6 ∧ t < mm_sz h
def consts (h : mmH) : Prop := (∀ k, k < 10 → mm_gl h 106 k = [3417476, 408572082, 21562676, 12009203, 2262611, 7945966, 8902245, 643389604, 4153, 441828].getD k 0) ∧ (∀ k, k < 6 → mm_gl h 107 k = [4153, 146885, 404362868, 508078, 12009203, 7945966].getD k 0) ∧ (∀ k, k < 4 → mm_gl h 108 k = [24627848, 20207059, 6328499, 67155].getD k 0) ∧ (∀ k, k < 4 → mm_gl h 118 k = [594980, 48880818, 409189, 525939].getD k 0) ∧ (∀ k, k < 3 → mm_gl h 119 k = [655, 89, 486].getD k 0) ∧ mm_gi h 91 20 = 0
def Inv (LR : mmH → Nat → (Nat → Int32) → Nat → Prop) (h : mmH) : Prop := WS h ∧ I_misc h ∧ I_tape h ∧ (∃ S, HV S ∧ HC h 4 S ∧ HM (mm_gi h 93) 0 S ∧ HLw LR h 4 (mm_gi h 93) 0 (S 0 3) ∧ I_trail h S) ∧ I_img LR h 0 27 ∧ I_img LR h 1 38 ∧ I_school h ∧ (Lref h 15 ∧ Lref h 79) ∧ consts h
/-- the law relation looks at the text's own cells and at its own stretch -/
def LRf (LR : mmH → Nat → (Nat → Int32) → Nat → Prop) : Prop := ∀ (h h' : mmH) (t : Nat) (f f' : Nat → Int32) (o o' : Nat), 122 ≤ t → LR h t f o → (∀ c, 122 ≤ c → c < mm_sz h → mm_kd h' c = mm_kd h c ∧ mm_ln h' c = mm_ln h c ∧ (∀ j, mm_gi h' c j = mm_gi h c j) ∧ ∀ j, mm_gr h' c j = mm_gr h c j) → mm_sz h ≤ mm_sz h' → (∀ j, j < 900 → f' (o' + j) = f (o + j)) → LR h' t f' o'
/-! parts of the invariant over a changed heap -/
theorem HC_cg {h h' : mmH} {a : Nat} {S : HSt} (e : ∀ c j, a ≤ c → c ≤ a + 9 → mm_gi h' c j = mm_gi h c j) (H : HC h a S) : HC h' a S := by
  have e0 : ∀ j, mm_gi h' a j = mm_gi h a j := fun j => e a j (by omega) (by omega)
  have ei : ∀ i j, i ≤ 9 → mm_gi h' (a + i) j = mm_gi h (a + i) j := fun i j hi => e (a + i) j (by omega) (by omega)
  obtain ⟨h1, h2, h3, h4, h5⟩ := H
  refine ⟨?_, fun c hc => ?_, fun l hl => ?_, fun t ht => ?_, fun k hk => ?_⟩
  · rw [e0, e0, e0, e0, e0, e0]; exact h1
  · rw [ei 4 c (by decide), ei 6 c (by decide), ei 5 c (by decide)]; exact h2 c hc
  · rw [ei 1 l (by decide), ei 2 l (by decide), ei 3 l (by decide)]; exact h3 l hl
  · rw [ei 7 t (by decide), ei 8 t (by decide)]; exact h4 t ht
  · rw [ei 9 k (by decide)]; exact h5 k hk
theorem HLw_cp {LR : mmH → Nat → (Nat → Int32) → Nat → Prop} (FR : LRf LR) {h h' : mmH} {a a' : Nat} {f f' : Nat → Int32} {o o' W : Nat} (hW : W ≤ 6) (e : ∀ c, 122 ≤ c → c < mm_sz h → mm_kd h' c = mm_kd h c ∧ mm_ln h' c = mm_ln h c ∧ (∀ j, mm_gi h' c j = mm_gi h c j) ∧ ∀ j, mm_gr h' c j = mm_gr h c j) (es : mm_sz h ≤ mm_sz h') (er : ∀ w, w < 6 → mm_gr h' (a' + 10) w = mm_gr h (a + 10) w) (ef : ∀ j, 75 ≤ j → j < 5475 → f' (o' + j) = f (o + j)) (H : HLw LR h a f o W) : HLw LR h' a' f' o' W := by
  refine ⟨fun w hw => ?_, fun w hw t ht => ?_⟩
  · obtain ⟨t, h1, h2, h3⟩ := H.1 w hw
    refine ⟨t, by rw [er w (by omega)]; exact h1, h2, FR h h' t f f' _ _ h2 h3 e es (fun j hj => ?_)⟩
    have := ef (75 + 900 * w + j) (by omega) (by omega)
    rw [show o' + 75 + 900 * w + j = o' + (75 + 900 * w + j) by omega, this]
    congr 1
    omega
  · rw [er w hw] at ht
    obtain ⟨h1, h2, h3⟩ := H.2 w hw t ht
    exact ⟨h1, by rw [(e t h1 h3).1]; exact h2, by omega⟩
theorem HLw_cg {LR : mmH → Nat → (Nat → Int32) → Nat → Prop} (FR : LRf LR) {h h' : mmH} {a : Nat} {f f' : Nat → Int32} {o W : Nat} (hW : W ≤ 6) (e : ∀ c, 122 ≤ c → mm_kd h' c = mm_kd h c ∧ mm_ln h' c = mm_ln h c ∧ (∀ j, mm_gi h' c j = mm_gi h c j) ∧ ∀ j, mm_gr h' c j = mm_gr h c j) (es : mm_sz h ≤ mm_sz h') (er : ∀ w, mm_gr h' (a + 10) w = mm_gr h (a + 10) w) (ef : ∀ j, o + 75 ≤ j → j < o + 5475 → f' j = f j) (H : HLw LR h a f o W) : HLw LR h' a f' o W := HLw_cp FR hW (fun c hc _ => e c hc) es (fun w _ => er w) (fun j j1 j2 => ef _ (by omega) (by omega)) H
