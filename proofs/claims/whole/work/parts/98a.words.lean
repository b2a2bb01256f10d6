/-! words as numbers: letters in base 32 -/
def wvN (t : Nat → Nat) (s : Nat) : Nat → Nat
  | 0 => 0
  | k + 1 => wvN t s k * 32 + t (s + k) - 96
theorem wv_inj {t u : Nat → Nat} {s : Nat} : ∀ k l, (∀ j, j < k → 97 ≤ t (s + j) ∧ t (s + j) ≤ 122) → (∀ j, j < l → 97 ≤ u (0 + j) ∧ u (0 + j) ≤ 122) → (wvN t s k = wvN u 0 l ↔ k = l ∧ ∀ j, j < l → t (s + j) = u (0 + j))
  | 0, 0, _, _ => ⟨fun _ => ⟨rfl, fun j hj => by omega⟩, fun _ => rfl⟩
  | 0, l + 1, _, b => by
    have := b l (by omega)
    refine ⟨fun z => ?_, fun z => by omega⟩
    rw [wvN, wvN] at z
    omega
  | k + 1, 0, a, _ => by
    have := a k (by omega)
    refine ⟨fun z => ?_, fun z => by omega⟩
    rw [wvN, wvN] at z
    omega
  | k + 1, l + 1, a, b => by
    have h1 := a k (by omega)
    have h2 := b l (by omega)
    have ih := wv_inj k l (fun j hj => a j (by omega)) (fun j hj => b j (by omega))
    rw [wvN, wvN]
    refine ⟨fun z => ?_, fun z => ?_⟩
    · obtain ⟨e1, e2⟩ := ih.mp (by omega)
      subst e1
      refine ⟨rfl, fun j hj => ?_⟩
      by_cases y : j = k
      · subst y; omega
      · exact e2 j (by omega)
    · have e1 : k = l := by omega
      subst e1
      have := ih.mpr ⟨rfl, fun j hj => z.2 j (by omega)⟩
      have := z.2 k (by omega)
      omega
/-- the code of the word at p; 0 if there is none, or a long one -/
def wN (n : Nat) (t : Nat → Nat) (p : Nat) : Nat := if tkk n t p = 1 ∧ tkb n t p - tks n t p ≤ 10 then wvN t (tks n t p) (tkb n t p - tks n t p) else 0
def wix : List Nat → Nat → Nat → Option Nat
  | [], _, _ => none
  | k :: r, v, x => if v = k then some x else wix r v (x + 1)
def oI (o : Option Nat) : Int32 := match o with
  | none => -1
  | some j => nI j
/-- the codes of the class's lists of words -/
def wc (i : Nat) : List Nat := [[594980, 48880818, 409189, 525939], [24627848, 20207059, 6328499, 67155], [14836], [4153, 146885, 404362868, 508078, 12009203, 7945966], [3417476, 408572082, 21562676, 12009203, 2262611, 7945966, 8902245, 643389604, 4153, 441828], [498], [1476], [655, 89, 486], [21279923], [294]].getD i []
def wlF (w : List Int32) (j : Nat) : Nat := (w.getD j 0).toNatClampNeg
def waL (t : Nat → Int32) (s e : Nat) : List Int32 → Nat → Nat → Bool → Int32
  | [], x, f, m => if m = true ∧ f = e then nI x else -1
  | c :: r, x, f, m => if c = 32 then (if m = true ∧ f = e then nI x else waL t s e r (x + 1) s true) else waL t s e r x (f + 1) (m && (decide (f < e) && decide (t f = c)))
theorem waF_L {t : Nat → Int32} {s e i : Nat} (L : List Int32) (hL : (mm_sk.map (fun x => x.2.2.2)).getD i [] = L) : ∀ n j x f m, j + n = L.length → waF t s e i n j x f m = waL t s e (L.drop j) x f m
  | 0, j, x, f, m, hj => by
    rw [List.drop_eq_nil_of_le (by omega)]
    rfl
  | n + 1, j, x, f, m, hj => by
    have e1 : skB i j = L[j]'(by omega) := by
      rw [skB, hL, List.getD_eq_getElem?_getD, List.getElem?_eq_getElem (by omega)]
      rfl
    rw [List.drop_eq_getElem_cons (by omega), waF, waL, e1, waF_L L hL n (j + 1) (x + 1) s true (by omega), waF_L L hL n (j + 1) x (f + 1) _ (by omega)]
def mtL (t : Nat → Int32) (e : Nat) : Nat → List Int32 → Bool
  | _, [] => true
  | f, c :: r => (decide (f < e) && decide (t f = c)) && mtL t e (f + 1) r
theorem waL_w {t : Nat → Int32} {s e : Nat} : ∀ (w r : List Int32) x f m, (∀ c, c ∈ w → c ≠ 32) → waL t s e (w ++ r) x f m = waL t s e r x (f + w.length) (m && mtL t e f w)
  | [], r, x, f, m, _ => by simp [mtL]
  | c :: w, r, x, f, m, hw => by
    rw [List.cons_append, waL, if_neg (hw c (by simp)), waL_w w r x (f + 1) _ (fun c' h' => hw c' (by simp [h'])), mtL, List.length_cons, Bool.and_assoc, show f + 1 + w.length = f + (w.length + 1) by omega]
theorem mtL_ok {t : Nat → Int32} {v : Nat → Nat} {s e : Nat} (et : ∀ i, i < e → v i < 256 ∧ t i = nI (v i)) : ∀ (w : List Int32) f, (∀ c, c ∈ w → 0 ≤ c.toInt ∧ c.toInt < 256) → (mtL t e f w = true ∧ f + w.length = e ↔ f + w.length = e ∧ ∀ j, j < w.length → v (f + j) = wlF w (0 + j))
  | [], f, _ => by simp [mtL]
  | c :: w, f, hw => by
    have ih := mtL_ok (s := s) et w (f + 1) (fun c' h' => hw c' (by simp [h']))
    have hc := hw c (by simp)
    have ec : c = nI c.toNatClampNeg := by
      apply Int32.toInt_inj.mp
      rw [nI_toInt (by unfold Int32.toNatClampNeg; omega)]
      unfold Int32.toNatClampNeg
      omega
    rw [mtL, List.length_cons, Bool.and_eq_true, Bool.and_eq_true, decide_eq_true_eq, decide_eq_true_eq]
    constructor
    · rintro ⟨⟨⟨h1, h2⟩, h3⟩, h4⟩
      obtain ⟨a1, a2⟩ := ih.mp ⟨h3, by omega⟩
      refine ⟨h4, fun j hj => ?_⟩
      rcases j with _ | j
      · obtain ⟨b1, b2⟩ := et f h1
        have b3 : nI (v f) = nI c.toNatClampNeg := by rw [← b2, h2]; exact ec
        have := (nI_eq (by omega) (by unfold Int32.toNatClampNeg; omega)).mp b3
        show v (f + 0) = wlF (c :: w) (0 + 0)
        rw [Nat.add_zero, this]
        rfl
      · have := a2 j (by omega)
        rw [show f + (j + 1) = f + 1 + j by omega, this]
        show wlF w (0 + j) = wlF (c :: w) (0 + (j + 1))
        rw [Nat.zero_add, Nat.zero_add]
        rfl
    · rintro ⟨h4, h5⟩
      have h1 : f < e := by omega
      have h0 := h5 0 (by omega)
      have := ih.mpr ⟨by omega, fun j hj => by
        have := h5 (j + 1) (by omega)
        rw [show f + 1 + j = f + (j + 1) by omega, this]
        show wlF (c :: w) (0 + (j + 1)) = wlF w (0 + j)
        rw [Nat.zero_add, Nat.zero_add]
        rfl⟩
      refine ⟨⟨⟨h1, ?_⟩, this.1⟩, h4⟩
      obtain ⟨b1, b2⟩ := et f h1
      rw [b2, ec]
      rw [Nat.add_zero] at h0
      rw [h0]
      rfl
theorem rw_let {t : Nat → Nat} : ∀ m p v, ∀ j, p ≤ j → j < (rwF t 1 m p v).1 → kO (t j) = 1
  | 0, p, v, j, h1, h2 => by
    have : (rwF t 1 0 p v).1 = p := rfl
    omega
  | m + 1, p, v, j, h1, h2 => by
    rw [rwF] at h2
    split at h2
    · next z =>
      by_cases y : j = p
      · subst y; exact z
      · exact rw_let m (p + 1) _ j (by omega) h2
    · have : j < p := h2
      omega
theorem kO_1 {x : Nat} (h : kO x = 1) : 97 ≤ x ∧ x ≤ 122 := by
  unfold kO at h
  split at h
  · omega
  · split at h <;> omega
theorem tk_let {n : Nat} {t : Nat → Nat} {p : Nat} (h : tkk n t p = 1) : ∀ j, j < tkb n t p - tks n t p → 97 ≤ t (tks n t p + j) ∧ t (tks n t p + j) ≤ 122 := by
  intro j hj
  have z0 : tks n t p < n := by
    have := tkk_0 (n := n) (t := t) (p := p)
    omega
  have ek : kO (t (tks n t p)) = 1 := by rw [← h, tkk, if_pos z0]
  by_cases y : j = 0
  · subst y; exact kO_1 ek
  · unfold tkb tkr at hj
    rw [if_neg (by omega), if_neg (by omega), h] at hj
    exact kO_1 (rw_let (n - (tks n t p + 1)) (tks n t p + 1) (if (1 : Nat) = 2 then t (tks n t p) - 48 else 0) (tks n t p + j) (by omega) (by omega))
/-- one word of a list -/
theorem wd_eq {n : Nat} {t : Nat → Nat} {p : Nat} {f : Nat → Int32} (hp : p ≤ n) (h1 : tkk n t p = 1) (et : ∀ i, i < n → t i < 256 ∧ f i = nI (t i)) (w : List Int32) (hw : ∀ c, c ∈ w → 97 ≤ c.toInt ∧ c.toInt ≤ 122) (hl : w.length ≤ 10) (h0 : 0 < w.length) : (mtL f (tkb n t p) (tks n t p) w = true ∧ tks n t p + w.length = tkb n t p) ↔ wN n t p = wvN (wlF w) 0 w.length := by
  have bl := tkb_le (t := t) hp
  rw [mtL_ok (s := 0) (v := t) (fun i hi => et i (by omega)) w _ (fun c hc => by have := hw c hc; omega)]
  have hu : ∀ j, j < w.length → 97 ≤ wlF w (0 + j) ∧ wlF w (0 + j) ≤ 122 := by
    intro j hj
    have : wlF w (0 + j) = (w[j]'hj).toNatClampNeg := by
      rw [wlF, Nat.zero_add, List.getD_eq_getElem?_getD, List.getElem?_eq_getElem hj]
      rfl
    rw [this]
    have := hw (w[j]'hj) (List.getElem_mem hj)
    unfold Int32.toNatClampNeg
    omega
  unfold wN
  by_cases z : tkb n t p - tks n t p ≤ 10
  · rw [if_pos ⟨h1, z⟩, wv_inj _ _ (tk_let h1) hu]
    constructor
    · rintro ⟨a, b⟩; exact ⟨by omega, b⟩
    · rintro ⟨a, b⟩; exact ⟨by omega, b⟩
  · rw [if_neg (by omega)]
    constructor
    · intro a; omega
    · intro a
      exfalso
      have := (wv_inj (t := wlF w) (u := wlF w) (s := 0) w.length 0 hu (fun j hj => by omega)).mp (by rw [← a]; rfl)
      omega
theorem waL_s {n : Nat} {t : Nat → Nat} {p : Nat} {f : Nat → Int32} (hp : p ≤ n) (h1 : tkk n t p = 1) (et : ∀ i, i < n → t i < 256 ∧ f i = nI (t i)) (w r : List Int32) (x : Nat) (hw : ∀ c, c ∈ w → 97 ≤ c.toInt ∧ c.toInt ≤ 122) (hl : w.length ≤ 10) (h0 : 0 < w.length) : waL f (tks n t p) (tkb n t p) (w ++ 32 :: r) x (tks n t p) true = if wN n t p = wvN (wlF w) 0 w.length then nI x else waL f (tks n t p) (tkb n t p) r (x + 1) (tks n t p) true := by
  rw [waL_w w (32 :: r) x _ true (fun c hc z => by have := hw c hc; rw [z] at this; revert this; decide), waL, if_pos rfl, Bool.true_and]
  by_cases z : wN n t p = wvN (wlF w) 0 w.length
  · rw [if_pos z, if_pos ((wd_eq hp h1 et w hw hl h0).mpr z)]
  · rw [if_neg z, if_neg (fun y => z ((wd_eq hp h1 et w hw hl h0).mp y))]
theorem waL_e {n : Nat} {t : Nat → Nat} {p : Nat} {f : Nat → Int32} (hp : p ≤ n) (h1 : tkk n t p = 1) (et : ∀ i, i < n → t i < 256 ∧ f i = nI (t i)) (w : List Int32) (x : Nat) (hw : ∀ c, c ∈ w → 97 ≤ c.toInt ∧ c.toInt ≤ 122) (hl : w.length ≤ 10) (h0 : 0 < w.length) : waL f (tks n t p) (tkb n t p) w x (tks n t p) true = if wN n t p = wvN (wlF w) 0 w.length then nI x else -1 := by
  have := waL_w (t := f) (s := tks n t p) (e := tkb n t p) w [] x (tks n t p) true (fun c hc z => by have := hw c hc; rw [z] at this; revert this; decide)
  rw [List.append_nil] at this
  rw [this, waL, Bool.true_and]
  by_cases z : wN n t p = wvN (wlF w) 0 w.length
  · rw [if_pos z, if_pos ((wd_eq hp h1 et w hw hl h0).mpr z)]
  · rw [if_neg z, if_neg (fun y => z ((wd_eq hp h1 et w hw hl h0).mp y))]
theorem wa_0 {n : Nat} {t : Nat → Nat} {p : Nat} {f : Nat → Int32} (hp : p ≤ n) (h1 : tkk n t p = 1) (et : ∀ i, i < n → t i < 256 ∧ f i = nI (t i)) : waF f (tks n t p) (tkb n t p) 0 (skL 0) 0 0 (tks n t p) true = oI (wix (wc 0) (wN n t p) 0) := by
  rw [waF_L [114, 101, 97, 100, 32, 97, 110, 115, 119, 101, 114, 32, 108, 111, 115, 101, 32, 112, 97, 115, 115] rfl (skL 0) 0 0 _ true rfl]
  rw [show List.drop 0 ([114, 101, 97, 100, 32, 97, 110, 115, 119, 101, 114, 32, 108, 111, 115, 101, 32, 112, 97, 115, 115] : List Int32) = [114, 101, 97, 100] ++ 32 :: [97, 110, 115, 119, 101, 114, 32, 108, 111, 115, 101, 32, 112, 97, 115, 115] from rfl]
  rw [waL_s hp h1 et [114, 101, 97, 100] [97, 110, 115, 119, 101, 114, 32, 108, 111, 115, 101, 32, 112, 97, 115, 115] 0 (by decide) (by decide) (by decide), show wvN (wlF [114, 101, 97, 100]) 0 ([114, 101, 97, 100] : List Int32).length = 594980 from by decide]
  by_cases z0 : wN n t p = 594980
  · rw [if_pos z0, z0]; rfl
  rw [if_neg z0]
  rw [show ([97, 110, 115, 119, 101, 114, 32, 108, 111, 115, 101, 32, 112, 97, 115, 115] : List Int32) = [97, 110, 115, 119, 101, 114] ++ 32 :: [108, 111, 115, 101, 32, 112, 97, 115, 115] from rfl]
  rw [waL_s hp h1 et [97, 110, 115, 119, 101, 114] [108, 111, 115, 101, 32, 112, 97, 115, 115] 1 (by decide) (by decide) (by decide), show wvN (wlF [97, 110, 115, 119, 101, 114]) 0 ([97, 110, 115, 119, 101, 114] : List Int32).length = 48880818 from by decide]
  by_cases z1 : wN n t p = 48880818
  · rw [if_pos z1, z1]; rfl
  rw [if_neg z1]
  rw [show ([108, 111, 115, 101, 32, 112, 97, 115, 115] : List Int32) = [108, 111, 115, 101] ++ 32 :: [112, 97, 115, 115] from rfl]
  rw [waL_s hp h1 et [108, 111, 115, 101] [112, 97, 115, 115] 2 (by decide) (by decide) (by decide), show wvN (wlF [108, 111, 115, 101]) 0 ([108, 111, 115, 101] : List Int32).length = 409189 from by decide]
  by_cases z2 : wN n t p = 409189
  · rw [if_pos z2, z2]; rfl
  rw [if_neg z2]
  rw [waL_e hp h1 et [112, 97, 115, 115] 3 (by decide) (by decide) (by decide), show wvN (wlF [112, 97, 115, 115]) 0 ([112, 97, 115, 115] : List Int32).length = 525939 from by decide]
  by_cases z3 : wN n t p = 525939
  · rw [if_pos z3, z3]; rfl
  rw [if_neg z3]
  show _ = oI (wix [594980, 48880818, 409189, 525939] (wN n t p) 0)
  simp only [wix, z0, z1, z2, z3, if_false]
  rfl
theorem wa_1 {n : Nat} {t : Nat → Nat} {p : Nat} {f : Nat → Int32} (hp : p ≤ n) (h1 : tkk n t p = 1) (et : ∀ i, i < n → t i < 256 ∧ f i = nI (t i)) : waF f (tks n t p) (tkb n t p) 1 (skL 1) 0 0 (tks n t p) true = oI (wix (wc 1) (wN n t p) 0) := by
  rw [waF_L [119, 111, 114, 116, 104, 32, 115, 104, 117, 110, 115, 32, 102, 97, 100, 101, 115, 32, 98, 97, 114, 115] rfl (skL 1) 0 0 _ true rfl]
  rw [show List.drop 0 ([119, 111, 114, 116, 104, 32, 115, 104, 117, 110, 115, 32, 102, 97, 100, 101, 115, 32, 98, 97, 114, 115] : List Int32) = [119, 111, 114, 116, 104] ++ 32 :: [115, 104, 117, 110, 115, 32, 102, 97, 100, 101, 115, 32, 98, 97, 114, 115] from rfl]
  rw [waL_s hp h1 et [119, 111, 114, 116, 104] [115, 104, 117, 110, 115, 32, 102, 97, 100, 101, 115, 32, 98, 97, 114, 115] 0 (by decide) (by decide) (by decide), show wvN (wlF [119, 111, 114, 116, 104]) 0 ([119, 111, 114, 116, 104] : List Int32).length = 24627848 from by decide]
  by_cases z0 : wN n t p = 24627848
  · rw [if_pos z0, z0]; rfl
  rw [if_neg z0]
  rw [show ([115, 104, 117, 110, 115, 32, 102, 97, 100, 101, 115, 32, 98, 97, 114, 115] : List Int32) = [115, 104, 117, 110, 115] ++ 32 :: [102, 97, 100, 101, 115, 32, 98, 97, 114, 115] from rfl]
  rw [waL_s hp h1 et [115, 104, 117, 110, 115] [102, 97, 100, 101, 115, 32, 98, 97, 114, 115] 1 (by decide) (by decide) (by decide), show wvN (wlF [115, 104, 117, 110, 115]) 0 ([115, 104, 117, 110, 115] : List Int32).length = 20207059 from by decide]
  by_cases z1 : wN n t p = 20207059
  · rw [if_pos z1, z1]; rfl
  rw [if_neg z1]
  rw [show ([102, 97, 100, 101, 115, 32, 98, 97, 114, 115] : List Int32) = [102, 97, 100, 101, 115] ++ 32 :: [98, 97, 114, 115] from rfl]
  rw [waL_s hp h1 et [102, 97, 100, 101, 115] [98, 97, 114, 115] 2 (by decide) (by decide) (by decide), show wvN (wlF [102, 97, 100, 101, 115]) 0 ([102, 97, 100, 101, 115] : List Int32).length = 6328499 from by decide]
  by_cases z2 : wN n t p = 6328499
  · rw [if_pos z2, z2]; rfl
  rw [if_neg z2]
  rw [waL_e hp h1 et [98, 97, 114, 115] 3 (by decide) (by decide) (by decide), show wvN (wlF [98, 97, 114, 115]) 0 ([98, 97, 114, 115] : List Int32).length = 67155 from by decide]
  by_cases z3 : wN n t p = 67155
  · rw [if_pos z3, z3]; rfl
  rw [if_neg z3]
  show _ = oI (wix [24627848, 20207059, 6328499, 67155] (wN n t p) 0)
  simp only [wix, z0, z1, z2, z3, if_false]
  rfl
theorem wa_2 {n : Nat} {t : Nat → Nat} {p : Nat} {f : Nat → Int32} (hp : p ≤ n) (h1 : tkk n t p = 1) (et : ∀ i, i < n → t i < 256 ∧ f i = nI (t i)) : waF f (tks n t p) (tkb n t p) 2 (skL 2) 0 0 (tks n t p) true = oI (wix (wc 2) (wN n t p) 0) := by
  rw [waF_L [110, 111, 116] rfl (skL 2) 0 0 _ true rfl]
  rw [show List.drop 0 ([110, 111, 116] : List Int32) = [110, 111, 116] from rfl]
  rw [waL_e hp h1 et [110, 111, 116] 0 (by decide) (by decide) (by decide), show wvN (wlF [110, 111, 116]) 0 ([110, 111, 116] : List Int32).length = 14836 from by decide]
  by_cases z0 : wN n t p = 14836
  · rw [if_pos z0, z0]; rfl
  rw [if_neg z0]
  show _ = oI (wix [14836] (wN n t p) 0)
  simp only [wix, z0, if_false]
  rfl
theorem wa_3 {n : Nat} {t : Nat → Nat} {p : Nat} {f : Nat → Int32} (hp : p ≤ n) (h1 : tkk n t p = 1) (et : ∀ i, i < n → t i < 256 ∧ f i = nI (t i)) : waF f (tks n t p) (tkb n t p) 3 (skL 3) 0 0 (tks n t p) true = oI (wix (wc 3) (wN n t p) 0) := by
  rw [waF_L [100, 97, 121, 32, 100, 111, 110, 101, 32, 108, 97, 116, 101, 115, 116, 32, 111, 112, 101, 110, 32, 107, 110, 111, 119, 115, 32, 103, 114, 111, 119, 110] rfl (skL 3) 0 0 _ true rfl]
  rw [show List.drop 0 ([100, 97, 121, 32, 100, 111, 110, 101, 32, 108, 97, 116, 101, 115, 116, 32, 111, 112, 101, 110, 32, 107, 110, 111, 119, 115, 32, 103, 114, 111, 119, 110] : List Int32) = [100, 97, 121] ++ 32 :: [100, 111, 110, 101, 32, 108, 97, 116, 101, 115, 116, 32, 111, 112, 101, 110, 32, 107, 110, 111, 119, 115, 32, 103, 114, 111, 119, 110] from rfl]
  rw [waL_s hp h1 et [100, 97, 121] [100, 111, 110, 101, 32, 108, 97, 116, 101, 115, 116, 32, 111, 112, 101, 110, 32, 107, 110, 111, 119, 115, 32, 103, 114, 111, 119, 110] 0 (by decide) (by decide) (by decide), show wvN (wlF [100, 97, 121]) 0 ([100, 97, 121] : List Int32).length = 4153 from by decide]
  by_cases z0 : wN n t p = 4153
  · rw [if_pos z0, z0]; rfl
  rw [if_neg z0]
  rw [show ([100, 111, 110, 101, 32, 108, 97, 116, 101, 115, 116, 32, 111, 112, 101, 110, 32, 107, 110, 111, 119, 115, 32, 103, 114, 111, 119, 110] : List Int32) = [100, 111, 110, 101] ++ 32 :: [108, 97, 116, 101, 115, 116, 32, 111, 112, 101, 110, 32, 107, 110, 111, 119, 115, 32, 103, 114, 111, 119, 110] from rfl]
  rw [waL_s hp h1 et [100, 111, 110, 101] [108, 97, 116, 101, 115, 116, 32, 111, 112, 101, 110, 32, 107, 110, 111, 119, 115, 32, 103, 114, 111, 119, 110] 1 (by decide) (by decide) (by decide), show wvN (wlF [100, 111, 110, 101]) 0 ([100, 111, 110, 101] : List Int32).length = 146885 from by decide]
  by_cases z1 : wN n t p = 146885
  · rw [if_pos z1, z1]; rfl
  rw [if_neg z1]
  rw [show ([108, 97, 116, 101, 115, 116, 32, 111, 112, 101, 110, 32, 107, 110, 111, 119, 115, 32, 103, 114, 111, 119, 110] : List Int32) = [108, 97, 116, 101, 115, 116] ++ 32 :: [111, 112, 101, 110, 32, 107, 110, 111, 119, 115, 32, 103, 114, 111, 119, 110] from rfl]
  rw [waL_s hp h1 et [108, 97, 116, 101, 115, 116] [111, 112, 101, 110, 32, 107, 110, 111, 119, 115, 32, 103, 114, 111, 119, 110] 2 (by decide) (by decide) (by decide), show wvN (wlF [108, 97, 116, 101, 115, 116]) 0 ([108, 97, 116, 101, 115, 116] : List Int32).length = 404362868 from by decide]
  by_cases z2 : wN n t p = 404362868
  · rw [if_pos z2, z2]; rfl
  rw [if_neg z2]
  rw [show ([111, 112, 101, 110, 32, 107, 110, 111, 119, 115, 32, 103, 114, 111, 119, 110] : List Int32) = [111, 112, 101, 110] ++ 32 :: [107, 110, 111, 119, 115, 32, 103, 114, 111, 119, 110] from rfl]
  rw [waL_s hp h1 et [111, 112, 101, 110] [107, 110, 111, 119, 115, 32, 103, 114, 111, 119, 110] 3 (by decide) (by decide) (by decide), show wvN (wlF [111, 112, 101, 110]) 0 ([111, 112, 101, 110] : List Int32).length = 508078 from by decide]
  by_cases z3 : wN n t p = 508078
  · rw [if_pos z3, z3]; rfl
  rw [if_neg z3]
  rw [show ([107, 110, 111, 119, 115, 32, 103, 114, 111, 119, 110] : List Int32) = [107, 110, 111, 119, 115] ++ 32 :: [103, 114, 111, 119, 110] from rfl]
  rw [waL_s hp h1 et [107, 110, 111, 119, 115] [103, 114, 111, 119, 110] 4 (by decide) (by decide) (by decide), show wvN (wlF [107, 110, 111, 119, 115]) 0 ([107, 110, 111, 119, 115] : List Int32).length = 12009203 from by decide]
  by_cases z4 : wN n t p = 12009203
  · rw [if_pos z4, z4]; rfl
  rw [if_neg z4]
  rw [waL_e hp h1 et [103, 114, 111, 119, 110] 5 (by decide) (by decide) (by decide), show wvN (wlF [103, 114, 111, 119, 110]) 0 ([103, 114, 111, 119, 110] : List Int32).length = 7945966 from by decide]
  by_cases z5 : wN n t p = 7945966
  · rw [if_pos z5, z5]; rfl
  rw [if_neg z5]
  show _ = oI (wix [4153, 146885, 404362868, 508078, 12009203, 7945966] (wN n t p) 0)
  simp only [wix, z0, z1, z2, z3, z4, z5, if_false]
  rfl
theorem wa_4 {n : Nat} {t : Nat → Nat} {p : Nat} {f : Nat → Int32} (hp : p ≤ n) (h1 : tkk n t p = 1) (et : ∀ i, i < n → t i < 256 ∧ f i = nI (t i)) : waF f (tks n t p) (tkb n t p) 4 (skL 4) 0 0 (tks n t p) true = oI (wix (wc 4) (wN n t p) 0) := by
  rw [waF_L [99, 104, 105, 108, 100, 32, 108, 101, 116, 116, 101, 114, 32, 116, 114, 97, 105, 116, 32, 107, 110, 111, 119, 115, 32, 98, 101, 97, 114, 115, 32, 103, 114, 111, 119, 110, 32, 104, 111, 117, 115, 101, 32, 115, 101, 114, 118, 101, 100, 32, 100, 97, 121, 32, 109, 111, 111, 100] rfl (skL 4) 0 0 _ true rfl]
  rw [show List.drop 0 ([99, 104, 105, 108, 100, 32, 108, 101, 116, 116, 101, 114, 32, 116, 114, 97, 105, 116, 32, 107, 110, 111, 119, 115, 32, 98, 101, 97, 114, 115, 32, 103, 114, 111, 119, 110, 32, 104, 111, 117, 115, 101, 32, 115, 101, 114, 118, 101, 100, 32, 100, 97, 121, 32, 109, 111, 111, 100] : List Int32) = [99, 104, 105, 108, 100] ++ 32 :: [108, 101, 116, 116, 101, 114, 32, 116, 114, 97, 105, 116, 32, 107, 110, 111, 119, 115, 32, 98, 101, 97, 114, 115, 32, 103, 114, 111, 119, 110, 32, 104, 111, 117, 115, 101, 32, 115, 101, 114, 118, 101, 100, 32, 100, 97, 121, 32, 109, 111, 111, 100] from rfl]
  rw [waL_s hp h1 et [99, 104, 105, 108, 100] [108, 101, 116, 116, 101, 114, 32, 116, 114, 97, 105, 116, 32, 107, 110, 111, 119, 115, 32, 98, 101, 97, 114, 115, 32, 103, 114, 111, 119, 110, 32, 104, 111, 117, 115, 101, 32, 115, 101, 114, 118, 101, 100, 32, 100, 97, 121, 32, 109, 111, 111, 100] 0 (by decide) (by decide) (by decide), show wvN (wlF [99, 104, 105, 108, 100]) 0 ([99, 104, 105, 108, 100] : List Int32).length = 3417476 from by decide]
  by_cases z0 : wN n t p = 3417476
  · rw [if_pos z0, z0]; rfl
  rw [if_neg z0]
  rw [show ([108, 101, 116, 116, 101, 114, 32, 116, 114, 97, 105, 116, 32, 107, 110, 111, 119, 115, 32, 98, 101, 97, 114, 115, 32, 103, 114, 111, 119, 110, 32, 104, 111, 117, 115, 101, 32, 115, 101, 114, 118, 101, 100, 32, 100, 97, 121, 32, 109, 111, 111, 100] : List Int32) = [108, 101, 116, 116, 101, 114] ++ 32 :: [116, 114, 97, 105, 116, 32, 107, 110, 111, 119, 115, 32, 98, 101, 97, 114, 115, 32, 103, 114, 111, 119, 110, 32, 104, 111, 117, 115, 101, 32, 115, 101, 114, 118, 101, 100, 32, 100, 97, 121, 32, 109, 111, 111, 100] from rfl]
  rw [waL_s hp h1 et [108, 101, 116, 116, 101, 114] [116, 114, 97, 105, 116, 32, 107, 110, 111, 119, 115, 32, 98, 101, 97, 114, 115, 32, 103, 114, 111, 119, 110, 32, 104, 111, 117, 115, 101, 32, 115, 101, 114, 118, 101, 100, 32, 100, 97, 121, 32, 109, 111, 111, 100] 1 (by decide) (by decide) (by decide), show wvN (wlF [108, 101, 116, 116, 101, 114]) 0 ([108, 101, 116, 116, 101, 114] : List Int32).length = 408572082 from by decide]
  by_cases z1 : wN n t p = 408572082
  · rw [if_pos z1, z1]; rfl
  rw [if_neg z1]
  rw [show ([116, 114, 97, 105, 116, 32, 107, 110, 111, 119, 115, 32, 98, 101, 97, 114, 115, 32, 103, 114, 111, 119, 110, 32, 104, 111, 117, 115, 101, 32, 115, 101, 114, 118, 101, 100, 32, 100, 97, 121, 32, 109, 111, 111, 100] : List Int32) = [116, 114, 97, 105, 116] ++ 32 :: [107, 110, 111, 119, 115, 32, 98, 101, 97, 114, 115, 32, 103, 114, 111, 119, 110, 32, 104, 111, 117, 115, 101, 32, 115, 101, 114, 118, 101, 100, 32, 100, 97, 121, 32, 109, 111, 111, 100] from rfl]
  rw [waL_s hp h1 et [116, 114, 97, 105, 116] [107, 110, 111, 119, 115, 32, 98, 101, 97, 114, 115, 32, 103, 114, 111, 119, 110, 32, 104, 111, 117, 115, 101, 32, 115, 101, 114, 118, 101, 100, 32, 100, 97, 121, 32, 109, 111, 111, 100] 2 (by decide) (by decide) (by decide), show wvN (wlF [116, 114, 97, 105, 116]) 0 ([116, 114, 97, 105, 116] : List Int32).length = 21562676 from by decide]
  by_cases z2 : wN n t p = 21562676
  · rw [if_pos z2, z2]; rfl
  rw [if_neg z2]
  rw [show ([107, 110, 111, 119, 115, 32, 98, 101, 97, 114, 115, 32, 103, 114, 111, 119, 110, 32, 104, 111, 117, 115, 101, 32, 115, 101, 114, 118, 101, 100, 32, 100, 97, 121, 32, 109, 111, 111, 100] : List Int32) = [107, 110, 111, 119, 115] ++ 32 :: [98, 101, 97, 114, 115, 32, 103, 114, 111, 119, 110, 32, 104, 111, 117, 115, 101, 32, 115, 101, 114, 118, 101, 100, 32, 100, 97, 121, 32, 109, 111, 111, 100] from rfl]
  rw [waL_s hp h1 et [107, 110, 111, 119, 115] [98, 101, 97, 114, 115, 32, 103, 114, 111, 119, 110, 32, 104, 111, 117, 115, 101, 32, 115, 101, 114, 118, 101, 100, 32, 100, 97, 121, 32, 109, 111, 111, 100] 3 (by decide) (by decide) (by decide), show wvN (wlF [107, 110, 111, 119, 115]) 0 ([107, 110, 111, 119, 115] : List Int32).length = 12009203 from by decide]
  by_cases z3 : wN n t p = 12009203
  · rw [if_pos z3, z3]; rfl
  rw [if_neg z3]
  rw [show ([98, 101, 97, 114, 115, 32, 103, 114, 111, 119, 110, 32, 104, 111, 117, 115, 101, 32, 115, 101, 114, 118, 101, 100, 32, 100, 97, 121, 32, 109, 111, 111, 100] : List Int32) = [98, 101, 97, 114, 115] ++ 32 :: [103, 114, 111, 119, 110, 32, 104, 111, 117, 115, 101, 32, 115, 101, 114, 118, 101, 100, 32, 100, 97, 121, 32, 109, 111, 111, 100] from rfl]
  rw [waL_s hp h1 et [98, 101, 97, 114, 115] [103, 114, 111, 119, 110, 32, 104, 111, 117, 115, 101, 32, 115, 101, 114, 118, 101, 100, 32, 100, 97, 121, 32, 109, 111, 111, 100] 4 (by decide) (by decide) (by decide), show wvN (wlF [98, 101, 97, 114, 115]) 0 ([98, 101, 97, 114, 115] : List Int32).length = 2262611 from by decide]
  by_cases z4 : wN n t p = 2262611
  · rw [if_pos z4, z4]; rfl
  rw [if_neg z4]
  rw [show ([103, 114, 111, 119, 110, 32, 104, 111, 117, 115, 101, 32, 115, 101, 114, 118, 101, 100, 32, 100, 97, 121, 32, 109, 111, 111, 100] : List Int32) = [103, 114, 111, 119, 110] ++ 32 :: [104, 111, 117, 115, 101, 32, 115, 101, 114, 118, 101, 100, 32, 100, 97, 121, 32, 109, 111, 111, 100] from rfl]
  rw [waL_s hp h1 et [103, 114, 111, 119, 110] [104, 111, 117, 115, 101, 32, 115, 101, 114, 118, 101, 100, 32, 100, 97, 121, 32, 109, 111, 111, 100] 5 (by decide) (by decide) (by decide), show wvN (wlF [103, 114, 111, 119, 110]) 0 ([103, 114, 111, 119, 110] : List Int32).length = 7945966 from by decide]
  by_cases z5 : wN n t p = 7945966
  · rw [if_pos z5, z5]; rfl
  rw [if_neg z5]
  rw [show ([104, 111, 117, 115, 101, 32, 115, 101, 114, 118, 101, 100, 32, 100, 97, 121, 32, 109, 111, 111, 100] : List Int32) = [104, 111, 117, 115, 101] ++ 32 :: [115, 101, 114, 118, 101, 100, 32, 100, 97, 121, 32, 109, 111, 111, 100] from rfl]
  rw [waL_s hp h1 et [104, 111, 117, 115, 101] [115, 101, 114, 118, 101, 100, 32, 100, 97, 121, 32, 109, 111, 111, 100] 6 (by decide) (by decide) (by decide), show wvN (wlF [104, 111, 117, 115, 101]) 0 ([104, 111, 117, 115, 101] : List Int32).length = 8902245 from by decide]
  by_cases z6 : wN n t p = 8902245
  · rw [if_pos z6, z6]; rfl
  rw [if_neg z6]
  rw [show ([115, 101, 114, 118, 101, 100, 32, 100, 97, 121, 32, 109, 111, 111, 100] : List Int32) = [115, 101, 114, 118, 101, 100] ++ 32 :: [100, 97, 121, 32, 109, 111, 111, 100] from rfl]
  rw [waL_s hp h1 et [115, 101, 114, 118, 101, 100] [100, 97, 121, 32, 109, 111, 111, 100] 7 (by decide) (by decide) (by decide), show wvN (wlF [115, 101, 114, 118, 101, 100]) 0 ([115, 101, 114, 118, 101, 100] : List Int32).length = 643389604 from by decide]
  by_cases z7 : wN n t p = 643389604
  · rw [if_pos z7, z7]; rfl
  rw [if_neg z7]
  rw [show ([100, 97, 121, 32, 109, 111, 111, 100] : List Int32) = [100, 97, 121] ++ 32 :: [109, 111, 111, 100] from rfl]
  rw [waL_s hp h1 et [100, 97, 121] [109, 111, 111, 100] 8 (by decide) (by decide) (by decide), show wvN (wlF [100, 97, 121]) 0 ([100, 97, 121] : List Int32).length = 4153 from by decide]
  by_cases z8 : wN n t p = 4153
  · rw [if_pos z8, z8]; rfl
  rw [if_neg z8]
  rw [waL_e hp h1 et [109, 111, 111, 100] 9 (by decide) (by decide) (by decide), show wvN (wlF [109, 111, 111, 100]) 0 ([109, 111, 111, 100] : List Int32).length = 441828 from by decide]
  by_cases z9 : wN n t p = 441828
  · rw [if_pos z9, z9]; rfl
  rw [if_neg z9]
  show _ = oI (wix [3417476, 408572082, 21562676, 12009203, 2262611, 7945966, 8902245, 643389604, 4153, 441828] (wN n t p) 0)
  simp only [wix, z0, z1, z2, z3, z4, z5, z6, z7, z8, z9, if_false]
  rfl
theorem wa_5 {n : Nat} {t : Nat → Nat} {p : Nat} {f : Nat → Int32} (hp : p ≤ n) (h1 : tkk n t p = 1) (et : ∀ i, i < n → t i < 256 ∧ f i = nI (t i)) : waF f (tks n t p) (tkb n t p) 5 (skL 5) 0 0 (tks n t p) true = oI (wix (wc 5) (wN n t p) 0) := by
  rw [waF_L [111, 114] rfl (skL 5) 0 0 _ true rfl]
  rw [show List.drop 0 ([111, 114] : List Int32) = [111, 114] from rfl]
  rw [waL_e hp h1 et [111, 114] 0 (by decide) (by decide) (by decide), show wvN (wlF [111, 114]) 0 ([111, 114] : List Int32).length = 498 from by decide]
  by_cases z0 : wN n t p = 498
  · rw [if_pos z0, z0]; rfl
  rw [if_neg z0]
  show _ = oI (wix [498] (wN n t p) 0)
  simp only [wix, z0, if_false]
  rfl
theorem wa_6 {n : Nat} {t : Nat → Nat} {p : Nat} {f : Nat → Int32} (hp : p ≤ n) (h1 : tkk n t p = 1) (et : ∀ i, i < n → t i < 256 ∧ f i = nI (t i)) : waF f (tks n t p) (tkb n t p) 6 (skL 6) 0 0 (tks n t p) true = oI (wix (wc 6) (wN n t p) 0) := by
  rw [waF_L [97, 110, 100] rfl (skL 6) 0 0 _ true rfl]
  rw [show List.drop 0 ([97, 110, 100] : List Int32) = [97, 110, 100] from rfl]
  rw [waL_e hp h1 et [97, 110, 100] 0 (by decide) (by decide) (by decide), show wvN (wlF [97, 110, 100]) 0 ([97, 110, 100] : List Int32).length = 1476 from by decide]
  by_cases z0 : wN n t p = 1476
  · rw [if_pos z0, z0]; rfl
  rw [if_neg z0]
  show _ = oI (wix [1476] (wN n t p) 0)
  simp only [wix, z0, if_false]
  rfl
theorem wa_7 {n : Nat} {t : Nat → Nat} {p : Nat} {f : Nat → Int32} (hp : p ≤ n) (h1 : tkk n t p = 1) (et : ∀ i, i < n → t i < 256 ∧ f i = nI (t i)) : waF f (tks n t p) (tkb n t p) 7 (skL 7) 0 0 (tks n t p) true = oI (wix (wc 7) (wN n t p) 0) := by
  rw [waF_L [116, 111, 32, 98, 121, 32, 111, 102] rfl (skL 7) 0 0 _ true rfl]
  rw [show List.drop 0 ([116, 111, 32, 98, 121, 32, 111, 102] : List Int32) = [116, 111] ++ 32 :: [98, 121, 32, 111, 102] from rfl]
  rw [waL_s hp h1 et [116, 111] [98, 121, 32, 111, 102] 0 (by decide) (by decide) (by decide), show wvN (wlF [116, 111]) 0 ([116, 111] : List Int32).length = 655 from by decide]
  by_cases z0 : wN n t p = 655
  · rw [if_pos z0, z0]; rfl
  rw [if_neg z0]
  rw [show ([98, 121, 32, 111, 102] : List Int32) = [98, 121] ++ 32 :: [111, 102] from rfl]
  rw [waL_s hp h1 et [98, 121] [111, 102] 1 (by decide) (by decide) (by decide), show wvN (wlF [98, 121]) 0 ([98, 121] : List Int32).length = 89 from by decide]
  by_cases z1 : wN n t p = 89
  · rw [if_pos z1, z1]; rfl
  rw [if_neg z1]
  rw [waL_e hp h1 et [111, 102] 2 (by decide) (by decide) (by decide), show wvN (wlF [111, 102]) 0 ([111, 102] : List Int32).length = 486 from by decide]
  by_cases z2 : wN n t p = 486
  · rw [if_pos z2, z2]; rfl
  rw [if_neg z2]
  show _ = oI (wix [655, 89, 486] (wN n t p) 0)
  simp only [wix, z0, z1, z2, if_false]
  rfl
theorem wa_8 {n : Nat} {t : Nat → Nat} {p : Nat} {f : Nat → Int32} (hp : p ≤ n) (h1 : tkk n t p = 1) (et : ∀ i, i < n → t i < 256 ∧ f i = nI (t i)) : waF f (tks n t p) (tkb n t p) 8 (skL 8) 0 0 (tks n t p) true = oI (wix (wc 8) (wN n t p) 0) := by
  rw [waF_L [116, 105, 109, 101, 115] rfl (skL 8) 0 0 _ true rfl]
  rw [show List.drop 0 ([116, 105, 109, 101, 115] : List Int32) = [116, 105, 109, 101, 115] from rfl]
  rw [waL_e hp h1 et [116, 105, 109, 101, 115] 0 (by decide) (by decide) (by decide), show wvN (wlF [116, 105, 109, 101, 115]) 0 ([116, 105, 109, 101, 115] : List Int32).length = 21279923 from by decide]
  by_cases z0 : wN n t p = 21279923
  · rw [if_pos z0, z0]; rfl
  rw [if_neg z0]
  show _ = oI (wix [21279923] (wN n t p) 0)
  simp only [wix, z0, if_false]
  rfl
theorem wa_9 {n : Nat} {t : Nat → Nat} {p : Nat} {f : Nat → Int32} (hp : p ≤ n) (h1 : tkk n t p = 1) (et : ∀ i, i < n → t i < 256 ∧ f i = nI (t i)) : waF f (tks n t p) (tkb n t p) 9 (skL 9) 0 0 (tks n t p) true = oI (wix (wc 9) (wN n t p) 0) := by
  rw [waF_L [105, 102] rfl (skL 9) 0 0 _ true rfl]
  rw [show List.drop 0 ([105, 102] : List Int32) = [105, 102] from rfl]
  rw [waL_e hp h1 et [105, 102] 0 (by decide) (by decide) (by decide), show wvN (wlF [105, 102]) 0 ([105, 102] : List Int32).length = 294 from by decide]
  by_cases z0 : wN n t p = 294
  · rw [if_pos z0, z0]; rfl
  rw [if_neg z0]
  show _ = oI (wix [294] (wN n t p) 0)
  simp only [wix, z0, if_false]
  rfl
theorem wa_all {n : Nat} {t : Nat → Nat} {p : Nat} {f : Nat → Int32} (hp : p ≤ n) (h1 : tkk n t p = 1) (et : ∀ i, i < n → t i < 256 ∧ f i = nI (t i)) : ∀ i, i < 10 → waF f (tks n t p) (tkb n t p) i (skL i) 0 0 (tks n t p) true = oI (wix (wc i) (wN n t p) 0)
  | 0, _ => wa_0 hp h1 et
  | 1, _ => wa_1 hp h1 et
  | 2, _ => wa_2 hp h1 et
  | 3, _ => wa_3 hp h1 et
  | 4, _ => wa_4 hp h1 et
  | 5, _ => wa_5 hp h1 et
  | 6, _ => wa_6 hp h1 et
  | 7, _ => wa_7 hp h1 et
  | 8, _ => wa_8 hp h1 et
  | 9, _ => wa_9 hp h1 et
  | i + 10, h => absurd h (by omega)
/-- which of the words of list i stands at p -/
def wq (n : Nat) (t : Nat → Nat) (i p : Nat) : Option Nat := wix (wc i) (wN n t p) 0
section
variable {d : Nat} {h : mmH} {K : Option Value → mmH → Prop} {n : Nat} {t : Nat → Nat} {p i : Nat}
theorem wix_0 : ∀ i, i < 10 → ∀ k, k ∈ wc i → k ≠ 0 := by decide
theorem wix_n : ∀ (l : List Nat) x v, (∀ k, k ∈ l → k ≠ v) → wix l v x = none
  | [], _, _, _ => rfl
  | k :: r, x, v, h => by rw [wix, if_neg (fun z => h k (by simp) z.symm), wix_n r _ _ (fun k' h' => h k' (by simp [h']))]
theorem sp_wA (H : WS h) (T : TPE h n t) (hp : p ≤ n) (C : TKc h n t p) (hi : i < 10) (k : K (some (.int (oI (wq n t i p)))) h) : mm_MV q_X7_wordAmong (d + 4) (0, 0) [.ref 57, .retAddr i] h K := by
  have n4 := T.1
  have s1 := tks_le (t := t) hp
  have s2 := tkb_le (t := t) hp
  by_cases z : tkk n t p = 1
  · refine sp_wordAmong (s := tks n t p) (e := tkb n t p) H hi (by rw [C.1, z]; rfl) C.2.1 C.2.2.1 (by omega) (by omega) ?_
    rw [wa_all hp z T.2.2 i hi]
    exact k
  · refine sp_wordAmong_no H (fun y => z ?_) ?_
    · rw [C.1] at y
      exact (nI_eq (b := 1) (by have := tkk_le (n := n) (t := t) (p := p); omega) (by decide)).mp y
    · have : wq n t i p = none := by
        unfold wq wN
        rw [if_neg (fun y => z y.1)]
        exact wix_n _ _ _ (wix_0 i hi)
      rw [this] at k
      exact k
end
