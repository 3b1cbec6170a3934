/-! calls that only read: both halves answer alike -/
def OpI (X : XT) (d d' : Nat) (yx : MethodName) (bx : ByteArray) (nx : Nat) (yz : MethodName) (bz : ByteArray) (nz : Nat) (ax az : List Value) (c : Int) (S : Sg) : Prop := ∃ P : Int → Sg → Prop, Ctr X d yx bx nx (some .int) ax (mk S) (PI P) 0 0 ∧ ∀ (r : Int) (S1 : Sg), P r S1 → ∃ Q : Int → Sg → Prop, Ctr X d' yz bz nz (some .int) az (mk S1) (PI Q) 0 0 ∧ ∀ (r' : Int) (S2 : Sg), Q r' S2 → r' = r ∧ RI (c + 1) S2
theorem OpI.rd {X : XT} {d d' : Nat} {yx : MethodName} {bx : ByteArray} {nx : Nat} {yz : MethodName} {bz : ByteArray} {nz : Nat} {ax az : List Value} {c : Int} {S : Sg} {p q : Nat} {P Q : Int → Sg → Prop} (hR : Rp c S p q) (hc : c + 1 ≤ 5000) (cx : Ctr X d yx bx nx (some .int) ax (mk S) (PI P) 0 0) (cz : Ctr X d' yz bz nz (some .int) az (mk S) (PI Q) 0 0) (h1 : ∀ r S', P r S' → S' = S) (h2 : ∀ r S' r' S'', P r S' → Q r' S'' → r' = r ∧ S'' = S) : OpI X d d' yx bx nx yz bz nz ax az c S := by
  refine ⟨P, cx, fun r S1 hP => ?_⟩
  have e := h1 r S1 hP
  subst e
  exact ⟨Q, cz, fun r' S2 hQ => by
    have h3 := h2 r S1 r' S2 hP hQ
    refine ⟨h3.1, p, q, ?_⟩
    rw [h3.2]
    exact hR.next hc⟩
theorem OpI.rd2 {X : XT} {d d' : Nat} {yx : MethodName} {bx : ByteArray} {nx : Nat} {yz : MethodName} {bz : ByteArray} {nz : Nat} {ax az : List Value} {c : Int} {S : Sg} {p q : Nat} {a b : Int × Sg} (hR : Rp c S p q) (hc : c + 1 ≤ 5000) (cx : Ctr X d yx bx nx (some .int) ax (mk S) (PI (fun r S' => r = a.1 ∧ S' = a.2)) 0 0) (cz : Ctr X d' yz bz nz (some .int) az (mk S) (PI (fun r S' => r = b.1 ∧ S' = b.2)) 0 0) (h1 : a = b) (h2 : b.2 = S) : OpI X d d' yx bx nx yz bz nz ax az c S := by
  subst h1
  exact OpI.rd hR hc cx cz (fun r S' h => h.2.trans h2) (fun r S' r' S'' h h' => ⟨h'.1.trans h.1.symm, h'.2.trans h2⟩)
theorem sumI_add (f : Int → Int) {a : Int} (ha : 0 ≤ a) : ∀ b : Nat, sumI f (a + b) = sumI f a + sumI (fun k => f (a + k)) b
  | 0 => by rw [show a + ((0 : Nat) : Int) = a by omega, show ((0 : Nat) : Int) = 0 from rfl, sumI_0]; omega
  | b + 1 => by
    have h := sumI_add f ha b
    rw [show a + ((b + 1 : Nat) : Int) = a + b + 1 by omega, sumI_s _ (by omega), h, show ((b + 1 : Nat) : Int) = (b : Int) + 1 by omega, sumI_s _ (by omega)]
    omega
theorem sumI_zero {f : Int → Int} {n : Int} (h : ∀ j, 0 ≤ j → j < n → f j = 0) : sumI f n = 0 := by
  rw [sumI_congr (g := fun _ => 0) h]
  have : ∀ m : Nat, sumF (fun _ => 0) m = 0 := by
    intro m
    induction m with
    | zero => rfl
    | succ m ih => show sumF (fun _ => 0) m + 0 = 0; omega
  exact this _
theorem sumI_split (f : Int → Int) {a n : Int} (h : 0 ≤ a ∧ a ≤ n) : sumI f n = sumI f a + sumI (fun k => f (a + k)) (n - a) := by
  have := sumI_add f h.1 (n - a).toNat
  rw [show a + ((n - a).toNat : Int) = n by omega, show ((n - a).toNat : Int) = n - a by omega] at this
  exact this
theorem sumI_4 (f : Int → Int) : sumI f 4 = f 0 + f 1 + f 2 + f 3 := by
  show 0 + f ((0 : Nat) : Int) + f ((1 : Nat) : Int) + f ((2 : Nat) : Int) + f ((3 : Nat) : Int) = _
  show 0 + f 0 + f 1 + f 2 + f 3 = _
  omega
theorem bits15 : ∀ a : Nat, a < 16 → bitI (a : Int) 4 = 0 ∧ bitI (a : Int) 5 = 0 := by decide +kernel
theorem ones4 {a : Int} (h : 0 ≤ a ∧ a ≤ 15) : onesI a = sumI (bitI a) 4 := by
  have hb := bits15 a.toNat (by omega)
  rw [Int.toNat_of_nonneg h.1] at hb
  unfold onesI
  rw [show (6 : Int) = 4 + 1 + 1 from rfl, sumI_s _ (by omega), sumI_s _ (by omega), hb.1, show (4 : Int) + 1 = 5 from rfl, hb.2]
  omega
theorem NOW.pl {S : Sg} {T c : Int} (h : NOW S T c) {t : Int} (ht : 0 ≤ t ∧ t < 4) : S.1 32 t = S.1 95 t := (h.1.1 t ht.1 ht.2).1
theorem NOW.st {S : Sg} {T c : Int} (h : NOW S T c) {t : Int} (ht : 0 ≤ t ∧ t < 4) : S.1 34 t = bitI (S.1 95 4) t := (h.1.1 t ht.1 ht.2).2
theorem NOW.le {S : Sg} {T c : Int} (h : NOW S T c) {m : Int} (hm : 0 ≤ m ∧ m < 100) : S.1 36 m = S.1 95 (12 + m) := (h.1.2.1 m hm.1 hm.2).1
theorem NOW.ri {S : Sg} {T c : Int} (h : NOW S T c) {m : Int} (hm : 0 ≤ m ∧ m < 100) : S.1 38 m = S.1 95 (112 + m) := (h.1.2.1 m hm.1 hm.2).2
theorem NOW.n {S : Sg} {T c : Int} (h : NOW S T c) : S.1 39 1 = S.1 95 5 := h.1.2.2.1
theorem NOW.th {S : Sg} {T c : Int} (h : NOW S T c) {i : Int} (hi : 0 ≤ i ∧ i < S.1 39 1) : S.1 40 i = S.1 95 (6 + i) := h.1.2.2.2 i hi.1 hi.2
theorem NOW.sum {S : Sg} {T c : Int} (h : NOW S T c) : sumI (S.1 34) 4 = onesI (S.1 95 4) := by
  rw [ones4 h.2.2]
  exact sumI_congr (fun j j1 j2 => h.st ⟨j1, j2⟩)
/-! the calls -/
section RD
variable {c : Int} {S : Sg} {p q : Nat}
theorem eq_stretch (h : Rp c S p q) (x y : Int) : xStretch S p x y = zStretch S x y ∧ (zStretch S x y).2 = S := by
  obtain ⟨_, _, _, ⟨_, _, _, ⟨b0, _⟩, a5, _, _, a8, _⟩, _⟩ := h
  refine ⟨?_, by unfold zStretch; (repeat' split) <;> rfl⟩
  unfold xStretch zStretch
  rw [← b0]
  by_cases hx : 0 ≤ x ∧ x < S.1 90 0
  · have h1 := (a5 x hx.1 hx.2).1
    have h2 := a8 (x + 1) (by omega) (by omega)
    repeat' split
    all_goals first | (exfalso; omega) | rfl | (rw [h1.1]) | (rw [h1.2.1]) | (rw [h1.2.2]) | (rw [h2])
  · rw [if_pos hx, if_pos (Or.inl hx)]
theorem op_stretch (X : XT) (hR : RI c S) (hc : c + 1 ≤ 5000) {x y : Int} (hx : -2147483648 ≤ x ∧ x ≤ 2147483647) (hy : -2147483648 ≤ y ∧ y ≤ 2147483647) : OpI X 6 6 yX_stretch bX_stretch 3 yZ_stretch bZ_stretch 3 [.ref 0, .int (iI x), .int (iI y)] [.ref 88, .int (iI x), .int (iI y)] c S := by
  obtain ⟨p, q, h⟩ := hR
  exact OpI.rd2 h hc (cX_stretch X h.ci hx hy) (cZ_stretch X h.zi hx hy) (eq_stretch h x y).1 (eq_stretch h x y).2
theorem eq_trav (h : Rp c S p q) (x y : Int) : xTrav S p x y = zTrav S x y ∧ (zTrav S x y).2 = S := by
  obtain ⟨_, _, _, ⟨⟨_, _, o3, _⟩, _, _, ⟨_, b1, _⟩, _, a6, _⟩, _, hn, _⟩ := h
  refine ⟨?_, by unfold zTrav; (repeat' split) <;> rfl⟩
  unfold xTrav zTrav
  rw [← b1]
  by_cases hx : 0 ≤ x ∧ x < S.1 90 1
  · have h1 := a6 x hx.1 hx.2
    have h2 := hn.pl (t := x) (by omega)
    have h3 := hn.st (t := x) (by omega)
    repeat' split
    all_goals first | (exfalso; omega) | rfl | (rw [h1]) | (rw [h2]) | (rw [h3])
  · rw [if_pos hx, if_pos (Or.inl hx)]
theorem op_traveller (X : XT) (hR : RI c S) (hc : c + 1 ≤ 5000) {x y : Int} (hx : -2147483648 ≤ x ∧ x ≤ 2147483647) (hy : -2147483648 ≤ y ∧ y ≤ 2147483647) : OpI X 6 6 yX_traveller bX_traveller 3 yZ_traveller bZ_traveller 3 [.ref 0, .int (iI x), .int (iI y)] [.ref 88, .int (iI x), .int (iI y)] c S := by
  obtain ⟨p, q, h⟩ := hR
  exact OpI.rd2 h hc (cX_traveller X h.ci hx hy) (cZ_traveller X h.zi hx hy) (eq_trav h x y).1 (eq_trav h x y).2
theorem eq_wear (h : Rp c S p q) (x y : Int) : xWear S p x y = zWear S x y ∧ (zWear S x y).2 = S := by
  obtain ⟨_, _, _, ⟨⟨_, o2, _⟩, _, _, _, _, _, a7, _⟩, _, hn, _⟩ := h
  refine ⟨?_, by unfold zWear; (repeat' split) <;> rfl⟩
  unfold xWear zWear
  rw [a7]
  by_cases hy : 0 ≤ y ∧ y < S.1 (p + 9) 1
  · have h2 := hn.le (m := y) (by omega)
    have h3 := hn.ri (m := y) (by omega)
    by_cases h4 : x = 0
    · subst h4
      rw [if_neg (by omega), if_neg (by omega), if_pos (by omega), if_pos (by omega), h2, show 12 + 100 * (0 : Int) + y = 12 + y by omega]
    · by_cases h5 : x = 1
      · subst h5
        rw [if_neg (by omega), if_neg (by omega), if_neg (by omega), if_pos (by omega), h3, show 12 + 100 * (1 : Int) + y = 112 + y by omega]
      · rw [if_pos (by omega), if_neg (by omega)]
  · by_cases h4 : x < 0 ∨ 1 < x
    · rw [if_pos h4, if_neg (by omega)]
    · rw [if_neg h4, if_pos hy, if_neg (by omega)]
theorem op_wear (X : XT) (hR : RI c S) (hc : c + 1 ≤ 5000) {x y : Int} (hx : -2147483648 ≤ x ∧ x ≤ 2147483647) (hy : -2147483648 ≤ y ∧ y ≤ 2147483647) : OpI X 6 6 yX_wear bX_wear 3 yZ_wear bZ_wear 3 [.ref 0, .int (iI x), .int (iI y)] [.ref 88, .int (iI x), .int (iI y)] c S := by
  obtain ⟨p, q, h⟩ := hR
  exact OpI.rd2 h hc (cX_wear X h.ci hx hy) (cZ_wear X h.zi hx hy) (eq_wear h x y).1 (eq_wear h x y).2
theorem eq_thing (h : Rp c S p q) (x : Int) : xThing S p x = zThing S x ∧ (zThing S x).2 = S := by
  obtain ⟨_, _, _, _, _, hn, _⟩ := h
  refine ⟨?_, by unfold zThing; (repeat' split) <;> rfl⟩
  unfold xThing zThing
  have h1 := hn.n
  by_cases h2 : 0 ≤ x ∧ x < S.1 39 1
  · have h3 := hn.th h2
    repeat' split
    all_goals first | (exfalso; omega) | rfl | (rw [h3])
  · repeat' split
    all_goals first | (exfalso; omega) | rfl
theorem op_thing (X : XT) (hR : RI c S) (hc : c + 1 ≤ 5000) {x : Int} (hx : -2147483648 ≤ x ∧ x ≤ 2147483647) : OpI X 6 6 yX_thing bX_thing 2 yZ_thing bZ_thing 2 [.ref 0, .int (iI x)] [.ref 88, .int (iI x)] c S := by
  obtain ⟨p, q, h⟩ := hR
  exact OpI.rd2 h hc (cX_thing X h.ci hx) (cZ_thing X h.zi hx) (eq_thing h x).1 (eq_thing h x).2
theorem eq_count (h : Rp c S p q) (x : Int) : xCount S p x = zCount S x ∧ (zCount S x).2 = S := by
  obtain ⟨_, _, _, ⟨_, _, _, ⟨b0, b1, b2, b3⟩, _⟩, h5, _, _, _, h9, h10, _⟩ := h
  have e5 := h5.2.1
  have e9 := h9.2.2.1
  have e10 := h10.2.2.2.1
  refine ⟨?_, by unfold zCount; (repeat' split) <;> rfl⟩
  unfold xCount zCount
  by_cases k : 0 ≤ x ∧ x ≤ 3
  · rw [if_pos k]
    rcases (show x = 0 ∨ x = 1 ∨ x = 2 ∨ x = 3 by omega) with rfl | rfl | rfl | rfl
    · rw [if_pos rfl, b0]
    · rw [if_neg (by omega), if_pos rfl, b1]
    · rw [if_neg (by omega), if_neg (by omega), if_pos rfl, b2]
    · rw [if_neg (by omega), if_neg (by omega), if_neg (by omega), if_pos rfl, b3]
  · rw [if_neg k, e5, e9, e10]
    repeat' split
    all_goals first | (exfalso; omega) | rfl
theorem op_count (X : XT) (hR : RI c S) (hc : c + 1 ≤ 5000) {x : Int} (hx : -2147483648 ≤ x ∧ x ≤ 2147483647) : OpI X 6 6 yX_count bX_count 2 yZ_count bZ_count 2 [.ref 0, .int (iI x)] [.ref 88, .int (iI x)] c S := by
  obtain ⟨p, q, h⟩ := hR
  exact OpI.rd2 h hc (cX_count X h.ci hx) (cZ_count X h.zi hx) (eq_count h x).1 (eq_count h x).2
/-! days -/
theorem eq_day (h : PLN S p) {b : Int} (hb : 2 ≤ b ∧ b ≤ 9) : dvU (ivP S p) (b - 1) = dbZ S b := by
  obtain ⟨⟨o1, _, _, o4, _, _, o7⟩, _, _, ⟨b0, _, b2, _⟩, a5, _⟩ := h
  unfold dvU dbZ
  rw [if_neg (by omega)]
  have e : ivP S p = sumI (fun k => (S.1 91 k + S.1 90 2 - 1) / S.1 90 2) (S.1 90 0) := by
    unfold ivP
    rw [b0]
    refine sumI_congr (fun j j1 j2 => ?_)
    have h1 := (a5 j j1 (by omega)).1.1
    unfold dvU
    rw [if_neg (by omega), b2, h1]
  rw [e, show sumI (fun k => (S.1 91 k + S.1 90 2 - 1) / S.1 90 2) (S.1 90 0) + (b - 1) - 1 = sumI (fun k => (S.1 91 k + S.1 90 2 - 1) / S.1 90 2) (S.1 90 0) + b - 2 by omega]
theorem stF_c {f g : Int → Int} {z : Int} (h : ∀ m : Int, 0 ≤ m → m < z → f m = g m) : ∀ (n : Nat) (m c : Int), 0 ≤ m → (c = -9 ∨ (0 ≤ c ∧ c < z)) → stF f z n m c = stF g z n m c
  | 0, _, _, _, _ => rfl
  | n + 1, m, c, h1, h2 => by
    rw [stF, stF]
    by_cases hm : m < z
    · rw [if_pos hm, if_pos hm]
      by_cases hc : c = -9
      · rw [if_pos (Or.inl hc), if_pos (Or.inl hc)]
        exact stF_c h n (m + 1) m (by omega) (by omega)
      · have e1 := h c (by omega) (by omega)
        have e2 := h m h1 hm
        by_cases hl : f c < f m
        · rw [if_pos (Or.inr hl), if_pos (Or.inr (by omega))]
          exact stF_c h n (m + 1) m (by omega) (by omega)
        · rw [if_neg (by omega), if_neg (by omega)]
          exact stF_c h n (m + 1) c (by omega) (by omega)
    · rw [if_neg hm, if_neg hm]
theorem eq_now (h : Rp c S p q) (x : Int) : xNow S p x = zNow S x ∧ (zNow S x).2 = S := by
  have h' := h
  obtain ⟨_, _, _, h4, _, hn, h7, _⟩ := h
  have hd := eq_day h4 (b := S.1 90 3) (by have := h4.2.1; have := h4.2.2.2.1; omega)
  obtain ⟨_, _, _, ⟨b0, b1, b2, b3⟩, _, _, a7, _, a9⟩ := h4
  refine ⟨?_, by unfold zNow; (repeat' split) <;> rfl⟩
  have e1 : sumI (S.1 36) 100 + sumI (S.1 38) 100 = alW S := by
    unfold alW
    rw [sumI_split (fun k => S.1 95 (12 + k)) (a := 100) (n := 200) (by omega)]
    rw [sumI_congr (f := S.1 36) (g := fun k => S.1 95 (12 + k)) (fun j j1 j2 => hn.le ⟨j1, j2⟩)]
    rw [sumI_congr (f := S.1 38) (g := fun k => S.1 95 (12 + (100 + k))) (fun j j1 j2 => by rw [hn.ri ⟨j1, j2⟩, show 12 + (100 + j) = 112 + j by omega])]
    rfl
  have e2 : stF (S.1 (p + 10)) (S.1 (p + 9) 1) 102 0 (-9) = stF (htZ S) (tpZ S) 102 0 (-9) := by
    rw [← a7]
    exact stF_c (fun m m1 m2 => (a9 m m1 m2).symm) 102 0 (-9) (by omega) (by omega)
  unfold xNow zNow
  rw [e1, e2, ← b3, hd, hn.sum, hn.n, a7, h7.1.2.2]
  repeat' split
  all_goals first | (exfalso; omega) | rfl
theorem op_now (X : XT) (hR : RI c S) (hc : c + 1 ≤ 5000) {x : Int} (hx : -2147483648 ≤ x ∧ x ≤ 2147483647) : OpI X 6 6 yX_now bX_now 2 yZ_now bZ_now 2 [.ref 0, .int (iI x)] [.ref 88, .int (iI x)] c S := by
  obtain ⟨p, q, h⟩ := hR
  exact OpI.rd2 h hc (cX_now X h.ci hx) (cZ_now X h.zi hx) (eq_now h x).1 (eq_now h x).2
theorem op_hands (X : XT) (hR : RI c S) (hc : c + 1 ≤ 5000) {x : Int} (hx : -2147483648 ≤ x ∧ x ≤ 2147483647) : OpI X 6 6 yX_hands bX_hands 3 yZ_hands bZ_hands 4 [.ref 0, .int (iI x)] [.ref 88, .int (iI x)] c S := by
  obtain ⟨p, q, h⟩ := hR
  have h4 := h.2.2.2.1
  have hd : ∀ b : Int, 2 ≤ b → b ≤ 9 → dayV S p b = dbZ S b := fun b b1 b2 => eq_day h4 ⟨b1, b2⟩
  refine OpI.rd h hc (cX_hands X h.ci hx) (cZ_hands X h.zi hx) (fun r S' hP => hP.2) (fun r S' r' S'' hP hQ => ⟨?_, hQ.2⟩)
  rcases hP.1 with k | k | k <;> rcases hQ.1 with g | g | g
  · omega
  · omega
  · omega
  · omega
  · omega
  · have := k.2.2 r' (by omega) (by omega)
    rw [hd r' (by omega) (by omega)] at this
    omega
  · omega
  · have := g.2.2 r (by omega) (by omega)
    have e := k.2.2.1
    rw [hd r (by omega) (by omega)] at e
    omega
  · by_cases h1 : r' < r
    · have := k.2.2.2 r' (by omega) h1
      rw [hd r' (by omega) (by omega)] at this
      omega
    · by_cases h2 : r < r'
      · have := g.2.2.2 r (by omega) h2
        have e := k.2.2.1
        rw [hd r (by omega) (by omega)] at e
        omega
      · omega
/-! heights -/
theorem eq_al (h : PLN S p) {x : Int} (hx : 0 ≤ x ∧ x ≤ 1000 * tpZ S) : altP S p x = alZ S x := by
  obtain ⟨_, _, _, _, _, _, a7, _, a9⟩ := h
  unfold altP alZ
  rw [← a7]
  have hq : 0 ≤ x / 1000 ∧ x / 1000 ≤ tpZ S := by omega
  rw [sumI_split _ hq]
  have e1 : sumI (fun m => max 0 (min 1000 (x - 1000 * m)) * S.1 (p + 10) m) (x / 1000) = sumI (fun m => 1000 * htZ S m) (x / 1000) := sumI_congr (fun j j1 j2 => by
    rw [a9 j j1 (by omega), show max 0 (min 1000 (x - 1000 * j)) = 1000 by omega])
  rw [e1]
  by_cases hz : tpZ S - x / 1000 = 0
  · rw [if_pos (by omega), hz, sumI_0]
    omega
  · rw [sumI_split _ (a := 1) (n := tpZ S - x / 1000) (by omega)]
    have e2 : sumI (fun k => max 0 (min 1000 (x - 1000 * (x / 1000 + k))) * S.1 (p + 10) (x / 1000 + k)) 1 = x % 1000 * htZ S (x / 1000) := by
      rw [show (1 : Int) = 0 + 1 from rfl, sumI_s _ (by omega), sumI_0]
      rw [show x / 1000 + 0 = x / 1000 by omega, show max 0 (min 1000 (x - 1000 * (x / 1000))) = x % 1000 by omega, a9 (x / 1000) (by omega) (by omega)]
      omega
    have e3 : sumI (fun k => max 0 (min 1000 (x - 1000 * (x / 1000 + (1 + k)))) * S.1 (p + 10) (x / 1000 + (1 + k))) (tpZ S - x / 1000 - 1) = 0 := sumI_zero (fun j j1 j2 => by
      show max 0 (min 1000 (x - 1000 * (x / 1000 + (1 + j)))) * S.1 (p + 10) (x / 1000 + (1 + j)) = 0
      rw [show max 0 (min 1000 (x - 1000 * (x / 1000 + (1 + j)))) = 0 by omega, Int.zero_mul])
    rw [e2, e3]
    by_cases h0 : x % 1000 = 0
    · rw [if_pos h0, h0, Int.zero_mul]; omega
    · rw [if_neg h0]; omega
theorem op_altitude (X : XT) (hR : RI c S) (hc : c + 1 ≤ 5000) {x : Int} (hx : -2147483648 ≤ x ∧ x ≤ 2147483647) : OpI X 6 6 yX_altitude bX_altitude 2 yZ_altitude bZ_altitude 2 [.ref 0, .int (iI x)] [.ref 88, .int (iI x)] c S := by
  obtain ⟨p, q, h⟩ := hR
  have h4 := h.2.2.2.1
  have a7 := h4.2.2.2.2.2.2.1
  refine OpI.rd2 h hc (cX_altitude X h.ci hx) (cZ_altitude X h.zi hx) ?_ (by unfold zAlt; split <;> rfl)
  unfold xAlt zAlt
  by_cases k : 0 ≤ x ∧ x ≤ 1000 * tpZ S
  · rw [if_pos k, if_neg (by omega), eq_al h4 k]
  · rw [if_neg k, if_pos (by omega)]
theorem eq_fs (h : PLN S p) {a : Int} (ha : 0 < a) : ∀ (n : Nat) (m b : Int), 0 ≤ m → b < a → fsF (S.1 (p + 10)) (S.1 (p + 9) 1) a n m b = fsZ S n m (a - b)
  | 0, _, _, _, _ => rfl
  | n + 1, m, b, hm, hb => by
    have a7 := h.2.2.2.2.2.2.1
    have a9 := h.2.2.2.2.2.2.2.2
    have o5 := h.1.2.2.2.2.1
    rw [fsF, fsZ, a7]
    by_cases h1 : m < S.1 (p + 9) 1
    · have e := a9 m hm (by omega)
      have o := o5 m hm h1
      rw [if_pos ⟨h1, hb⟩, if_pos h1, e]
      by_cases h2 : a ≤ b + 1000 * S.1 (p + 10) m
      · rw [if_pos h2, if_pos (by omega)]
        unfold dvU
        rw [if_neg (by omega)]
      · rw [if_neg h2, if_neg (by omega), eq_fs h ha n (m + 1) (b + 1000 * S.1 (p + 10) m) (by omega) (by omega), show a - (b + 1000 * S.1 (p + 10) m) = a - b - 1000 * S.1 (p + 10) m by omega]
    · rw [if_neg (by omega), if_neg h1, if_neg (by omega), if_neg (by omega)]
theorem op_step (X : XT) (hR : RI c S) (hc : c + 1 ≤ 5000) {x : Int} (hx : -2147483648 ≤ x ∧ x ≤ 2147483647) : OpI X 6 6 yX_step bX_step 2 yZ_step bZ_step 5 [.ref 0, .int (iI x)] [.ref 88, .int (iI x)] c S := by
  obtain ⟨p, q, h⟩ := hR
  have h4 := h.2.2.2.1
  refine OpI.rd2 h hc (cX_step X h.ci hx) (cZ_step X h.zi hx) ?_ (by unfold zStep; split <;> rfl)
  unfold xStep zStep
  by_cases k : x < 0 ∨ 9999999 < x
  · rw [if_pos k, if_pos k]
  · rw [if_neg k, if_neg k]
    by_cases h0 : x = 0
    · subst h0
      have a7 := h4.2.2.2.2.2.2.1
      have a9 := h4.2.2.2.2.2.2.2.2
      have o5 := h4.1.2.2.2.2.1
      have o2 := h4.1.2.1
      rw [fsF, fsZ, a7, if_neg (by omega), if_pos rfl]
      by_cases h1 : 0 < S.1 (p + 9) 1
      · have e := a9 0 (by omega) (by omega)
        have o := o5 0 (by omega) h1
        rw [if_pos h1, if_pos (by omega), e]
        have e2 : (0 + S.1 (p + 10) 0 - 1) / S.1 (p + 10) 0 = 0 := Int.ediv_eq_zero_of_lt (by omega) (by omega)
        rw [e2]
        rfl
      · rw [if_neg h1, if_pos rfl, show S.1 (p + 9) 1 = 0 by omega]
        rfl
    · rw [eq_fs h4 (by omega) 102 0 0 (by omega) (by omega), show x - 0 = x by omega]
/-! odds -/
theorem Rp.fr (h : Rp c S p q) : frS S p = frZ S ∧ 0 ≤ frZ S ∧ frZ S ≤ 4 := by
  obtain ⟨_, _, _, ⟨⟨_, _, o3, _⟩, _, _, ⟨_, b1, _⟩, _⟩, _, hn, _⟩ := h
  have e1 := hn.sum
  have e2 : onesI (S.1 95 4) = sumI (bitI (S.1 95 4)) 4 := ones4 hn.2.2
  have ht := hn.2.1.1
  have t0 := (ht 0 (by omega) (by omega)).2
  have t1 := (ht 1 (by omega) (by omega)).2
  have t2 := (ht 2 (by omega) (by omega)).2
  have t3 := (ht 3 (by omega) (by omega)).2
  change (bitI (S.1 95 4) 0 = 0 ∨ bitI (S.1 95 4) 0 = 1) ∧ (S.1 90 1 ≤ 0 → bitI (S.1 95 4) 0 = 0) at t0
  change (bitI (S.1 95 4) 1 = 0 ∨ bitI (S.1 95 4) 1 = 1) ∧ (S.1 90 1 ≤ 1 → bitI (S.1 95 4) 1 = 0) at t1
  change (bitI (S.1 95 4) 2 = 0 ∨ bitI (S.1 95 4) 2 = 1) ∧ (S.1 90 1 ≤ 2 → bitI (S.1 95 4) 2 = 0) at t2
  change (bitI (S.1 95 4) 3 = 0 ∨ bitI (S.1 95 4) 3 = 1) ∧ (S.1 90 1 ≤ 3 → bitI (S.1 95 4) 3 = 0) at t3
  rw [sumI_4] at e2
  unfold frS frZ
  rw [e1, b1]
  refine ⟨rfl, ?_, ?_⟩ <;> omega
theorem op_odds (X : XT) (hR : RI c S) (hc : c + 1 ≤ 5000) {x y v : Int} (hx : -2147483648 ≤ x ∧ x ≤ 2147483647) (hy : -2147483648 ≤ y ∧ y ≤ 2147483647) (hv : -2147483648 ≤ v ∧ v ≤ 2147483647) : OpI X 6 6 yX_odds bX_odds 8 yZ_odds bZ_odds 8 [.ref 0, .int (iI x), .int (iI y), .int (iI v)] [.ref 88, .int (iI x), .int (iI y), .int (iI v)] c S := by
  obtain ⟨p, q, h⟩ := hR
  have hf := h.fr
  have eU : oddU S p x y = odZ S x y := by unfold oddU odZ; rw [hf.1]
  have eL : oddL S p = 10 ^ (frZ S).toNat := by unfold oddL; rw [hf.1]
  have hod : (0 ≤ x ∧ x ≤ 10) → (0 ≤ y ∧ y ≤ 4) → (0 ≤ odZ S x y ∧ odZ S x y ≤ 10000) ∧ ((1 : Int) ≤ 10 ^ (frZ S).toNat ∧ (10 : Int) ^ (frZ S).toNat ≤ 10000) ∧ (1 ≤ gcF 64 (odZ S x y) (10 ^ (frZ S).toNat) ∧ gcF 64 (odZ S x y) (10 ^ (frZ S).toNat) ≤ 10000) ∧ gcE 64 (odZ S x y) (10 ^ (frZ S).toNat) = true := fun h1 h2 => oddAll h1 h2 hf.2
  refine OpI.rd2 h hc (cX_odds X h.ci hx hy hv (by rw [hf.1]; exact hf.2.1) (fun h1 h2 => by rw [eU, eL]; have := hod h1 h2; omega)) (cZ_odds X h.zi hf.2.1 hx hy hv) ?_ (by unfold zOdds; (repeat' split) <;> rfl)
  unfold xOdds zOdds
  by_cases k : x < 0 ∨ 10 < x ∨ y < 0 ∨ 4 < y ∨ v < 0 ∨ 1 < v
  · rw [if_pos k, if_pos k]
  · have h1 := hod (by omega) (by omega)
    rw [if_neg k, if_neg k, eU, eL, if_neg (by omega)]
end RD
