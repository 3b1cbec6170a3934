/-! goes, picks, undo -/
section DO
variable {c : Int} {S : Sg} {p q : Nat}
/-- a window with other numbers at a traveller's place and in a stretch of the wear -/
theorem win_goes {V : Int → Int} {T c x y d lo hi : Int} (o : okV V T c) (hc : 0 ≤ c ∧ c ≤ 5000) (hx : 0 ≤ x ∧ x < 4) (hy : 0 ≤ y ∧ y ≤ 100) (hd : d = 0 ∨ d = 1) (hl : 0 ≤ lo ∧ hi ≤ 100) : okV (uF (wgF V (12 + 100 * d + lo) (12 + 100 * d + hi)) x y) T (c + 1) ∧ (∀ t : Int, 0 ≤ t → t < 12 → t ≠ x → uF (wgF V (12 + 100 * d + lo) (12 + 100 * d + hi)) x y t = V t) ∧ (∀ m : Int, 0 ≤ m → m < 100 → uF (wgF V (12 + 100 * d + lo) (12 + 100 * d + hi)) x y (12 + m) = (if d = 0 ∧ lo ≤ m ∧ m < hi then V (12 + m) + 1 else V (12 + m)) ∧ uF (wgF V (12 + 100 * d + lo) (12 + 100 * d + hi)) x y (112 + m) = (if d = 1 ∧ lo ≤ m ∧ m < hi then V (112 + m) + 1 else V (112 + m))) := by
  have A : ∀ t : Int, 0 ≤ t → t < 12 → t ≠ x → uF (wgF V (12 + 100 * d + lo) (12 + 100 * d + hi)) x y t = V t := by
    intro t t1 t2 t3
    rw [uF_ne _ _ t3]
    unfold wgF
    rw [if_neg (by omega)]
  have B : ∀ m : Int, 0 ≤ m → m < 100 → uF (wgF V (12 + 100 * d + lo) (12 + 100 * d + hi)) x y (12 + m) = (if d = 0 ∧ lo ≤ m ∧ m < hi then V (12 + m) + 1 else V (12 + m)) ∧ uF (wgF V (12 + 100 * d + lo) (12 + 100 * d + hi)) x y (112 + m) = (if d = 1 ∧ lo ≤ m ∧ m < hi then V (112 + m) + 1 else V (112 + m)) := by
    intro m m1 m2
    have ob := o.1.2.1 m m1 m2
    change (0 ≤ V (12 + m) ∧ V (12 + m) ≤ c) ∧ (0 ≤ V (112 + m) ∧ V (112 + m) ≤ c) at ob
    rw [uF_ne _ _ (by omega), uF_ne _ _ (by omega)]
    unfold wgF
    constructor
    · by_cases h : d = 0 ∧ lo ≤ m ∧ m < hi
      · rw [if_pos h, if_pos (by omega)]; omega
      · rw [if_neg h, if_neg (by omega)]
    · by_cases h : d = 1 ∧ lo ≤ m ∧ m < hi
      · rw [if_pos h, if_pos (by omega)]; omega
      · rw [if_neg h, if_neg (by omega)]
  refine ⟨⟨⟨fun t t1 t2 => ?_, fun m m1 m2 => ?_, ?_, fun i i1 i2 => ?_⟩, by rw [A 4 (by omega) (by omega) (by omega)]; exact o.2⟩, A, B⟩
  · have o1 := o.1.1 t t1 t2
    change (0 ≤ V t ∧ V t ≤ 100) ∧ (bitI (V 4) t = 0 ∨ bitI (V 4) t = 1) ∧ (T ≤ t → bitI (V 4) t = 0) at o1
    refine ⟨?_, ?_⟩
    · show 0 ≤ uF (wgF V (12 + 100 * d + lo) (12 + 100 * d + hi)) x y t ∧ uF (wgF V (12 + 100 * d + lo) (12 + 100 * d + hi)) x y t ≤ 100
      by_cases ht : t = x
      · rw [ht, uF_eq]; exact hy
      · rw [A t t1 (by omega) ht]; exact o1.1
    · show (bitI (uF (wgF V (12 + 100 * d + lo) (12 + 100 * d + hi)) x y 4) t = 0 ∨ bitI (uF (wgF V (12 + 100 * d + lo) (12 + 100 * d + hi)) x y 4) t = 1) ∧ (T ≤ t → bitI (uF (wgF V (12 + 100 * d + lo) (12 + 100 * d + hi)) x y 4) t = 0)
      rw [A 4 (by omega) (by omega) (by omega)]
      exact o1.2
  · have ob := o.1.2.1 m m1 m2
    change (0 ≤ V (12 + m) ∧ V (12 + m) ≤ c) ∧ (0 ≤ V (112 + m) ∧ V (112 + m) ≤ c) at ob
    have e := B m m1 m2
    show (0 ≤ uF (wgF V (12 + 100 * d + lo) (12 + 100 * d + hi)) x y (12 + m) ∧ uF (wgF V (12 + 100 * d + lo) (12 + 100 * d + hi)) x y (12 + m) ≤ c + 1) ∧ (0 ≤ uF (wgF V (12 + 100 * d + lo) (12 + 100 * d + hi)) x y (112 + m) ∧ uF (wgF V (12 + 100 * d + lo) (12 + 100 * d + hi)) x y (112 + m) ≤ c + 1)
    rw [e.1, e.2]
    constructor <;> split <;> omega
  · show 0 ≤ uF (wgF V (12 + 100 * d + lo) (12 + 100 * d + hi)) x y 5 ∧ uF (wgF V (12 + 100 * d + lo) (12 + 100 * d + hi)) x y 5 ≤ 6
    rw [A 5 (by omega) (by omega) (by omega)]
    exact o.1.2.2.1
  · have n6 := o.1.2.2.1
    change 0 ≤ V 5 ∧ V 5 ≤ 6 at n6
    change i < uF (wgF V (12 + 100 * d + lo) (12 + 100 * d + hi)) x y 5 at i2
    rw [A 5 (by omega) (by omega) (by omega)] at i2
    show 0 ≤ uF (wgF V (12 + 100 * d + lo) (12 + 100 * d + hi)) x y (6 + i) ∧ uF (wgF V (12 + 100 * d + lo) (12 + 100 * d + hi)) x y (6 + i) ≤ 100
    rw [A (6 + i) (by omega) (by omega) (by omega)]
    exact o.1.2.2.2 i i1 i2
theorem op_goes (X : XT) (hR : RI c S) (hc : c + 1 ≤ 5000) {x y : Int} (hx : -2147483648 ≤ x ∧ x ≤ 2147483647) (hy : -2147483648 ≤ y ∧ y ≤ 2147483647) : OpI X 6 6 yX_goes bX_goes 4 yZ_goes bZ_goes 9 [.ref 0, .int (iI x), .int (iI y)] [.ref 88, .int (iI x), .int (iI y)] c S := by
  obtain ⟨p, q, h⟩ := hR
  have h' := h
  obtain ⟨g1, g2, gw, gP, gT, gN, gU, gI, gS, gM, gt, gX⟩ := h
  have b1 := gP.2.2.2.1.2.1
  have o3 := gP.1.2.2.1
  have o2 := gP.1.2.1
  have a7 := gP.2.2.2.2.2.2.1
  by_cases k : ¬ (0 ≤ x ∧ x < S.1 (p + 11) 1) ∨ y < 0 ∨ S.1 (p + 9) 1 < y
  · exact OpI.rd2 h' hc (cX_goes X h'.ci hx hy) (cZ_goes X h'.zi hx hy) (by unfold xGoes zGoes; rw [if_pos k, if_pos (by omega)]) (by unfold zGoes; rw [if_pos (by omega)])
  have ep := gN.pl (t := x) (by omega)
  have es := gN.st (t := x) (by omega)
  have hb := bitI_01 (S.1 95 4) x
  have a6 := gP.2.2.2.2.2.1 x (by omega) (by omega)
  have hpl := (gN.2.1.1 x (by omega) (by omega)).1
  change 0 ≤ S.1 95 x ∧ S.1 95 x ≤ 100 at hpl
  by_cases k2 : S.1 34 x = 1 ∨ y = S.1 32 x ∨ S.1 (p + 12) x < y
  · exact OpI.rd2 h' hc (cX_goes X h'.ci hx hy) (cZ_goes X h'.zi hx hy) (by unfold xGoes zGoes; rw [if_neg k, if_pos k2, if_neg (by omega), if_pos (by omega)]) (by unfold zGoes; rw [if_neg (by omega), if_pos (by omega)])
  have hl : (ln (31 + 1) : Int) = 4 := rfl
  have hWw : Wr (swear S (S.1 32 x) y 1) := gw.wear _ _ _
  have eA : rput (swear S (S.1 32 x) y 1) 31 x y = pt (swear S (S.1 32 x) y 1) 32 x y := rput_in y (by omega)
  have sne : ∀ a : Nat, (a ≠ 36 ∧ a ≠ 38) → (swear S (S.1 32 x) y 1).1 a = S.1 a := fun a ha => by
    unfold swear
    refine aset_ne _ _ ?_
    split
    · exact ha.1
    · exact ha.2
  have hA : ∀ a : Nat, (a < 31 ∨ 40 < a) → (rput (swear S (S.1 32 x) y 1) 31 x y).1 a = S.1 a := fun a ha => by rw [rput_ne _ _ _ (by omega), sne a (by omega)]
  have eU : xGoes S p x y = (absI (y - S.1 32 x), dadd (rput (swear S (S.1 32 x) y 1) 31 x y) 0 x (S.1 32 x)) := by unfold xGoes; rw [if_neg k, if_neg k2]
  have hU : ∀ a : Nat, 88 ≤ a → (xGoes S p x y).2.1 a = S.1 a := fun a ha => by rw [eU]; show (dadd _ 0 x _).1 a = _; rw [dadd_ne _ _ _ _ (by omega), hA a (by omega)]
  have hz : ZI (xGoes S p x y).2 := h'.zi.cg hU
  refine OpI.st (z := fun U => zGoes U x y) (cX_goes X h'.ci hx hy) (cZ_goes X hz hx hy) ?_
  have etp : tpZ (xGoes S p x y).2 = tpZ S := tpZ_cg (hU 90 (by omega)) (hU 91 (by omega))
  have fin : ∀ (d lo hi : Int), ((d = 0 ∧ lo = S.1 95 x ∧ hi = y ∧ lo < hi) ∨ (d = 1 ∧ lo = y ∧ hi = S.1 95 x ∧ lo < hi)) → zGoes (xGoes S p x y).2 x y = (hi - lo, pt (wgS (zNote (xGoes S p x y).2) d lo hi) 95 x y) → (zGoes (xGoes S p x y).2 x y).1 = (xGoes S p x y).1 ∧ RI (c + 1) (zGoes (xGoes S p x y).2 x y).2 := by
    intro d lo hi hd ez
    rw [ez, eU]
    dsimp only
    have e95 : (pt (wgS (zNote (dadd (rput (swear S (S.1 32 x) y 1) 31 x y) 0 x (S.1 32 x))) d lo hi) 95 x y).1 95 = uF (wgF (S.1 95) (12 + 100 * d + lo) (12 + 100 * d + hi)) x y := by
      rw [pt_eq]
      unfold wgS
      rw [aset_eq, zNote_ne _ (by decide) (by decide), dadd_ne _ _ _ _ (by omega), hA 95 (by omega)]
    have w := win_goes (x := x) (y := y) (d := d) (lo := lo) (hi := hi) gN.2 g2 (by omega) (by omega) (by omega) (by omega)
    have n6 := gN.2.1.2.2.1
    change 0 ≤ S.1 95 5 ∧ S.1 95 5 ≤ 6 at n6
    have en := gN.n
    have hwx : uF (wgF (S.1 95) (12 + 100 * d + lo) (12 + 100 * d + hi)) x y x = y := uF_eq _ _ _
    refine ⟨by unfold absI; rw [ep]; split <;> omega, p, q, ?_⟩
    refine h'.act hc (A := rput (swear S (S.1 32 x) y 1) 31 x y) (k := 0) (t := x) (x := S.1 32 x) hA (by rw [rput_2]; rfl) (hWw.put rfl _ _) (fun a ha => by rw [pt_ne _ _ _ ha]; unfold wgS; rw [aset_ne _ _ ha]) (by rw [pt_2]; exact zNote_2 _) ?_ (by rw [e95]; exact w.1) ⟨by omega, by omega, by omega, fun hh => by omega, fun hh => by omega⟩ ?_
    · rw [e95, eA]
      refine ⟨fun t t1 t2 => ⟨?_, ?_⟩, fun m m1 m2 => ⟨?_, ?_⟩, ?_, fun i i1 i2 => ?_⟩
      · show uF ((swear S (S.1 32 x) y 1).1 32) x y t = uF (wgF (S.1 95) (12 + 100 * d + lo) (12 + 100 * d + hi)) x y t
        rw [sne 32 (by omega)]
        by_cases ht : t = x
        · rw [ht, uF_eq, uF_eq]
        · rw [uF_ne _ _ ht, w.2.1 t t1 (by omega) ht]; exact gN.pl ⟨t1, t2⟩
      · show (pt (swear S (S.1 32 x) y 1) 32 x y).1 34 t = bitI (uF (wgF (S.1 95) (12 + 100 * d + lo) (12 + 100 * d + hi)) x y 4) t
        rw [pt_ne _ _ _ (by decide), sne 34 (by omega), w.2.1 4 (by omega) (by omega) (by omega)]
        exact gN.st ⟨t1, t2⟩
      · show (pt (swear S (S.1 32 x) y 1) 32 x y).1 36 m = uF (wgF (S.1 95) (12 + 100 * d + lo) (12 + 100 * d + hi)) x y (12 + m)
        rw [pt_ne _ _ _ (by decide), (w.2.2 m m1 m2).1]
        have e1 := gN.le ⟨m1, m2⟩
        have ob := (gN.2.1.2.1 m m1 m2).1
        change 0 ≤ S.1 95 (12 + m) ∧ S.1 95 (12 + m) ≤ c at ob
        unfold swear
        rw [ep]
        rcases hd with ⟨rfl, rfl, rfl, h4⟩ | ⟨rfl, rfl, rfl, h4⟩
        · rw [if_pos h4, aset_eq]
          unfold wF
          by_cases hm : S.1 95 x ≤ m ∧ m < hi
          · rw [if_pos (by omega), if_pos (by omega), e1] <;> omega
          · rw [if_neg (by omega), if_neg (by omega), e1]
        · rw [if_neg (show ¬ S.1 95 x < lo by omega), aset_ne _ _ (by decide), if_neg (by omega), e1]
      · show (pt (swear S (S.1 32 x) y 1) 32 x y).1 38 m = uF (wgF (S.1 95) (12 + 100 * d + lo) (12 + 100 * d + hi)) x y (112 + m)
        rw [pt_ne _ _ _ (by decide), (w.2.2 m m1 m2).2]
        have e1 := gN.ri ⟨m1, m2⟩
        have ob := (gN.2.1.2.1 m m1 m2).2
        change 0 ≤ S.1 95 (112 + m) ∧ S.1 95 (112 + m) ≤ c at ob
        unfold swear
        rw [ep]
        rcases hd with ⟨rfl, rfl, rfl, h4⟩ | ⟨rfl, rfl, rfl, h4⟩
        · rw [if_pos h4, aset_ne _ _ (by decide), if_neg (by omega), e1]
        · rw [if_neg (show ¬ S.1 95 x < lo by omega), aset_eq]
          unfold wF
          by_cases hm : lo ≤ m ∧ m < S.1 95 x
          · rw [if_pos (by omega), if_pos (by omega), e1] <;> omega
          · rw [if_neg (by omega), if_neg (by omega), e1]
      · show (pt (swear S (S.1 32 x) y 1) 32 x y).1 39 1 = uF (wgF (S.1 95) (12 + 100 * d + lo) (12 + 100 * d + hi)) x y 5
        rw [pt_ne _ _ _ (by decide), sne 39 (by omega), w.2.1 5 (by omega) (by omega) (by omega)]
        exact en
      · change i < (pt (swear S (S.1 32 x) y 1) 32 x y).1 39 1 at i2
        rw [pt_ne _ _ _ (by decide), sne 39 (by omega)] at i2
        show (pt (swear S (S.1 32 x) y 1) 32 x y).1 40 i = uF (wgF (S.1 95) (12 + 100 * d + lo) (12 + 100 * d + hi)) x y (6 + i)
        rw [pt_ne _ _ _ (by decide), sne 40 (by omega), w.2.1 (6 + i) (by omega) (by omega) (by omega)]
        exact gN.th ⟨i1, i2⟩
    · rw [e95]
      unfold bk
      rw [if_pos rfl]
      refine ⟨fun t t1 t2 => ⟨?_, ?_⟩, fun m m1 m2 => ?_, ?_, fun i i1 i2 => ?_⟩
      · show uF (uF (wgF (S.1 95) (12 + 100 * d + lo) (12 + 100 * d + hi)) x y) x (S.1 32 x) t = S.1 95 t
        by_cases ht : t = x
        · rw [ht, uF_eq]; exact ep
        · rw [uF_ne _ _ ht]; exact w.2.1 t t1 (by omega) ht
      · show bitI (uF (wgF (S.1 95) (12 + 100 * d + lo) (12 + 100 * d + hi)) x y 4) t = bitI (S.1 95 4) t
        rw [w.2.1 4 (by omega) (by omega) (by omega)]
      · have wm := w.2.2 m m1 m2
        have ob := gN.2.1.2.1 m m1 m2
        change (0 ≤ S.1 95 (12 + m) ∧ S.1 95 (12 + m) ≤ c) ∧ (0 ≤ S.1 95 (112 + m) ∧ S.1 95 (112 + m) ≤ c) at ob
        show (if S.1 32 x < uF (wgF (S.1 95) (12 + 100 * d + lo) (12 + 100 * d + hi)) x y x then wF (fun m => uF (wgF (S.1 95) (12 + 100 * d + lo) (12 + 100 * d + hi)) x y (12 + m)) (S.1 32 x) (uF (wgF (S.1 95) (12 + 100 * d + lo) (12 + 100 * d + hi)) x y x) (-1) else (fun m => uF (wgF (S.1 95) (12 + 100 * d + lo) (12 + 100 * d + hi)) x y (12 + m))) m = S.1 95 (12 + m) ∧ (if S.1 32 x < uF (wgF (S.1 95) (12 + 100 * d + lo) (12 + 100 * d + hi)) x y x then (fun m => uF (wgF (S.1 95) (12 + 100 * d + lo) (12 + 100 * d + hi)) x y (112 + m)) else wF (fun m => uF (wgF (S.1 95) (12 + 100 * d + lo) (12 + 100 * d + hi)) x y (112 + m)) (uF (wgF (S.1 95) (12 + 100 * d + lo) (12 + 100 * d + hi)) x y x) (S.1 32 x) (-1)) m = S.1 95 (112 + m)
        rw [hwx, ep]
        rcases hd with ⟨e0, e1, e2, h4⟩ | ⟨e0, e1, e2, h4⟩
        · rw [if_pos (by omega), if_pos (by omega)]
          constructor
          · unfold wF
            dsimp only
            rw [wm.1]
            by_cases hm : S.1 95 x ≤ m ∧ m < y
            · rw [if_pos hm, if_pos (by omega)] <;> omega
            · rw [if_neg hm, if_neg (by omega)]
          · rw [wm.2, if_neg (by omega)]
        · rw [if_neg (by omega), if_neg (by omega)]
          constructor
          · rw [wm.1, if_neg (by omega)]
          · unfold wF
            dsimp only
            rw [wm.2]
            by_cases hm : y ≤ m ∧ m < S.1 95 x
            · rw [if_pos hm, if_pos (by omega)] <;> omega
            · rw [if_neg hm, if_neg (by omega)]
      · show uF (wgF (S.1 95) (12 + 100 * d + lo) (12 + 100 * d + hi)) x y 5 = S.1 95 5
        exact w.2.1 5 (by omega) (by omega) (by omega)
      · change i < uF (wgF (S.1 95) (12 + 100 * d + lo) (12 + 100 * d + hi)) x y 5 at i2
        rw [w.2.1 5 (by omega) (by omega) (by omega)] at i2
        exact w.2.1 (6 + i) (by omega) (by omega) (by omega)
  have eb : zGoes (xGoes S p x y).2 x y = if S.1 95 x < y then (y - S.1 95 x, pt (wgS (zNote (xGoes S p x y).2) 0 (S.1 95 x) y) 95 x y) else (S.1 95 x - y, pt (wgS (zNote (xGoes S p x y).2) 1 y (S.1 95 x)) 95 x y) := by
    unfold zGoes
    rw [etp, hU 90 (by omega), if_neg (by omega), hU 95 (by omega), hU 94 (by omega), if_neg (by omega)]
  by_cases hlt : S.1 95 x < y
  · rw [if_pos hlt] at eb
    exact fin 0 (S.1 95 x) y (Or.inl ⟨rfl, rfl, rfl, hlt⟩) eb
  · rw [if_neg hlt] at eb
    exact fin 1 y (S.1 95 x) (Or.inr ⟨rfl, rfl, rfl, by omega⟩) eb
theorem op_picks (X : XT) (hR : RI c S) (hc : c + 1 ≤ 5000) {x : Int} (hx : -2147483648 ≤ x ∧ x ≤ 2147483647) : OpI X 6 6 yX_picks bX_picks 3 yZ_picks bZ_picks 4 [.ref 0, .int (iI x)] [.ref 88, .int (iI x)] c S := by
  obtain ⟨p, q, h⟩ := hR
  have h' := h
  obtain ⟨g1, g2, gw, gP, gT, gN, gU, gI, gS, gM, gt, gX⟩ := h
  have b1 := gP.2.2.2.1.2.1
  have o3 := gP.1.2.2.1
  have en := gN.n
  have hn6 := gN.2.1.2.2.1
  change 0 ≤ S.1 95 5 ∧ S.1 95 5 ≤ 6 at hn6
  refine ⟨_, cX_picks X h'.ci hx, fun r S1 hP => ?_⟩
  rcases hP with ⟨k, rfl, rfl⟩ | ⟨k, k2, rfl, rfl⟩ | ⟨k, k2, j, k3, k4, k5, k6, k7⟩
  · refine ⟨_, cZ_picks X h'.zi hx, fun r' S2 hQ => ?_⟩
    rcases hQ with ⟨l, rfl, rfl⟩ | ⟨l, l2, l3⟩ | ⟨l, l2, l3⟩
    · exact ⟨rfl, p, q, h'.next hc⟩
    · omega
    · omega
  · have ep := gN.pl (t := x) (by omega)
    have es := gN.st (t := x) (by omega)
    refine ⟨_, cZ_picks X h'.zi hx, fun r' S2 hQ => ?_⟩
    rcases hQ with ⟨l, l2⟩ | ⟨l, l2, rfl, rfl⟩ | ⟨l, l2, j, l3, l4, l5⟩
    · omega
    · exact ⟨rfl, p, q, h'.next hc⟩
    · exfalso
      rcases k2 with k2 | k2
      · omega
      · have := k2 j l3.1 (by omega)
        have e := gN.th (i := j) (by omega)
        omega
  · have ep := gN.pl (t := x) (by omega)
    have es := gN.st (t := x) (by omega)
    have eth := gN.th (i := j) k3
    have hU : ∀ a : Nat, 88 ≤ a → S1.1 a = S.1 a := fun a ha => by rw [k7, dadd_ne _ _ _ _ (by omega), rremove_ne _ _ (by omega) (by omega)]
    refine ⟨_, cZ_picks X (h'.zi.cg hU) hx, fun r' S2 hQ => ?_⟩
    unfold zPicks at hQ
    rw [hU 90 (by omega), hU 95 (by omega)] at hQ
    rcases hQ with ⟨l, l2⟩ | ⟨l, l2, l3⟩ | ⟨l, l2, i, l3, l4, l5, l6, l7⟩
    · omega
    · exfalso
      rcases l2 with l2 | l2
      · omega
      · have := l2 j k3.1 (by omega); omega
    · have eij : i = j := by
        by_cases h1 : i < j
        · have := k5 i l3.1 h1
          have e := gN.th (i := i) (by omega)
          omega
        · by_cases h2 : j < i
          · have := l5 j k3.1 h2
            omega
          · omega
      subst eij
      have eA : rremove S 39 i = pt (aset S 40 (cutF (S.1 40) i (S.1 39 1))) 39 1 (S.1 39 1 - 1) := if_pos k3
      have e95 : S2.1 95 = uF (rmF (S.1 95) i 5) 5 (S.1 95 5 - 1) := by
        rw [l7, pt_eq]
        unfold rmS
        rw [aset_eq, zNote_ne _ (by decide) (by decide), hU 95 (by omega)]
      have vo : ∀ t : Int, (t < 5 ∨ 11 ≤ t) → S2.1 95 t = S.1 95 t := by
        intro t ht
        rw [e95, uF_ne _ _ (by omega)]
        unfold rmF
        rw [if_neg (by omega)]
      have v5 : S2.1 95 5 = S.1 95 5 - 1 := by rw [e95, uF_eq]
      have vt : ∀ m : Int, 0 ≤ m → m < 5 → S2.1 95 (6 + m) = if i ≤ m then S.1 95 (6 + m + 1) else S.1 95 (6 + m) := by
        intro m m1 m2
        rw [e95, uF_ne _ _ (by omega)]
        unfold rmF
        by_cases hm : i ≤ m
        · rw [if_pos (by omega), if_pos hm]
        · rw [if_neg (by omega), if_neg hm]
      have o := gN.2.1
      have R := h'.act hc (A := rremove S 39 i) (S2 := S2) (k := 3) (t := x) (x := i) (fun a ha => rremove_ne _ _ (by omega) (by omega)) (rremove_2 _ _ _) (gw.remove rfl _) (fun a ha => by rw [l7, pt_ne _ _ _ ha, k7]; unfold rmS; rw [aset_ne _ _ ha]) (by rw [l7, pt_2, k7]; exact zNote_2 _) (by
          rw [eA]
          refine ⟨fun t t1 t2 => ⟨?_, ?_⟩, fun m m1 m2 => ⟨?_, ?_⟩, ?_, fun m i1 i2 => ?_⟩
          · refine Eq.trans ?_ (vo t (by omega)).symm
            exact gN.pl ⟨t1, t2⟩
          · refine Eq.trans ?_ (congrArg (fun w => bitI w t) (vo 4 (by omega))).symm
            exact gN.st ⟨t1, t2⟩
          · refine Eq.trans ?_ (vo (12 + m) (by omega)).symm
            exact gN.le ⟨m1, m2⟩
          · refine Eq.trans ?_ (vo (112 + m) (by omega)).symm
            exact gN.ri ⟨m1, m2⟩
          · refine Eq.trans ?_ v5.symm
            show S.1 39 1 - 1 = _
            rw [en]
          · change m < S.1 39 1 - 1 at i2
            show cutF (S.1 40) i (S.1 39 1) m = S2.1 95 (6 + m)
            rw [vt m i1 (by omega)]
            unfold cutF
            by_cases hm : m < i
            · rw [if_pos hm, if_neg (by omega)]; exact gN.th ⟨i1, by omega⟩
            · rw [if_neg hm, if_pos i2, if_pos (by omega), show 6 + m + 1 = 6 + (m + 1) by omega]; exact gN.th ⟨by omega, by omega⟩) (by
          refine ⟨⟨fun t t1 t2 => ?_, fun m m1 m2 => ?_, ?_, fun m i1 i2 => ?_⟩, by rw [vo 4 (by omega)]; exact gN.2.2⟩
          · have o1 := o.1 t t1 t2
            show (0 ≤ S2.1 95 t ∧ S2.1 95 t ≤ 100) ∧ (bitI (S2.1 95 4) t = 0 ∨ bitI (S2.1 95 4) t = 1) ∧ (S.1 90 1 ≤ t → bitI (S2.1 95 4) t = 0)
            rw [vo t (by omega), vo 4 (by omega)]
            exact o1
          · have o1 := o.2.1 m m1 m2
            change (0 ≤ S.1 95 (12 + m) ∧ S.1 95 (12 + m) ≤ c) ∧ (0 ≤ S.1 95 (112 + m) ∧ S.1 95 (112 + m) ≤ c) at o1
            show (0 ≤ S2.1 95 (12 + m) ∧ S2.1 95 (12 + m) ≤ c + 1) ∧ (0 ≤ S2.1 95 (112 + m) ∧ S2.1 95 (112 + m) ≤ c + 1)
            rw [vo (12 + m) (by omega), vo (112 + m) (by omega)]
            omega
          · show 0 ≤ S2.1 95 5 ∧ S2.1 95 5 ≤ 6
            rw [v5]; omega
          · change m < S2.1 95 5 at i2
            rw [v5] at i2
            show 0 ≤ S2.1 95 (6 + m) ∧ S2.1 95 (6 + m) ≤ 100
            rw [vt m i1 (by omega)]
            split
            · rw [show 6 + m + 1 = 6 + (m + 1) by omega]; exact o.2.2.2 (m + 1) (by omega) (by show m + 1 < S.1 95 5; omega)
            · exact o.2.2.2 m i1 (by show m < S.1 95 5; omega)) ⟨by omega, by omega, by omega, fun hh => by omega, fun _ => by show i ≤ S2.1 95 5 ∧ S2.1 95 5 < 6; rw [v5]; omega⟩ (by
          unfold bk
          rw [if_neg (by omega), if_neg (by omega), if_neg (by omega)]
          refine ⟨fun t t1 t2 => ⟨vo t (by omega), congrArg (fun w => bitI w t) (vo 4 (by omega))⟩, fun m m1 m2 => ⟨vo (12 + m) (by omega), vo (112 + m) (by omega)⟩, ?_, fun m i1 i2 => ?_⟩
          · show S2.1 95 5 + 1 = S.1 95 5
            rw [v5]; omega
          · change m < S2.1 95 5 + 1 at i2
            rw [v5] at i2
            show insF (fun i => S2.1 95 (6 + i)) i (S2.1 95 5) (S2.1 95 x) m = S.1 95 (6 + m)
            rw [v5, vo x (by omega)]
            unfold insF
            by_cases h1 : m < i
            · rw [if_pos h1]
              show S2.1 95 (6 + m) = _
              rw [vt m i1 (by omega), if_neg (by omega)]
            · rw [if_neg h1]
              by_cases h2 : m = i
              · rw [if_pos h2, h2]; exact l4.symm
              · rw [if_neg h2, if_pos (by omega)]
                show S2.1 95 (6 + (m - 1)) = _
                rw [vt (m - 1) (by omega) (by omega), if_pos (by omega), show 6 + (m - 1) + 1 = 6 + m by omega])
      refine ⟨?_, p, q, R⟩
      rw [l6, k6, dadd_ne _ _ _ _ (by omega), eA, pt_at, en]
/-! undone -/
theorem dback_bk (S : Sg) {k t x : Int} (d : dOk k t x (sc6 S 30)) (hn : 0 ≤ S.1 39 1 ∧ S.1 39 1 ≤ 6) : eqS (sc6 (dback S k t x) 30) (bk k t x (sc6 S 30)) ∧ (∀ a : Nat, (a < 31 ∨ 40 < a) → (dback S k t x).1 a = S.1 a) ∧ (dback S k t x).2 = S.2 := by
  obtain ⟨d1, d2, d3, d4, d5⟩ := d
  change k = 2 → 1 ≤ S.1 39 1 at d4
  change k = 3 → x ≤ S.1 39 1 ∧ S.1 39 1 < 6 at d5
  unfold dback bk
  by_cases k0 : k = 0
  · rw [if_pos k0, if_pos k0]
    have sne : ∀ a : Nat, (a ≠ 36 ∧ a ≠ 38) → (swear S x (S.1 32 t) (-1)).1 a = S.1 a := fun a ha => by
      unfold swear
      refine aset_ne _ _ ?_
      split
      · exact ha.1
      · exact ha.2
    have eA : rput (swear S x (S.1 32 t) (-1)) 31 t x = pt (swear S x (S.1 32 t) (-1)) 32 t x := rput_in x (by have : (ln (31 + 1) : Int) = 4 := rfl; omega)
    refine ⟨?_, fun a ha => by rw [rput_ne _ _ _ (by omega), sne a (by omega)], by rw [rput_2]; rfl⟩
    rw [eA]
    refine ⟨fun q q1 q2 => ⟨?_, ?_⟩, fun m m1 m2 => ⟨?_, ?_⟩, ?_, fun i i1 i2 => ?_⟩
    · show uF ((swear S x (S.1 32 t) (-1)).1 32) t x q = uF (S.1 32) t x q
      rw [sne 32 (by omega)]
    · show (pt (swear S x (S.1 32 t) (-1)) 32 t x).1 34 q = S.1 34 q
      rw [pt_ne _ _ _ (by decide), sne 34 (by omega)]
    · show (pt (swear S x (S.1 32 t) (-1)) 32 t x).1 36 m = (if x < S.1 32 t then wF (S.1 36) x (S.1 32 t) (-1) else S.1 36) m
      rw [pt_ne _ _ _ (by decide)]
      unfold swear
      by_cases hh : x < S.1 32 t
      · rw [if_pos hh, if_pos hh, aset_eq, show min x (S.1 32 t) = x by omega, show max x (S.1 32 t) = S.1 32 t by omega]
      · rw [if_neg hh, if_neg hh, aset_ne _ _ (by decide)]
    · show (pt (swear S x (S.1 32 t) (-1)) 32 t x).1 38 m = (if x < S.1 32 t then S.1 38 else wF (S.1 38) (S.1 32 t) x (-1)) m
      rw [pt_ne _ _ _ (by decide)]
      unfold swear
      by_cases hh : x < S.1 32 t
      · rw [if_pos hh, if_pos hh, aset_ne _ _ (by decide)]
      · rw [if_neg hh, if_neg hh, aset_eq, show min x (S.1 32 t) = S.1 32 t by omega, show max x (S.1 32 t) = x by omega]
    · show (pt (swear S x (S.1 32 t) (-1)) 32 t x).1 39 1 = S.1 39 1
      rw [pt_ne _ _ _ (by decide), sne 39 (by omega)]
    · show (pt (swear S x (S.1 32 t) (-1)) 32 t x).1 40 i = S.1 40 i
      rw [pt_ne _ _ _ (by decide), sne 40 (by omega)]
  · rw [if_neg k0, if_neg k0]
    by_cases k1 : k = 1
    · rw [if_pos k1, if_pos k1]
      have eA : rput S 33 t 0 = pt S 34 t 0 := rput_in 0 (by have : (ln (33 + 1) : Int) = 4 := rfl; omega)
      refine ⟨?_, fun a ha => rput_ne _ _ _ (by omega), rput_2 _ _ _ _⟩
      rw [eA]
      exact eqS.rf _
    · rw [if_neg k1, if_neg k1]
      by_cases k2 : k = 2
      · rw [if_pos k2, if_pos k2]
        have h2 := d4 k2
        have eA : rremove S 39 (S.1 39 1 - 1) = pt (aset S 40 (cutF (S.1 40) (S.1 39 1 - 1) (S.1 39 1))) 39 1 (S.1 39 1 - 1) := if_pos (by omega)
        refine ⟨?_, fun a ha => rremove_ne _ _ (by omega) (by omega), rremove_2 _ _ _⟩
        rw [eA]
        refine ⟨fun q q1 q2 => ⟨rfl, rfl⟩, fun m m1 m2 => ⟨rfl, rfl⟩, rfl, fun i i1 i2 => ?_⟩
        change i < S.1 39 1 - 1 at i2
        show cutF (S.1 40) (S.1 39 1 - 1) (S.1 39 1) i = S.1 40 i
        exact if_pos i2
      · rw [if_neg k2, if_neg k2]
        have h3 := d5 (by omega)
        have eA : rinsert S 39 x (S.1 32 t) = pt (aset S 40 (insF (S.1 40) x (S.1 39 1) (S.1 32 t))) 39 1 (S.1 39 1 + 1) := if_pos (by have : (ln (39 + 1) : Int) = 6 := rfl; omega)
        refine ⟨?_, fun a ha => rinsert_ne _ _ _ (by omega) (by omega), rinsert_2 _ _ _ _⟩
        rw [eA]
        exact eqS.rf _
theorem rrl {S : Sg} {k : Nat} (h : 0 < S.1 k 1) : (rremove S k (S.1 k 1 - 1)).1 k 1 = S.1 k 1 - 1 ∧ ∀ j : Int, 0 ≤ j → j < S.1 k 1 - 1 → (rremove S k (S.1 k 1 - 1)).1 (k + 1) j = S.1 (k + 1) j := by
  unfold rremove
  rw [if_pos (by omega)]
  refine ⟨pt_at _ _ _ _, fun j j1 j2 => ?_⟩
  rw [pt_ne _ _ _ (by omega), aset_eq]
  exact if_pos j2
theorem ddrop_at {S : Sg} {m : Int} (h : S.1 66 1 = m ∧ S.1 68 1 = m ∧ S.1 70 1 = m) (hm : 0 < m) : ((ddrop S (m - 1)).1 66 1 = m - 1 ∧ (ddrop S (m - 1)).1 68 1 = m - 1 ∧ (ddrop S (m - 1)).1 70 1 = m - 1) ∧ ∀ j : Int, 0 ≤ j → j < m - 1 → (ddrop S (m - 1)).1 67 j = S.1 67 j ∧ (ddrop S (m - 1)).1 69 j = S.1 69 j ∧ (ddrop S (m - 1)).1 71 j = S.1 71 j := by
  obtain ⟨h1, h2, h3⟩ := h
  have b1 := rrl (S := S) (k := 66) (by omega)
  rw [h1] at b1
  have e2 : (rremove S 66 (m - 1)).1 68 = S.1 68 := rremove_ne _ _ (by decide) (by decide)
  have b2 := rrl (S := rremove S 66 (m - 1)) (k := 68) (by rw [e2]; omega)
  rw [e2, h2] at b2
  have e3 : (rremove (rremove S 66 (m - 1)) 68 (m - 1)).1 70 = S.1 70 := by rw [rremove_ne _ _ (by decide) (by decide), rremove_ne _ _ (by decide) (by decide)]
  have b3 := rrl (S := rremove (rremove S 66 (m - 1)) 68 (m - 1)) (k := 70) (by rw [e3]; omega)
  rw [e3, h3] at b3
  have f66 : (ddrop S (m - 1)).1 66 = (rremove S 66 (m - 1)).1 66 := by unfold ddrop; rw [rremove_ne _ _ (by decide) (by decide), rremove_ne _ _ (by decide) (by decide)]
  have f67 : (ddrop S (m - 1)).1 67 = (rremove S 66 (m - 1)).1 67 := by unfold ddrop; rw [rremove_ne _ _ (by decide) (by decide), rremove_ne _ _ (by decide) (by decide)]
  have f68 : (ddrop S (m - 1)).1 68 = (rremove (rremove S 66 (m - 1)) 68 (m - 1)).1 68 := by unfold ddrop; rw [rremove_ne _ _ (by decide) (by decide)]
  have f69 : (ddrop S (m - 1)).1 69 = (rremove (rremove S 66 (m - 1)) 68 (m - 1)).1 69 := by unfold ddrop; rw [rremove_ne _ _ (by decide) (by decide)]
  have g69 : (rremove S 66 (m - 1)).1 69 = S.1 69 := rremove_ne _ _ (by decide) (by decide)
  have g71 : (rremove (rremove S 66 (m - 1)) 68 (m - 1)).1 71 = S.1 71 := by rw [rremove_ne _ _ (by decide) (by decide), rremove_ne _ _ (by decide) (by decide)]
  refine ⟨⟨by rw [f66]; exact b1.1, by rw [f68]; exact b2.1, b3.1⟩, fun j j1 j2 => ⟨by rw [f67]; exact b1.2 j j1 j2, ?_, ?_⟩⟩
  · rw [f69, ← g69]; exact b2.2 j j1 j2
  · rw [← g71]; exact b3.2 j j1 j2
theorem Wr.backs {S : Sg} (h : Wr S) (k t x : Int) : Wr (dback S k t x) := by
  unfold dback
  split
  · exact (h.wear _ _ _).put rfl _ _
  · split
    · exact h.put rfl _ _
    · split
      · exact h.remove rfl _
      · exact h.insert rfl _ _
theorem op_undo (X : XT) (hR : RI c S) (hc : c + 1 ≤ 5000) : OpI X 6 6 yX_undo bX_undo 1 yZ_undo bZ_undo 2 [.ref 0] [.ref 88] c S := by
  obtain ⟨p, q, h⟩ := hR
  have hpq := h.pq
  have h' := h
  obtain ⟨g1, g2, gw, gP, gT, gN, gU, gI, gS, gM, gt, gX⟩ := h
  have u1 := gU.1
  have u2 := gU.2.1
  have hn6 := gN.2.1.2.2.1
  change 0 ≤ S.1 95 5 ∧ S.1 95 5 ≤ 6 at hn6
  by_cases k : S.1 66 1 = 0
  · exact OpI.rd2 h' hc (cX_undo X h'.ci) (cZ_undo X h'.zi) (by unfold xUndo zUndo; rw [if_pos k, if_pos (by omega)]) (by unfold zUndo; rw [if_pos (by omega)])
  have hm : ∃ m, m = S.1 66 1 := ⟨_, rfl⟩
  obtain ⟨m, hm⟩ := hm
  have hq := gU.2.2.2 (m - 1) (by omega) (by omega)
  rw [show m - 1 + 1 = m by omega] at hq
  have evm : vv (S.1 66 1) (S.1 98) (S.1 95) m = S.1 95 := if_neg (by omega)
  rw [evm] at hq
  have hB := dback_bk S (hq.1.eq gN.1.sy) (by rw [gN.n]; exact hn6)
  have hD : ∃ B, B = dback S (S.1 67 (m - 1)) (S.1 69 (m - 1)) (S.1 71 (m - 1)) := ⟨_, rfl⟩
  obtain ⟨B, hD⟩ := hD
  rw [← hD] at hB
  have hWB : Wr B := by rw [hD]; exact gw.backs _ _ _
  have eU : xUndo S p = ((ddrop B (m - 1)).1 66 1, ddrop B (m - 1)) := by unfold xUndo; rw [if_neg k, ← hm, ← hD]
  have hU : ∀ a : Nat, 88 ≤ a → (xUndo S p).2.1 a = S.1 a := fun a ha => by rw [eU]; show (ddrop B (m - 1)).1 a = _; rw [ddrop_ne _ _ (by omega), hB.2.1 a (by omega)]
  have hz : ZI (xUndo S p).2 := h'.zi.cg hU
  refine OpI.st (z := zUndo) (cX_undo X h'.ci) (cZ_undo X hz) ?_
  have eV : zUndo (xUndo S p).2 = (m - 1, cpw (pt (xUndo S p).2 88 19 (m - 1)) 98 95 (212 * (m - 1)) 212) := by
    unfold zUndo
    rw [hU 88 (by omega), if_neg (by omega), show S.1 88 19 = m by omega]
  have hd := ddrop_at (S := B) (m := m) ⟨by rw [hB.2.1 66 (by omega)]; exact hm.symm, by rw [hB.2.1 68 (by omega)]; omega, by rw [hB.2.1 70 (by omega)]; omega⟩ (by omega)
  rw [hB.2.1 67 (by omega), hB.2.1 69 (by omega), hB.2.1 71 (by omega)] at hd
  rw [eV, eU]
  dsimp only
  have hS2 : ∃ S2, S2 = cpw (pt (ddrop B (m - 1)) 88 19 (m - 1)) 98 95 (212 * (m - 1)) 212 := ⟨_, rfl⟩
  obtain ⟨S2, hS2⟩ := hS2
  rw [← hS2]
  have fr0 : ∀ a : Nat, a ≠ 95 → a ≠ 88 → S2.1 a = (ddrop B (m - 1)).1 a := fun a h1 h2 => by rw [hS2, cpw_ne _ _ _ h1, pt_ne _ _ _ h2]
  have fr : ∀ a : Nat, (a ≠ 95 ∧ a ≠ 88) ∧ (a < 31 ∨ 40 < a) ∧ (a < 66 ∨ 71 < a) → S2.1 a = S.1 a := fun a ha => by rw [fr0 a ha.1.1 ha.1.2, ddrop_ne _ _ ha.2.2, hB.2.1 a ha.2.1]
  have fB : ∀ a : Nat, 31 ≤ a → a ≤ 40 → S2.1 a = B.1 a := fun a h1 h2 => by rw [fr0 a (by omega) (by omega), ddrop_ne _ _ (by omega)]
  have f88 : ∀ j : Int, j ≠ 19 → S2.1 88 j = S.1 88 j := fun j hj => by rw [hS2, cpw_ne _ _ _ (by decide), pt_eq, uF_ne _ _ hj, ddrop_ne _ _ (by omega), hB.2.1 88 (by omega)]
  have f19 : S2.1 88 19 = m - 1 := by rw [hS2, cpw_ne _ _ _ (by decide), pt_at]
  have f98 : S2.1 98 = S.1 98 := fr 98 (by omega)
  have e95 : ∀ i : Int, 0 ≤ i → i < 212 → S2.1 95 i = vv (S.1 66 1) (S.1 98) (S.1 95) (m - 1) i := by
    intro i i1 i2
    rw [hS2]
    unfold cpw vv
    rw [aset_eq, if_pos ⟨i1, i2⟩, if_pos (by omega), pt_ne _ _ _ (by decide), ddrop_ne _ _ (by omega), hB.2.1 98 (by omega)]
  have ow := gU.2.2.1 (m - 1) (by omega) (by omega)
  have eqw : eqS (scV (vv (S.1 66 1) (S.1 98) (S.1 95) (m - 1))) (scV (S2.1 95)) := scV_eq (fun i i1 i2 => (e95 i i1 i2).symm) ow.1.2.2.1.2
  have es : sc6 S2 30 = sc6 B 30 := by
    unfold sc6
    rw [fB 32 (by omega) (by omega), fB 34 (by omega) (by omega), fB 36 (by omega) (by omega), fB 38 (by omega) (by omega), fB 39 (by omega) (by omega), fB 40 (by omega) (by omega)]
  refine ⟨by rw [hd.1.1], ?_⟩
  refine h'.mk' hc (by rw [hS2]; show (ddrop B (m - 1)).2.2 = _; unfold ddrop; rw [rremove_2, rremove_2, rremove_2, hB.2.2]) ?_ (gP.cg (fun a a1 a2 => fr a (by omega)) (fun a a1 a2 => fr a (by omega))) (gT.cg (fr 2 (by omega)) (fr 3 (by omega)) (f88 3 (by omega)) (fr 89 (by omega))) ⟨?_, ?_⟩ ?_ ((gI.cg (fun a a1 a2 => fr a (by omega)) (fr 96 (by omega)) (fr 97 (by omega))).mono (by omega)) (gS.cg (fun a a1 a2 => fr a (by omega)) (f88 22 (by omega)) (fr 99 (by omega)) (fr 100 (by omega)) (fr _ (by omega)) (fr _ (by omega))) (gM.cg (fun a a1 a2 => fr a (by omega)) (f88 26 (by omega)) (fr 101 (by omega)) (fr 102 (by omega)) (fr 103 (by omega)) (fr _ (by omega))) ?_ (gX.cg (fun j hj => f88 j (by omega))) (fr 90 (by omega))
  · rw [hS2]
    exact ((hWB.ddrop _).pt (by decide) _ _).aset (by decide) _
  · rw [es]
    refine hB.1.tr ((eqS.takes gN.1 (hq.1.eq gN.1.sy)).tr (hq.2.tr eqw))
  · exact (ow.eq (fun i i1 i2 => (e95 i i1 i2).symm)).mono (by omega)
  · refine UND.mono (c := c) ⟨⟨?_, ?_, ?_⟩, ?_⟩ (by omega)
    · rw [fr0 68 (by omega) (by omega), fr0 66 (by omega) (by omega), hd.1.1, hd.1.2.1]
    · rw [fr0 70 (by omega) (by omega), fr0 66 (by omega) (by omega), hd.1.1, hd.1.2.2]
    · rw [f19, fr0 66 (by omega) (by omega), hd.1.1]
    · rw [fr0 66 (by omega) (by omega), fr0 67 (by omega) (by omega), fr0 69 (by omega) (by omega), fr0 71 (by omega) (by omega), hd.1.1, f98]
      have hp := gU.2.pop (by omega)
      rw [← hm] at hp
      rw [← hm] at e95
      exact hp.cg hd.2 (fun i _ _ => rfl) e95
  · rw [hS2]
    show (ddrop B (m - 1)).2.1 88 = (ddrop B (m - 1)).2.1 0
    unfold ddrop
    rw [rremove_2, rremove_2, rremove_2, hB.2.2]
    exact gt
end DO
