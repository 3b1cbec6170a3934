/-! items one behind another, in both -/
def IO (q : Nat) (i1 : Int) (r : Int × Sg) (V' : Sg) : Prop := (∃ (W : Sg) (j : Int), r = (if stopS W then 1 else 0, nxS W) ∧ Hs W V' j ∧ PD W V' q ∧ i1 ≤ j) ∨ ∃ X : Sg, r = (0, X) ∧ V'.1 88 8 = X.1 1 3 ∧ 0 ≤ V'.1 88 8
theorem nmZ_f {V : Sg} (h : 0 ≤ V.1 88 8) (l m : Int) : nmZ V l m = (0, V) := by
  unfold nmZ tkZ
  rw [if_pos h, if_pos h]
  split <;> rfl
theorem zN_val {V V' : Sg} {a : Nat} {k l m x : Int} (h : nmZ V l m = (x, V')) : zN V a k l m = pt V' a k x := by unfold zN; rw [h]
theorem Hs.tok {U V : Sg} {i : Int} (h : Hs U V i) : (nxS U).1 1 3 = tkS U i ∧ 0 ≤ tkS U i ∧ i ≤ tkE U i := by
  have hb := lE_bd (U.1 3) h.2.1.1.2
  have := h.2.1.1
  refine ⟨by rw [nxS_at, h.2.2], ?_, ?_⟩
  · show 0 ≤ lS _ _ _; omega
  · show i ≤ lE _ _ _; omega
theorem Hs.cg2 {U V U' V' : Sg} {i : Int} (h : Hs U V i) (e1 : U'.1 1 1 = U.1 1 1) (e2 : U'.1 2 = U.1 2) (e3 : U'.1 3 = U.1 3) (f8 : ∀ j : Int, 3 ≤ j → j ≤ 8 → V'.1 88 j = V.1 88 j) (f9 : V'.1 89 = V.1 89) : Hs U' V' i := by
  obtain ⟨h1, h2, h3⟩ := h
  refine ⟨h1.cg e2 e3 (f8 3 (by omega) (by omega)) f9, ?_, e1.trans h3⟩
  have h2 := h2.cgU (U' := U') e2 e3
  unfold Zt at *
  rw [f8 4 (by omega) (by omega), f8 5 (by omega) (by omega), f8 6 (by omega) (by omega), f8 7 (by omega) (by omega), f8 8 (by omega) (by omega)]
  exact h2
theorem PD.nx {U V : Sg} {q : Nat} (h : PD U V q) (hq : 1 < q) : PD (nxS U) V q := h.cg (fun a a1 _ => nxS_ne U (by omega)) (nxS_hi U (by omega)) (nxS_hi U (by omega)) (fun _ _ _ => rfl) rfl
theorem PD.av {U V : Sg} {q : Nat} (h : PD U V q) : PD U (avS V) q := h.cg (fun _ _ _ => rfl) rfl rfl (fun a a1 a2 => avS_ne V (by omega)) (avS_hi V (by omega))
theorem zSt_8 (V : Sg) : (zSt V).1 88 8 = (nmZ (zS2 V) 0 6).2.1 88 8 := by
  unfold zSt zS3
  rw [pt_ne _ _ _ (by decide), pt_ne _ _ _ (by decide)]
theorem zS2_8 (V : Sg) : (zS2 V).1 88 8 = (nmZ (zN V 91 (5 + V.1 90 4) 1 20) 1 20).2.1 88 8 := by
  show (zN (zN V 91 (5 + V.1 90 4) 1 20) 92 _ 1 20).1 88 8 = _
  unfold zN
  rw [pt_ne _ _ _ (by decide)]
theorem st_io {U V : Sg} {i : Int} {q : Nat} (hq : q = 4 ∨ q = 17) (h : Hs U V i) (hp : PD U V q) (hns : V.1 90 4 < 5) : IO q i (stR U q) (zSt V) := by
  have t1 := h.tok
  have n1' := h.num (lo := 1) (hi := 20) (by omega)
  unfold stR
  by_cases n1 : numS U 1 20
  · rw [if_neg (fun hh => hh n1)]
    have e1 := n1'.1 n1
    have eA1 : zN V 91 (5 + V.1 90 4) 1 20 = pt (avS V) 91 (5 + V.1 90 4) (vS U) := zN_val e1
    have H1 : Hs (nxS U) (pt (avS V) 91 (5 + V.1 90 4) (vS U)) (tkE U i) := h.go.cg rfl rfl rfl (pt_ne _ _ _ (by decide)) (pt_ne _ _ _ (by decide))
    have t2 := H1.tok
    have n2' := H1.num (lo := 1) (hi := 20) (by omega)
    by_cases n2 : numS (nxS U) 1 20
    · rw [if_neg (fun hh => hh n2)]
      have e2 := n2'.1 n2
      have eA2 : zS2 V = pt (avS (pt (avS V) 91 (5 + V.1 90 4) (vS U))) 92 (5 + V.1 90 4) (vS (nxS U)) := by
        show zN (zN V 91 (5 + V.1 90 4) 1 20) 92 _ 1 20 = _
        rw [eA1]
        exact zN_val e2
      have H2 : Hs (nxS (nxS U)) (zS2 V) (tkE (nxS U) (tkE U i)) := by
        rw [eA2]
        exact H1.go.cg rfl rfl rfl (pt_ne _ _ _ (by decide)) (pt_ne _ _ _ (by decide))
      have t3 := H2.tok
      have n3' := H2.num (lo := 0) (hi := 6) (by omega)
      by_cases n3 : numS (nxS (nxS U)) 0 6
      · rw [if_neg (fun hh => hh n3)]
        have e3 := n3'.1 n3
        left
        have eS : zSt V = pt (pt (avS (zS2 V)) 93 (5 + V.1 90 4) (vS (nxS (nxS U)) - 3)) 90 4 ((pt (avS (zS2 V)) 93 (5 + V.1 90 4) (vS (nxS (nxS U)) - 3)).1 90 4 + 1) := by
          unfold zSt zS3
          rw [e3]
        have s90 : (zS2 V).1 90 = V.1 90 := by rw [eA2, pt_ne _ _ _ (by decide), avS_ne _ (by decide), pt_ne _ _ _ (by decide), avS_ne _ (by decide)]
        refine ⟨_, tkE (nxS (nxS U)) (tkE (nxS U) (tkE U i)), rfl, ?_, ?_, by omega⟩
        · refine H2.go.cg (by rw [padd_ne _ _ _ _ _ (show 1 < q + 1 ∨ q + 10 < 1 by omega)]) (padd_ne _ _ _ _ _ (by omega)) (padd_ne _ _ _ _ _ (by omega)) ?_ ?_
          · rw [eS, pt_ne _ _ _ (by decide), pt_ne _ _ _ (by decide)]
          · rw [eS, pt_ne _ _ _ (by decide), pt_ne _ _ _ (by decide)]
        · refine PD.add (V := V) (kd_p hq) (((hp.nx (by omega)).nx (by omega)).nx (by omega)) hns n1.2 n2.2 (by have := n3.2; omega) (by omega) ?_ ?_ ?_ ?_ ?_ ?_
          · rw [eS, pt_eq, pt_ne _ _ _ (by decide), avS_ne _ (by decide), s90]
          · rw [eS, pt_ne _ _ _ (by decide), pt_ne _ _ _ (by decide), avS_ne _ (by decide), eA2, pt_ne _ _ _ (by decide), avS_ne _ (by decide), pt_eq, avS_ne _ (by decide)]
          · rw [eS, pt_ne _ _ _ (by decide), pt_ne _ _ _ (by decide), avS_ne _ (by decide), eA2, pt_eq, avS_ne _ (by decide), pt_ne _ _ _ (by decide), avS_ne _ (by decide)]
          · rw [eS, pt_ne _ _ _ (by decide), pt_eq, avS_ne _ (by decide), eA2, pt_ne _ _ _ (by decide), avS_ne _ (by decide), pt_ne _ _ _ (by decide), avS_ne _ (by decide)]
          · rw [eS, pt_ne _ _ _ (by decide), pt_ne _ _ _ (by decide), avS_ne _ (by decide), eA2, pt_ne _ _ _ (by decide), avS_ne _ (by decide), pt_ne _ _ _ (by decide), avS_ne _ (by decide)]
          · rw [eS, pt_ne _ _ _ (by decide), pt_ne _ _ _ (by decide), avS_hi _ (by omega), eA2, pt_ne _ _ _ (by decide), avS_hi _ (by omega), pt_ne _ _ _ (by decide), avS_hi _ (by omega)]
      · rw [if_pos n3]
        right
        refine ⟨_, rfl, ?_, ?_⟩
        · rw [zSt_8, n3'.2 n3]; show (pt (zS2 V) 88 8 _).1 88 8 = _; rw [pt_at, t3.1]
        · rw [zSt_8, n3'.2 n3]; show 0 ≤ (pt (zS2 V) 88 8 _).1 88 8; rw [pt_at]; exact t3.2.1
    · rw [if_pos n2]
      right
      have e8 : (zS2 V).1 88 8 = tkS (nxS U) (tkE U i) := by
        rw [zS2_8, eA1, n2'.2 n2]
        exact pt_at _ _ _ _
      have e9 : (zSt V).1 88 8 = tkS (nxS U) (tkE U i) := by
        rw [zSt_8, nmZ_f (by rw [e8]; exact t2.2.1)]
        exact e8
      exact ⟨_, rfl, by rw [e9, t2.1], by rw [e9]; exact t2.2.1⟩
  · rw [if_pos n1]
    right
    have eA1 : zN V 91 (5 + V.1 90 4) 1 20 = pt (pt V 88 8 (tkS U i)) 91 (5 + V.1 90 4) 0 := zN_val (n1'.2 n1)
    have e7 : (zN V 91 (5 + V.1 90 4) 1 20).1 88 8 = tkS U i := by rw [eA1, pt_ne _ _ _ (by decide), pt_at]
    have e8 : (zS2 V).1 88 8 = tkS U i := by
      rw [zS2_8, nmZ_f (by rw [e7]; exact t1.2.1)]
      exact e7
    have e9 : (zSt V).1 88 8 = tkS U i := by
      rw [zSt_8, nmZ_f (by rw [e8]; exact t1.2.1)]
      exact e8
    exact ⟨_, rfl, by rw [e9, t1.1], by rw [e9]; exact t1.2.1⟩
theorem tr_io {U V : Sg} {i : Int} {q : Nat} (hq : q = 4 ∨ q = 17) (h : Hs U V i) (hp : PD U V q) (hnt : V.1 90 5 < 4) : IO q i (trR U q) (zTr V) := by
  have t1 := h.tok
  have n1' := h.num (lo := 1) (hi := 99) (by omega)
  unfold trR zTr
  by_cases n1 : numS U 1 99
  · rw [if_neg (fun hh => hh n1)]
    have eA : zN V 94 (4 + V.1 90 5) 1 99 = pt (avS V) 94 (4 + V.1 90 5) (vS U) := zN_val (n1'.1 n1)
    rw [eA]
    left
    have hp1 := hp.nx (q := q) (by omega)
    have hp2 := hp1
    obtain ⟨⟨p1, p2, p3⟩, p4, ⟨p5, p6, p7, p8⟩, p9, p10, p11, p12, p13, p14⟩ := hp2
    have hl := (plan_ok (kd_p hq)).2.2.2.2.2.2.2.2.2.2.2
    have eW := rpush_in (S := nxS U) (k := q + 11) (vS U) (by rw [p5, show q + 11 + 1 = q + 12 from rfl, hl]; omega)
    have g90 : (pt (pt (avS V) 94 (4 + V.1 90 5) (vS U)) 90 5 ((pt (avS V) 94 (4 + V.1 90 5) (vS U)).1 90 5 + 1)).1 90 = uF (V.1 90) 5 (V.1 90 5 + 1) := by rw [pt_eq, pt_ne _ _ _ (by decide), avS_ne _ (by decide)]
    have g94 : (pt (pt (avS V) 94 (4 + V.1 90 5) (vS U)) 90 5 ((pt (avS V) 94 (4 + V.1 90 5) (vS U)).1 90 5 + 1)).1 94 = uF (V.1 94) (4 + V.1 90 5) (vS U) := by rw [pt_ne _ _ _ (by decide), pt_eq, avS_ne _ (by decide)]
    have gne : ∀ a : Nat, a ≠ 88 → a ≠ 90 → a ≠ 94 → (pt (pt (avS V) 94 (4 + V.1 90 5) (vS U)) 90 5 ((pt (avS V) 94 (4 + V.1 90 5) (vS U)).1 90 5 + 1)).1 a = V.1 a := fun a h1 h2 h3 => by rw [pt_ne _ _ _ h2, pt_ne _ _ _ h3, avS_ne _ h1]
    have g88 : (pt (pt (avS V) 94 (4 + V.1 90 5) (vS U)) 90 5 ((pt (avS V) 94 (4 + V.1 90 5) (vS U)).1 90 5 + 1)).1 88 = (avS V).1 88 := by rw [pt_ne _ _ _ (by decide), pt_ne _ _ _ (by decide)]
    generalize (pt (pt (avS V) 94 (4 + V.1 90 5) (vS U)) 90 5 ((pt (avS V) 94 (4 + V.1 90 5) (vS U)).1 90 5 + 1)) = V' at g90 g94 gne g88
    have wne : ∀ a : Nat, a ≠ q + 11 → a ≠ q + 12 → (rpush (nxS U) (q + 11) (vS U)).1 a = (nxS U).1 a := fun a h1 h2 => rpush_ne _ _ h1 h2
    have w11 : (rpush (nxS U) (q + 11) (vS U)).1 (q + 11) 1 = V.1 90 5 + 1 := by rw [eW, pt_at, p5]
    have w12 : (rpush (nxS U) (q + 11) (vS U)).1 (q + 12) = uF ((nxS U).1 (q + 12)) (V.1 90 5) (vS U) := by
      rw [eW, pt_ne _ _ _ (by omega), p5]
      exact pt_eq _ _ _ _
    refine ⟨_, tkE U i, rfl, ?_, ?_, t1.2.2⟩
    · exact h.go.cg (by rw [wne 1 (by omega) (by omega)]) (wne 2 (by omega) (by omega)) (wne 3 (by omega) (by omega)) g88 (by rw [gne 89 (by decide) (by decide) (by decide)]; exact (avS_ne V (by decide)).symm)
    · unfold PD
      have q4 : V'.1 90 4 = V.1 90 4 := by rw [g90, uF_ne _ _ (by omega)]
      have q5 : V'.1 90 5 = V.1 90 5 + 1 := by rw [g90, uF_eq]
      have q6 : V'.1 90 6 = V.1 90 6 := by rw [g90, uF_ne _ _ (by omega)]
      have q7 : V'.1 90 7 = V.1 90 7 := by rw [g90, uF_ne _ _ (by omega)]
      have q10 : V'.1 88 10 = V.1 88 10 := by rw [g88, avS_hi _ (by omega)]
      rw [q4, q5, q6, q7, q10, gne 91 (by decide) (by decide) (by decide), gne 92 (by decide) (by decide) (by decide), gne 93 (by decide) (by decide) (by decide), g94, w11, w12, wne q (by omega) (by omega), wne 1 (by omega) (by omega), wne (q + 1) (by omega) (by omega), wne (q + 2) (by omega) (by omega), wne (q + 3) (by omega) (by omega), wne (q + 4) (by omega) (by omega), wne (q + 5) (by omega) (by omega), wne (q + 6) (by omega) (by omega), wne (q + 7) (by omega) (by omega), wne (q + 8) (by omega) (by omega), wne (q + 9) (by omega) (by omega), wne (q + 10) (by omega) (by omega)]
      refine ⟨⟨p1, by omega, p3⟩, p4, ⟨rfl, p6, p7, p8⟩, p9, fun t t1 t2 => ?_, p11, p12, p13, p14⟩
      by_cases e : t = V.1 90 5
      · rw [e, uF_eq, uF_eq]
        exact ⟨rfl, n1.2⟩
      · rw [uF_ne _ _ (by omega), uF_ne _ _ (by omega)]
        exact p10 t t1 (by omega)
  · rw [if_pos n1]
    right
    have eA : zN V 94 (4 + V.1 90 5) 1 99 = pt (pt V 88 8 (tkS U i)) 94 (4 + V.1 90 5) 0 := zN_val (n1'.2 n1)
    rw [eA]
    refine ⟨_, rfl, ?_, ?_⟩
    · rw [pt_ne _ _ _ (by decide), pt_ne _ _ _ (by decide), pt_at, t1.1]
    · rw [pt_ne _ _ _ (by decide), pt_ne _ _ _ (by decide), pt_at]; exact t1.2.1
/-- REACH and BOYS -/
theorem rb_io {U V : Sg} {i : Int} {q : Nat} (hq : q = 4 ∨ q = 17) (h : Hs U V i) (hp : PD U V q) (b : Bool) (hfl : if b then V.1 88 10 % 2 = 0 else V.1 88 10 / 2 % 2 = 0) : IO q i (if b then reR U q else boR U q) (if b then zRe V else zBo V) := by
  have t1 := h.tok
  have hp1 := hp.nx (q := q) (by omega)
  obtain ⟨⟨p1, p2, p3⟩, p4, ⟨p5, p6, p7, p8⟩, p9, p10, p11, p12, p13, p14⟩ := hp1
  cases b
  · have hfl : V.1 88 10 / 2 % 2 = 0 := hfl
    have n1' := h.num (lo := 2) (hi := 9) (by omega)
    show IO q i (boR U q) (zBo V)
    unfold boR zBo
    by_cases n1 : numS U 2 9
    · rw [if_neg (fun hh => hh n1)]
      have eA : zN V 90 7 2 9 = pt (avS V) 90 7 (vS U) := zN_val (n1'.1 n1)
      rw [eA]
      left
      have x10 : (pt (avS V) 90 7 (vS U)).1 88 10 = V.1 88 10 := by rw [pt_ne _ _ _ (by decide), avS_hi _ (by omega)]
      refine ⟨_, tkE U i, rfl, ?_, ?_, t1.2.2⟩
      · refine h.go.cg2 ?_ ?_ ?_ (fun j j1 j2 => ?_) ?_
        · rw [pt_eq, uF_ne _ _ (by omega), pt_ne _ _ _ (by omega)]
        · rw [pt_ne _ _ _ (by decide), pt_ne _ _ _ (by omega)]
        · rw [pt_ne _ _ _ (by decide), pt_ne _ _ _ (by omega)]
        · rw [pt_eq, uF_ne _ _ (by omega), pt_ne _ _ _ (by decide)]
        · rw [pt_ne _ _ _ (by decide), pt_ne _ _ _ (by decide)]
      · have g90 : (pt (pt (avS V) 90 7 (vS U)) 88 10 ((pt (avS V) 90 7 (vS U)).1 88 10 - (pt (avS V) 90 7 (vS U)).1 88 10 / 2 % 2 * 2 + 2)).1 90 = uF (V.1 90) 7 (vS U) := by rw [pt_ne _ _ _ (by decide), pt_eq, avS_ne _ (by decide)]
        have g10 : (pt (pt (avS V) 90 7 (vS U)) 88 10 ((pt (avS V) 90 7 (vS U)).1 88 10 - (pt (avS V) 90 7 (vS U)).1 88 10 / 2 % 2 * 2 + 2)).1 88 10 = V.1 88 10 + 2 := by rw [pt_at, x10]; omega
        have gne : ∀ a : Nat, a ≠ 88 → a ≠ 90 → (pt (pt (avS V) 90 7 (vS U)) 88 10 ((pt (avS V) 90 7 (vS U)).1 88 10 - (pt (avS V) 90 7 (vS U)).1 88 10 / 2 % 2 * 2 + 2)).1 a = V.1 a := fun a h1 h2 => by rw [pt_ne _ _ _ h1, pt_ne _ _ _ h2, avS_ne _ h1]
        generalize (pt (pt (avS V) 90 7 (vS U)) 88 10 ((pt (avS V) 90 7 (vS U)).1 88 10 - (pt (avS V) 90 7 (vS U)).1 88 10 / 2 % 2 * 2 + 2)) = V' at g90 g10 gne
        have wne : ∀ a : Nat, a ≠ q → a ≠ 1 → (pt (pt (nxS U) q 7 (vS U)) 1 6 1).1 a = (nxS U).1 a := fun a h1 h2 => by rw [pt_ne _ _ _ h2, pt_ne _ _ _ h1]
        have wq6 : (pt (pt (nxS U) q 7 (vS U)) 1 6 1).1 q 6 = (nxS U).1 q 6 := by rw [pt_ne _ _ _ (by omega), pt_eq, uF_ne _ _ (by omega)]
        have wq7 : (pt (pt (nxS U) q 7 (vS U)) 1 6 1).1 q 7 = vS U := by rw [pt_ne _ _ _ (by omega), pt_at]
        have w15 : (pt (pt (nxS U) q 7 (vS U)) 1 6 1).1 1 5 = (nxS U).1 1 5 := by rw [pt_eq, uF_ne _ _ (by omega), pt_ne _ _ _ (by omega)]
        have w16 : (pt (pt (nxS U) q 7 (vS U)) 1 6 1).1 1 6 = 1 := pt_at _ _ _ _
        unfold PD
        have q4 : V'.1 90 4 = V.1 90 4 := by rw [g90, uF_ne _ _ (by omega)]
        have q5 : V'.1 90 5 = V.1 90 5 := by rw [g90, uF_ne _ _ (by omega)]
        have q6 : V'.1 90 6 = V.1 90 6 := by rw [g90, uF_ne _ _ (by omega)]
        have q7 : V'.1 90 7 = vS U := by rw [g90, uF_eq]
        rw [q4, q5, q6, q7, g10, gne 91 (by decide) (by decide), gne 92 (by decide) (by decide), gne 93 (by decide) (by decide), gne 94 (by decide) (by decide), wq6, wq7, w15, w16, wne (q + 1) (by omega) (by omega), wne (q + 2) (by omega) (by omega), wne (q + 3) (by omega) (by omega), wne (q + 4) (by omega) (by omega), wne (q + 5) (by omega) (by omega), wne (q + 6) (by omega) (by omega), wne (q + 7) (by omega) (by omega), wne (q + 8) (by omega) (by omega), wne (q + 9) (by omega) (by omega), wne (q + 10) (by omega) (by omega), wne (q + 11) (by omega) (by omega), wne (q + 12) (by omega) (by omega)]
        exact ⟨⟨p1, p2, by omega⟩, p4, ⟨p5, p6, ⟨rfl, n1.2⟩, by omega, by omega⟩, p9, p10, p11, p12, p13, p14⟩
    · rw [if_pos n1]
      right
      have eA : zN V 90 7 2 9 = pt (pt V 88 8 (tkS U i)) 90 7 0 := zN_val (n1'.2 n1)
      rw [eA]
      refine ⟨_, rfl, ?_, ?_⟩
      · rw [pt_eq, uF_ne _ _ (by omega), pt_ne _ _ _ (by decide), pt_at, t1.1]
      · rw [pt_eq, uF_ne _ _ (by omega), pt_ne _ _ _ (by decide), pt_at]; exact t1.2.1
  · have hfl : V.1 88 10 % 2 = 0 := hfl
    have n1' := h.num (lo := 1) (hi := 9) (by omega)
    show IO q i (reR U q) (zRe V)
    unfold reR zRe
    by_cases n1 : numS U 1 9
    · rw [if_neg (fun hh => hh n1)]
      have eA : zN V 90 6 1 9 = pt (avS V) 90 6 (vS U) := zN_val (n1'.1 n1)
      rw [eA]
      left
      have x10 : (pt (avS V) 90 6 (vS U)).1 88 10 = V.1 88 10 := by rw [pt_ne _ _ _ (by decide), avS_hi _ (by omega)]
      refine ⟨_, tkE U i, rfl, ?_, ?_, t1.2.2⟩
      · refine h.go.cg2 ?_ ?_ ?_ (fun j j1 j2 => ?_) ?_
        · rw [pt_eq, uF_ne _ _ (by omega), pt_ne _ _ _ (by omega)]
        · rw [pt_ne _ _ _ (by decide), pt_ne _ _ _ (by omega)]
        · rw [pt_ne _ _ _ (by decide), pt_ne _ _ _ (by omega)]
        · rw [pt_eq, uF_ne _ _ (by omega), pt_ne _ _ _ (by decide)]
        · rw [pt_ne _ _ _ (by decide), pt_ne _ _ _ (by decide)]
      · have g90 : (pt (pt (avS V) 90 6 (vS U)) 88 10 ((pt (avS V) 90 6 (vS U)).1 88 10 - (pt (avS V) 90 6 (vS U)).1 88 10 % 2 + 1)).1 90 = uF (V.1 90) 6 (vS U) := by rw [pt_ne _ _ _ (by decide), pt_eq, avS_ne _ (by decide)]
        have g10 : (pt (pt (avS V) 90 6 (vS U)) 88 10 ((pt (avS V) 90 6 (vS U)).1 88 10 - (pt (avS V) 90 6 (vS U)).1 88 10 % 2 + 1)).1 88 10 = V.1 88 10 + 1 := by rw [pt_at, x10]; omega
        have gne : ∀ a : Nat, a ≠ 88 → a ≠ 90 → (pt (pt (avS V) 90 6 (vS U)) 88 10 ((pt (avS V) 90 6 (vS U)).1 88 10 - (pt (avS V) 90 6 (vS U)).1 88 10 % 2 + 1)).1 a = V.1 a := fun a h1 h2 => by rw [pt_ne _ _ _ h1, pt_ne _ _ _ h2, avS_ne _ h1]
        generalize (pt (pt (avS V) 90 6 (vS U)) 88 10 ((pt (avS V) 90 6 (vS U)).1 88 10 - (pt (avS V) 90 6 (vS U)).1 88 10 % 2 + 1)) = V' at g90 g10 gne
        have wne : ∀ a : Nat, a ≠ q → a ≠ 1 → (pt (pt (nxS U) q 6 (vS U)) 1 5 1).1 a = (nxS U).1 a := fun a h1 h2 => by rw [pt_ne _ _ _ h2, pt_ne _ _ _ h1]
        have wq7 : (pt (pt (nxS U) q 6 (vS U)) 1 5 1).1 q 7 = (nxS U).1 q 7 := by rw [pt_ne _ _ _ (by omega), pt_eq, uF_ne _ _ (by omega)]
        have wq6 : (pt (pt (nxS U) q 6 (vS U)) 1 5 1).1 q 6 = vS U := by rw [pt_ne _ _ _ (by omega), pt_at]
        have w16 : (pt (pt (nxS U) q 6 (vS U)) 1 5 1).1 1 6 = (nxS U).1 1 6 := by rw [pt_eq, uF_ne _ _ (by omega), pt_ne _ _ _ (by omega)]
        have w15 : (pt (pt (nxS U) q 6 (vS U)) 1 5 1).1 1 5 = 1 := pt_at _ _ _ _
        unfold PD
        have q4 : V'.1 90 4 = V.1 90 4 := by rw [g90, uF_ne _ _ (by omega)]
        have q5 : V'.1 90 5 = V.1 90 5 := by rw [g90, uF_ne _ _ (by omega)]
        have q7 : V'.1 90 7 = V.1 90 7 := by rw [g90, uF_ne _ _ (by omega)]
        have q6 : V'.1 90 6 = vS U := by rw [g90, uF_eq]
        rw [q4, q5, q6, q7, g10, gne 91 (by decide) (by decide), gne 92 (by decide) (by decide), gne 93 (by decide) (by decide), gne 94 (by decide) (by decide), wq6, wq7, w15, w16, wne (q + 1) (by omega) (by omega), wne (q + 2) (by omega) (by omega), wne (q + 3) (by omega) (by omega), wne (q + 4) (by omega) (by omega), wne (q + 5) (by omega) (by omega), wne (q + 6) (by omega) (by omega), wne (q + 7) (by omega) (by omega), wne (q + 8) (by omega) (by omega), wne (q + 9) (by omega) (by omega), wne (q + 10) (by omega) (by omega), wne (q + 11) (by omega) (by omega), wne (q + 12) (by omega) (by omega)]
        exact ⟨⟨p1, p2, by omega⟩, p4, ⟨p5, ⟨rfl, n1.2⟩, p7, by omega, by omega⟩, p9, p10, p11, p12, p13, p14⟩
    · rw [if_pos n1]
      right
      have eA : zN V 90 6 1 9 = pt (pt V 88 8 (tkS U i)) 90 6 0 := zN_val (n1'.2 n1)
      rw [eA]
      refine ⟨_, rfl, ?_, ?_⟩
      · rw [pt_eq, uF_ne _ _ (by omega), pt_ne _ _ _ (by decide), pt_at, t1.1]
      · rw [pt_eq, uF_ne _ _ (by omega), pt_ne _ _ _ (by decide), pt_at]; exact t1.2.1
theorem item_io {U V : Sg} {i : Int} {q : Nat} (hq : q = 4 ∨ q = 17) (h : Sy U V i) (hk : tkK U i ≠ 0) (hp : PD U V q) : IO q (tkE U i) (itR U q) (zK2 V) := by
  obtain ⟨f1, f2, f3⟩ := h.first hk
  have hw : V.1 88 8 < 0 := h.2.1.2.2.2.2.2
  have e6 : V.1 88 6 = U.1 1 3 := by rw [h.2.1.2.2.2.1, h.2.2.2.2]
  have hb : 0 ≤ U.1 1 3 := by
    rw [h.2.2.2.2]
    have := lS_bd (U.1 3) h.2.1.1.2
    have := h.2.1.1
    show 0 ≤ lS _ _ _
    omega
  have hp' := hp
  obtain ⟨⟨p1, p2, p3⟩, p4, ⟨p5, p6, p7, p8⟩, p9⟩ := hp'
  by_cases hc : V.1 88 5 = 1 ∧ mayB V
  · have ek := f1.mp hc.1
    have e7 := f2 hc.1
    have e1 : zK1 V = (U.1 1 2, avS V) := by
      unfold zK1 tkZ
      rw [if_pos hc, if_neg (by omega), if_neg (by decide), e7]
    have e2 : zK2 V = zItem (avS V) (U.1 1 2) := by
      unfold zK2
      rw [e1]
      exact if_pos (by show (avS V).1 88 8 < 0; rw [avS_hi _ (by omega)]; exact hw)
    rw [e2]
    have hm := hc.2
    have hg := h.go
    have hpa := hp.av
    unfold itR zItem
    unfold mayB at hm
    rw [e7] at hm
    have a4 : (avS V).1 90 = V.1 90 := avS_ne V (by decide)
    have a10 : (avS V).1 88 10 = V.1 88 10 := avS_hi V (by omega)
    by_cases c1 : U.1 1 2 = 115
    · rw [if_pos c1, if_pos c1, if_pos (by omega)]
      exact st_io hq hg hpa (by rw [a4]; omega)
    · rw [if_neg c1, if_neg c1]
      by_cases c2 : U.1 1 2 = 116
      · rw [if_pos c2, if_pos c2, if_pos (by omega)]
        exact tr_io hq hg hpa (by rw [a4]; omega)
      · rw [if_neg c2, if_neg c2]
        by_cases c3 : U.1 1 2 = 114
        · rw [if_pos c3, if_pos c3, if_pos (by omega)]
          exact rb_io hq hg hpa true (by show (avS V).1 88 10 % 2 = 0; rw [a10]; omega)
        · have c4 : U.1 1 2 = 98 := by unfold isK at ek; omega
          rw [if_neg c3, if_neg c3, if_pos c4, if_pos (by omega)]
          exact rb_io hq hg hpa false (by show (avS V).1 88 10 / 2 % 2 = 0; rw [a10]; omega)
  · right
    have e1 : zK1 V = (0, pt V 88 8 (V.1 88 6)) := by
      unfold zK1 tkZ
      rw [if_neg hc, if_neg (by omega), if_pos rfl]
    have e2 : zK2 V = pt V 88 8 (V.1 88 6) := by
      unfold zK2
      rw [e1]
      exact if_neg (by show ¬ (pt V 88 8 (V.1 88 6)).1 88 8 < 0; rw [pt_at]; omega)
    have eI : itR U q = (0, U) := by
      unfold itR
      unfold mayB at hc
      by_cases hK : isK (U.1 1 2)
      · have h5 := f1.mpr hK
        have e7 := f2 h5
        rw [e7] at hc
        unfold isK at hK
        by_cases c1 : U.1 1 2 = 115
        · rw [if_pos c1, if_neg (by omega)]
        · rw [if_neg c1]
          by_cases c2 : U.1 1 2 = 116
          · rw [if_pos c2, if_neg (by omega)]
          · rw [if_neg c2]
            by_cases c3 : U.1 1 2 = 114
            · rw [if_pos c3, if_neg (by omega)]
            · rw [if_neg c3]
              by_cases c4 : U.1 1 2 = 98
              · rw [if_pos c4, if_neg (by omega)]
              · rw [if_neg c4]
      · unfold isK at hK
        rw [if_neg (by omega), if_neg (by omega), if_neg (by omega), if_neg (by omega)]
    refine ⟨U, eI, ?_, ?_⟩
    · rw [e2, pt_at, e6]
    · rw [e2, pt_at]; omega
theorem item_end {U V : Sg} {i : Int} {q : Nat} (hq : q = 4 ∨ q = 17) (h : Sy U V i) (hk : tkK U i ≠ 0) (hp : PD U V q) : ((itR U q).1 ≠ 0 ∧ ∃ j : Int, Sy (nxS (itR U q).2) (zK3 V) j ∧ PD (nxS (itR U q).2) (zK3 V) q ∧ i < j) ∨ ((itR U q).1 = 0 ∧ (zK3 V).1 88 8 = (itR U q).2.1 1 3 ∧ 0 ≤ (zK3 V).1 88 8) := by
  have hb := lE_bd (U.1 3) h.2.1.1.2
  have hlt : i < tkE U i := by
    have := hb.2.2.2 hk
    show i < lE _ _ _
    omega
  rcases item_io hq h hk hp with ⟨W, j, e1, e2, e3, e4⟩ | ⟨X, e1, e2, e3⟩
  · rw [e1]
    have hw : (zK2 V).1 88 8 < 0 := e2.2.1.2.2.2.2.2
    have hs := e2.stop
    have t := e2.tok
    by_cases c : stopS W
    · left
      have eK : zK3 V = avS (zK2 V) := by
        unfold zK3 tkZ
        rw [if_pos (hs.mpr c), if_neg (by omega), if_neg (by decide)]
      rw [eK]
      refine ⟨by show (if stopS W then (1 : Int) else 0) ≠ 0; rw [if_pos c]; decide, tkE W j, e2.go.sy, ((e3.nx (by omega)).nx (by omega)).av, by omega⟩
    · right
      have eK : zK3 V = pt (zK2 V) 88 8 ((zK2 V).1 88 6) := by
        unfold zK3 tkZ
        rw [if_neg (fun hh => c (hs.mp hh)), if_neg (by omega), if_pos rfl]
      have e6 : (zK2 V).1 88 6 = tkS W j := e2.2.1.2.2.2.1
      refine ⟨if_neg c, ?_, ?_⟩
      · rw [eK, pt_at, e6]; exact t.1.symm
      · rw [eK, pt_at, e6]; exact t.2.1
  · right
    rw [e1]
    have eK : zK3 V = zK2 V := by
      unfold zK3 tkZ
      rw [if_pos e3, if_pos e3]
      split <;> rfl
    rw [eK]
    exact ⟨rfl, e2, e3⟩
theorem zLoop_f {V : Sg} (h : 0 ≤ V.1 88 8) : ∀ (n : Nat) (it : Int), (zLoop n it V).2 = V
  | 0, _ => rfl
  | n + 1, it => by rw [zLoop, if_pos (Or.inl h)]
theorem rd_z {q : Nat} (hq : q = 4 ∨ q = 17) : ∀ (n : Nat) (it i : Int) (U V : Sg), Sy U V i → PD U V q → 0 ≤ it → it ≤ i → U.1 2 1 - i < n → ((rdR q n it U).1 < 0 ∧ 0 ≤ (zLoop n it V).2.1 88 8 ∧ (rdR q n it U).1 = -10 - (zLoop n it V).2.1 88 8) ∨ (0 ≤ (rdR q n it U).1 ∧ (zLoop n it V).1 = (rdR q n it U).1 ∧ (zLoop n it V).2.1 88 8 < 0 ∧ PD (rdR q n it U).2 (zLoop n it V).2 q)
  | 0, it, i, U, V, h, hp, h0, h1, h2 => by have := h.2.1.1; omega
  | n + 1, it, i, U, V, h, hp, h0, h1, h2 => by
    have hw : V.1 88 8 < 0 := h.2.1.2.2.2.2.2
    have hi := h.2.1.1
    have hz := h.1.1.1
    rw [rdR, zLoop, if_neg (show ¬ 120 < it by omega)]
    by_cases hk : tkK U i = 0
    · have e2 : U.1 1 2 = 257 := by
        rw [h.2.2.2.1]
        unfold tkF
        exact if_pos hk
      have e5 : V.1 88 5 = 0 := by
        rw [h.2.1.2.2.1]
        unfold zTok
        exact if_pos hk
      rw [if_pos e2, if_pos (Or.inr e5)]
      exact Or.inr ⟨h0, rfl, hw, hp⟩
    · have e2 := (h.first hk).2.2
      have e5 : V.1 88 5 ≠ 0 := by
        rw [h.2.1.2.2.1]
        intro hh
        exact hk ((zTok_bd _ _ _).2 hh)
      rw [if_neg e2, if_neg (show ¬ (0 ≤ V.1 88 8 ∨ V.1 88 5 = 0) by omega)]
      rcases item_end hq h hk hp with ⟨c, j, s1, s2, s3⟩ | ⟨c, s2, s3⟩
      · rw [if_neg c]
        have ej : (nxS (itR U q).2).1 2 1 = U.1 2 1 := by
          have hO : Only q U (nxS (itR U q).2) := (Only.it q U).tr (Only.nx q _)
          rw [hO.2 2 (by omega) (by omega)]
        exact rd_z hq n (it + 1) j _ _ s1 s2 (by omega) (by omega) (by rw [ej]; omega)
      · rw [if_pos c]
        left
        rw [zLoop_f s3, s2]
        have hb : 0 ≤ (itR U q).2.1 1 3 := by omega
        refine ⟨by show -10 - (itR U q).2.1 1 3 < 0; omega, hb, rfl⟩
