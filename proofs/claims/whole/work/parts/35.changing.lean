/-! calls that change a little: letters, what is seen and measured, the trace -/
theorem ZI.cg {S S' : Sg} (h : ZI S) (e : ∀ a : Nat, 88 ≤ a → S'.1 a = S.1 a) : ZI S' := by
  unfold ZI at *
  rw [e 88 (by omega), e 89 (by omega), e 90 (by omega), e 91 (by omega), e 92 (by omega), e 93 (by omega), e 94 (by omega), e 95 (by omega), e 97 (by omega), e 99 (by omega), e 100 (by omega), e 101 (by omega), e 102 (by omega), e 103 (by omega)]
  exact h
theorem OpI.st {X : XT} {d d' : Nat} {yx : MethodName} {bx : ByteArray} {nx : Nat} {yz : MethodName} {bz : ByteArray} {nz : Nat} {ax az : List Value} {c : Int} {S : Sg} {a : Int × Sg} {z : Sg → Int × Sg} (cx : Ctr X d yx bx nx (some .int) ax (mk S) (PI (fun r S' => r = a.1 ∧ S' = a.2)) 0 0) (cz : Ctr X d' yz bz nz (some .int) az (mk a.2) (PI (fun r S' => r = (z a.2).1 ∧ S' = (z a.2).2)) 0 0) (e : (z a.2).1 = a.1 ∧ RI (c + 1) (z a.2).2) : OpI X d d' yx bx nx yz bz nz ax az c S :=
  ⟨_, cx, fun r S1 hP => by
    obtain ⟨rfl, rfl⟩ := hP
    exact ⟨_, cz, fun r' S2 hQ => by
      obtain ⟨rfl, rfl⟩ := hQ
      exact e⟩⟩
theorem rpush_in {S : Sg} {k : Nat} (x : Int) (h : S.1 k 1 < (ln (k + 1) : Int)) : rpush S k x = pt (pt S (k + 1) (S.1 k 1) x) k 1 (S.1 k 1 + 1) := if_pos h
theorem Rp.mk' {c : Int} {S S' : Sg} {p q : Nat} (h : Rp c S p q) (hc : c + 1 ≤ 5000) (e2 : S'.2.2 = S.2.2) (hw : Wr S') (hP : PLN S' p) (hT : TXT S') (hN : NOW S' (S.1 90 1) (c + 1)) (hU : UND S' (S.1 90 1) (c + 1)) (hI : IMG S' (S.1 90 1) (c + 1)) (hS : SEE S' p) (hM : MEA S' p) (ht : S'.2.1 88 = S'.2.1 0) (hX : MSC S') (e90 : S'.1 90 = S.1 90) : RI (c + 1) S' :=
  ⟨p, q, ⟨e2.trans h.1.1, h.1.2⟩, ⟨by have := h.2.1; omega, hc⟩, hw, hP, hT, by rw [e90]; exact hN, by rw [e90]; exact hU, by rw [e90]; exact hI, hS, hM, ht, hX⟩
section CH
variable {c : Int} {S : Sg} {p q : Nat}
theorem op_type (X : XT) (hR : RI c S) (hc : c + 1 ≤ 5000) {x : Int} (hx : -2147483648 ≤ x ∧ x ≤ 2147483647) : OpI X 6 6 yX_type bX_type 2 yZ_type bZ_type 2 [.ref 0, .int (iI x)] [.ref 88, .int (iI x)] c S := by
  obtain ⟨p, q, h⟩ := hR
  have hpq := h.pq
  have h' := h
  obtain ⟨g1, g2, gw, gP, gT, gN, gU, gI, gS, gM, gt, gX⟩ := h
  obtain ⟨⟨t1, t2⟩, t3, t4⟩ := id gT
  by_cases k : x < 0 ∨ 255 < x
  · exact OpI.rd2 h' hc (cX_type X h'.ci hx) (cZ_type X h'.zi hx) (by unfold xType zType; rw [if_pos k, if_pos k]) (by unfold zType; rw [if_pos k])
  by_cases k2 : S.1 2 1 = 120
  · exact OpI.rd2 h' hc (cX_type X h'.ci hx) (cZ_type X h'.zi hx) (by unfold xType zType; rw [if_neg k, if_neg k, if_pos (by omega), if_pos (by omega)]) (by unfold zType; rw [if_neg k, if_pos (by omega)])
  have hl : S.1 2 1 < (ln (2 + 1) : Int) := by have : (ln (2 + 1) : Int) = 120 := rfl; omega
  have eU : (xType S p x) = (S.1 2 1 + 1, pt (pt S 3 (S.1 2 1) x) 2 1 (S.1 2 1 + 1)) := by
    unfold xType
    rw [if_neg k, if_neg (by omega), rpush_in x hl]
    rfl
  have fr1 : ∀ a : Nat, (a ≠ 2 ∧ a ≠ 3) → (pt (pt S 3 (S.1 2 1) x) 2 1 (S.1 2 1 + 1)).1 a = S.1 a := fun a ha => by rw [pt_ne _ _ _ ha.1, pt_ne _ _ _ ha.2]
  have hz : ZI (xType S p x).2 := by rw [eU]; exact h'.zi.cg (fun a ha => fr1 a (by omega))
  refine OpI.st (z := fun U => zType U x) (cX_type X h'.ci hx) (cZ_type X hz hx) ?_
  rw [eU]
  have eV : zType (pt (pt S 3 (S.1 2 1) x) 2 1 (S.1 2 1 + 1)) x = (S.1 88 3 + 1, pt (pt (pt (pt S 3 (S.1 2 1) x) 2 1 (S.1 2 1 + 1)) 89 (S.1 88 3) x) 88 3 (S.1 88 3 + 1)) := by
    unfold zType
    rw [if_neg k, if_neg (by show ¬ S.1 88 3 = 120; omega)]
    rfl
  have hW2 : Wr (pt (pt S 3 (S.1 2 1) x) 2 1 (S.1 2 1 + 1)) := by rw [← rpush_in x hl]; exact gw.push rfl x
  rw [eV]
  refine ⟨by show S.1 88 3 + 1 = S.1 2 1 + 1; omega, ?_⟩
  have fr : ∀ a : Nat, (a ≠ 2 ∧ a ≠ 3 ∧ a ≠ 88 ∧ a ≠ 89) → (pt (pt (pt (pt S 3 (S.1 2 1) x) 2 1 (S.1 2 1 + 1)) 89 (S.1 88 3) x) 88 3 (S.1 88 3 + 1)).1 a = S.1 a := fun a ha => by rw [pt_ne _ _ _ ha.2.2.1, pt_ne _ _ _ ha.2.2.2, fr1 a (by omega)]
  have f88 : ∀ j : Int, j ≠ 3 → (pt (pt (pt (pt S 3 (S.1 2 1) x) 2 1 (S.1 2 1 + 1)) 89 (S.1 88 3) x) 88 3 (S.1 88 3 + 1)).1 88 j = S.1 88 j := fun j hj => by rw [pt_eq, uF_ne _ _ hj]; rfl
  refine h'.mk' hc rfl ((hW2.pt (by decide) _ _).pt (by decide) _ _) (gP.cg (fun a a1 a2 => fr a (by omega)) (fun a a1 a2 => fr a (by omega))) ?_ ((gN.cg (fun a a1 a2 => fr a (by omega)) (fr 95 (by omega))).mono (by omega)) ((gU.cg (fun a a1 a2 => fr a (by omega)) (f88 19 (by omega)) (fr 95 (by omega)) (fr 98 (by omega))).mono (by omega)) ((gI.cg (fun a a1 a2 => fr a (by omega)) (fr 96 (by omega)) (fr 97 (by omega))).mono (by omega)) (gS.cg (fun a a1 a2 => fr a (by omega)) (f88 22 (by omega)) (fr 99 (by omega)) (fr 100 (by omega)) (fr _ (by omega)) (fr _ (by omega))) (gM.cg (fun a a1 a2 => fr a (by omega)) (f88 26 (by omega)) (fr 101 (by omega)) (fr 102 (by omega)) (fr 103 (by omega)) (fr _ (by omega))) gt (gX.cg (fun j hj => f88 j (by omega))) (fr 90 (by omega))
  refine ⟨⟨by show 0 ≤ S.1 2 1 + 1 ∧ S.1 2 1 + 1 ≤ 120; omega, fun j j1 j2 => ?_⟩, by show S.1 88 3 + 1 = S.1 2 1 + 1; omega, fun j j1 j2 => ?_⟩
  · change j < S.1 2 1 + 1 at j2
    show 0 ≤ uF (S.1 3) (S.1 2 1) x j ∧ uF (S.1 3) (S.1 2 1) x j ≤ 255
    by_cases hj : j = S.1 2 1
    · rw [hj, uF_eq]; omega
    · rw [uF_ne _ _ hj]; exact t2 j j1 (by omega)
  · change j < S.1 2 1 + 1 at j2
    show uF (S.1 89) (S.1 88 3) x j = uF (S.1 3) (S.1 2 1) x j
    by_cases hj : j = S.1 2 1
    · rw [hj, ← t3, uF_eq, uF_eq]
    · rw [uF_ne _ _ hj, uF_ne _ _ (by omega)]; exact t4 j j1 (by omega)
theorem op_clear (X : XT) (hR : RI c S) (hc : c + 1 ≤ 5000) : OpI X 6 6 yX_clear bX_clear 2 yZ_clear bZ_clear 2 [.ref 0] [.ref 88] c S := by
  obtain ⟨p, q, h⟩ := hR
  have hpq := h.pq
  have h' := h
  obtain ⟨g1, g2, gw, gP, gT, gN, gU, gI, gS, gM, gt, gX⟩ := h
  obtain ⟨⟨t1, t2⟩, t3, t4⟩ := id gT
  have hz : ZI (xClear S p).2 := h'.zi.cg (fun a ha => rempty_ne S (by omega) (by omega))
  refine OpI.st (z := zClear) (cX_clear X h'.ci) (cZ_clear X hz) ?_
  refine ⟨t3, ?_⟩
  have fr : ∀ a : Nat, (a ≠ 2 ∧ a ≠ 3 ∧ a ≠ 88) → (pt (rempty S 2) 88 3 0).1 a = S.1 a := fun a ha => by rw [pt_ne _ _ _ ha.2.2, rempty_ne S ha.1 ha.2.1]
  have f88 : ∀ j : Int, j ≠ 3 → (pt (rempty S 2) 88 3 0).1 88 j = S.1 88 j := fun j hj => by rw [pt_eq, uF_ne _ _ hj]; rfl
  refine h'.mk' (S' := pt (rempty S 2) 88 3 0) hc rfl ((gw.empty rfl).pt (by decide) _ _) (gP.cg (fun a a1 a2 => fr a (by omega)) (fun a a1 a2 => fr a (by omega))) ?_ ((gN.cg (fun a a1 a2 => fr a (by omega)) (fr 95 (by omega))).mono (by omega)) ((gU.cg (fun a a1 a2 => fr a (by omega)) (f88 19 (by omega)) (fr 95 (by omega)) (fr 98 (by omega))).mono (by omega)) ((gI.cg (fun a a1 a2 => fr a (by omega)) (fr 96 (by omega)) (fr 97 (by omega))).mono (by omega)) (gS.cg (fun a a1 a2 => fr a (by omega)) (f88 22 (by omega)) (fr 99 (by omega)) (fr 100 (by omega)) (fr _ (by omega)) (fr _ (by omega))) (gM.cg (fun a a1 a2 => fr a (by omega)) (f88 26 (by omega)) (fr 101 (by omega)) (fr 102 (by omega)) (fr 103 (by omega)) (fr _ (by omega))) gt (gX.cg (fun j hj => f88 j (by omega))) (fr 90 (by omega))
  refine ⟨⟨by show (0 : Int) ≤ 0 ∧ (0 : Int) ≤ 120; omega, fun j j1 j2 => ?_⟩, rfl, fun j j1 j2 => ?_⟩
  · change j < 0 at j2; omega
  · change j < 0 at j2; omega
theorem op_sees (X : XT) (hR : RI c S) (hc : c + 1 ≤ 5000) {x y : Int} (hx : -2147483648 ≤ x ∧ x ≤ 2147483647) (hy : -2147483648 ≤ y ∧ y ≤ 2147483647) : OpI X 6 6 yX_sees bX_sees 3 yZ_sees bZ_sees 3 [.ref 0, .int (iI x), .int (iI y)] [.ref 88, .int (iI x), .int (iI y)] c S := by
  obtain ⟨p, q, h⟩ := hR
  have hpq := h.pq
  have h' := h
  obtain ⟨g1, g2, gw, gP, gT, gN, gU, gI, gS, gM, gt, gX⟩ := h
  obtain ⟨⟨s1, s2, s3⟩, s4, s5, s6⟩ := id gS
  have a7 := gP.2.2.2.2.2.2.1
  have o2 := gP.1.2.1
  have o3 := gP.1.2.2.1
  by_cases k : ¬ (0 ≤ x ∧ x < S.1 (p + 9) 1) ∨ y < 0 ∨ 40 < y
  · exact OpI.rd2 h' hc (cX_sees X h'.ci hx hy) (cZ_sees X h'.zi hx hy) (by unfold xSees zSees; rw [if_pos k, if_pos (by omega)]) (by unfold zSees; rw [if_pos (by omega)])
  by_cases k2 : S.1 75 1 = 6
  · exact OpI.rd2 h' hc (cX_sees X h'.ci hx hy) (cZ_sees X h'.zi hx hy) (by unfold xSees zSees; rw [if_neg k, if_pos (by omega), if_neg (by omega), if_pos (by omega)]) (by unfold zSees; rw [if_neg (by omega), if_pos (by omega)])
  have hl : (ln (73 + 1) : Int) = 6 := rfl
  have hl2 : (ln (75 + 1) : Int) = 6 := rfl
  have hV : ∃ V, V = sumI (fun t => if x < S.1 (p + 12) t then 1 else 0) (S.1 (p + 11) 1) := ⟨_, rfl⟩
  obtain ⟨V, hV⟩ := hV
  have eU : (xSees S p x y) = (S.1 75 1 + 1, pt (pt (pt (pt S 74 (S.1 73 1) V) 73 1 (S.1 73 1 + 1)) 76 (S.1 75 1) y) 75 1 (S.1 75 1 + 1)) := by
    unfold xSees
    rw [if_neg k, if_neg (by omega), ← hV, rpush_in V (k := 73) (by omega), rpush_in y (k := 75) (by show S.1 75 1 < _; omega)]
    rfl
  have hW2 : Wr (xSees S p x y).2 := by
    unfold xSees
    rw [if_neg k, if_neg (by omega)]
    exact (gw.push rfl _).push rfl _
  have fr1 : ∀ a : Nat, (a ≠ 73 ∧ a ≠ 74 ∧ a ≠ 75 ∧ a ≠ 76) → (xSees S p x y).2.1 a = S.1 a := fun a ha => by rw [eU]; show (pt (pt (pt (pt S 74 _ V) 73 1 _) 76 _ y) 75 1 _).1 a = _; rw [pt_ne _ _ _ ha.2.2.1, pt_ne _ _ _ ha.2.2.2, pt_ne _ _ _ ha.1, pt_ne _ _ _ ha.2.1]
  have hz : ZI (xSees S p x y).2 := h'.zi.cg (fun a ha => fr1 a (by omega))
  refine OpI.st (z := fun U => zSees U x y) (cX_sees X h'.ci hx hy) (cZ_sees X hz hx hy) ?_
  have eV : zSees (xSees S p x y).2 x y = (S.1 88 22 + 1, pt (pt (pt (xSees S p x y).2 99 (S.1 88 22) x) 100 (S.1 88 22) y) 88 22 (S.1 88 22 + 1)) := by
    have e0 : tpZ (xSees S p x y).2 = tpZ S := tpZ_cg (fr1 90 (by omega)) (fr1 91 (by omega))
    have e1 : (xSees S p x y).2.1 88 = S.1 88 := fr1 88 (by omega)
    unfold zSees
    rw [e0, if_neg (by omega), e1, if_neg (by omega)]
  rw [eV]
  refine ⟨by rw [eU]; show S.1 88 22 + 1 = S.1 75 1 + 1; omega, ?_⟩
  have fr : ∀ a : Nat, (a ≠ 73 ∧ a ≠ 74 ∧ a ≠ 75 ∧ a ≠ 76 ∧ a ≠ 99 ∧ a ≠ 100 ∧ a ≠ 88) → (pt (pt (pt (xSees S p x y).2 99 (S.1 88 22) x) 100 (S.1 88 22) y) 88 22 (S.1 88 22 + 1)).1 a = S.1 a := fun a ha => by rw [pt_ne _ _ _ ha.2.2.2.2.2.2, pt_ne _ _ _ ha.2.2.2.2.2.1, pt_ne _ _ _ ha.2.2.2.2.1, fr1 a (by omega)]
  have f88 : ∀ j : Int, j ≠ 22 → (pt (pt (pt (xSees S p x y).2 99 (S.1 88 22) x) 100 (S.1 88 22) y) 88 22 (S.1 88 22 + 1)).1 88 j = S.1 88 j := fun j hj => by rw [pt_eq, uF_ne _ _ hj, pt_ne _ _ _ (by decide), pt_ne _ _ _ (by decide), fr1 88 (by omega)]
  refine h'.mk' hc (by rw [eU]; rfl) (((hW2.pt (by decide) _ _).pt (by decide) _ _).pt (by decide) _ _) (gP.cg (fun a a1 a2 => fr a (by omega)) (fun a a1 a2 => fr a (by omega))) (gT.cg (fr 2 (by omega)) (fr 3 (by omega)) (f88 3 (by omega)) (fr 89 (by omega))) ((gN.cg (fun a a1 a2 => fr a (by omega)) (fr 95 (by omega))).mono (by omega)) ((gU.cg (fun a a1 a2 => fr a (by omega)) (f88 19 (by omega)) (fr 95 (by omega)) (fr 98 (by omega))).mono (by omega)) ((gI.cg (fun a a1 a2 => fr a (by omega)) (fr 96 (by omega)) (fr 97 (by omega))).mono (by omega)) ?_ (gM.cg (fun a a1 a2 => fr a (by omega)) (f88 26 (by omega)) (fr 101 (by omega)) (fr 102 (by omega)) (fr 103 (by omega)) (fr _ (by omega))) (by rw [eU]; exact gt) (gX.cg (fun j hj => f88 j (by omega))) (fr 90 (by omega))
  rw [eU]
  dsimp only
  have f11 : (pt (pt (pt (pt (pt (pt (pt S 74 (S.1 73 1) V) 73 1 (S.1 73 1 + 1)) 76 (S.1 75 1) y) 75 1 (S.1 75 1 + 1)) 99 (S.1 88 22) x) 100 (S.1 88 22) y) 88 22 (S.1 88 22 + 1)).1 (p + 11) = S.1 (p + 11) := by rw [eU] at fr; exact fr _ (by omega)
  have f12 : (pt (pt (pt (pt (pt (pt (pt S 74 (S.1 73 1) V) 73 1 (S.1 73 1 + 1)) 76 (S.1 75 1) y) 75 1 (S.1 75 1 + 1)) 99 (S.1 88 22) x) 100 (S.1 88 22) y) 88 22 (S.1 88 22 + 1)).1 (p + 12) = S.1 (p + 12) := by rw [eU] at fr; exact fr _ (by omega)
  have hVb : 0 ≤ V ∧ V ≤ 100 := by
    have := sumI_bd (f := fun t => if x < S.1 (p + 12) t then 1 else 0) (B := 1) (n := S.1 (p + 11) 1) o3.1 (fun t _ _ => by
      show 0 ≤ (if x < S.1 (p + 12) t then (1 : Int) else 0) ∧ (if x < S.1 (p + 12) t then (1 : Int) else 0) ≤ 1
      split <;> omega)
    rw [hV]
    omega
  refine ⟨⟨?_, fun i i1 i2 => ?_, fun i i1 i2 => ?_⟩, ?_, ?_, fun i i1 i2 => ?_⟩
  · show 0 ≤ S.1 75 1 + 1 ∧ S.1 75 1 + 1 ≤ 6; omega
  · change i < S.1 75 1 + 1 at i2
    show 0 ≤ uF (S.1 74) (S.1 73 1) V i ∧ uF (S.1 74) (S.1 73 1) V i ≤ 100
    by_cases hi : i = S.1 73 1
    · rw [hi, uF_eq]; exact hVb
    · rw [uF_ne _ _ hi]; exact s2 i i1 (by omega)
  · change i < S.1 75 1 + 1 at i2
    show 0 ≤ uF (S.1 76) (S.1 75 1) y i ∧ uF (S.1 76) (S.1 75 1) y i ≤ 40
    by_cases hi : i = S.1 75 1
    · rw [hi, uF_eq]; omega
    · rw [uF_ne _ _ hi]; exact s3 i i1 (by omega)
  · show S.1 73 1 + 1 = S.1 75 1 + 1; omega
  · show S.1 88 22 + 1 = S.1 75 1 + 1; omega
  · rw [f11, f12]
    change i < S.1 75 1 + 1 at i2
    show uF (S.1 100) (S.1 88 22) y i = uF (S.1 76) (S.1 75 1) y i ∧ (0 ≤ uF (S.1 99) (S.1 88 22) x i ∧ uF (S.1 99) (S.1 88 22) x i ≤ 99) ∧ uF (S.1 74) (S.1 73 1) V i = sumI (fun t => if uF (S.1 99) (S.1 88 22) x i < S.1 (p + 12) t then 1 else 0) (S.1 (p + 11) 1)
    rw [s5, s4]
    by_cases hi : i = S.1 75 1
    · subst hi
      rw [uF_eq, uF_eq, uF_eq, uF_eq]
      exact ⟨rfl, by omega, hV⟩
    · rw [uF_ne _ _ hi, uF_ne _ _ hi, uF_ne _ _ hi, uF_ne _ _ hi]
      exact s6 i i1 (by omega)
theorem op_measures (X : XT) (hR : RI c S) (hc : c + 1 ≤ 5000) {x y v : Int} (hx : -2147483648 ≤ x ∧ x ≤ 2147483647) (hy : -2147483648 ≤ y ∧ y ≤ 2147483647) (hv : -2147483648 ≤ v ∧ v ≤ 2147483647) : OpI X 6 6 yX_measures bX_measures 4 yZ_measures bZ_measures 4 [.ref 0, .int (iI x), .int (iI y), .int (iI v)] [.ref 88, .int (iI x), .int (iI y), .int (iI v)] c S := by
  obtain ⟨p, q, h⟩ := hR
  have hpq := h.pq
  have h' := h
  obtain ⟨g1, g2, gw, gP, gT, gN, gU, gI, gS, gM, gt, gX⟩ := h
  obtain ⟨⟨s1, s2⟩, s3, s4, s5, s6⟩ := id gM
  have b0 := gP.2.2.2.1.1
  have o1 := gP.1.1
  by_cases k : ¬ (0 ≤ x ∧ x ≤ S.1 (p + 1) 1) ∨ ¬ (0 ≤ y ∧ y ≤ S.1 (p + 1) 1) ∨ y ≤ x ∨ v < 0 ∨ 999999 < v
  · exact OpI.rd2 h' hc (cX_measures X h'.ci hx hy hv) (cZ_measures X h'.zi hx hy hv) (by unfold xMeas zMeas; rw [if_pos k, if_pos (by omega)]) (by unfold zMeas; rw [if_pos (by omega)])
  by_cases k2 : S.1 84 1 = 6
  · exact OpI.rd2 h' hc (cX_measures X h'.ci hx hy hv) (cZ_measures X h'.zi hx hy hv) (by unfold xMeas zMeas; rw [if_neg k, if_pos (by omega), if_neg (by omega), if_pos (by omega)]) (by unfold zMeas; rw [if_neg (by omega), if_pos (by omega)])
  have hl : (ln (80 + 1) : Int) = 6 := rfl
  have hl2 : (ln (82 + 1) : Int) = 6 := rfl
  have hl3 : (ln (84 + 1) : Int) = 6 := rfl
  have eU : (xMeas S p x y v) = (S.1 84 1 + 1, pt (pt (pt (pt (pt (pt S 81 (S.1 80 1) x) 80 1 (S.1 80 1 + 1)) 83 (S.1 82 1) y) 82 1 (S.1 82 1 + 1)) 85 (S.1 84 1) v) 84 1 (S.1 84 1 + 1)) := by
    unfold xMeas
    rw [if_neg k, if_neg (by omega), rpush_in x (k := 80) (by omega), rpush_in y (k := 82) (by show S.1 82 1 < _; omega), rpush_in v (k := 84) (by show S.1 84 1 < _; omega)]
    rfl
  have hW2 : Wr (xMeas S p x y v).2 := by
    unfold xMeas
    rw [if_neg k, if_neg (by omega)]
    exact ((gw.push rfl _).push rfl _).push rfl _
  have fr1 : ∀ a : Nat, ((a ≠ 80 ∧ a ≠ 81 ∧ a ≠ 82) ∧ a ≠ 83 ∧ a ≠ 84 ∧ a ≠ 85) → (xMeas S p x y v).2.1 a = S.1 a := fun a ha => by
    rw [eU]
    show (pt (pt (pt (pt (pt (pt S 81 _ x) 80 1 _) 83 _ y) 82 1 _) 85 _ v) 84 1 _).1 a = _
    rw [pt_ne _ _ _ ha.2.2.1, pt_ne _ _ _ ha.2.2.2, pt_ne _ _ _ ha.1.2.2, pt_ne _ _ _ ha.2.1, pt_ne _ _ _ ha.1.1, pt_ne _ _ _ ha.1.2.1]
  have hz : ZI (xMeas S p x y v).2 := h'.zi.cg (fun a ha => fr1 a (by omega))
  refine OpI.st (z := fun U => zMeas U x y v) (cX_measures X h'.ci hx hy hv) (cZ_measures X hz hx hy hv) ?_
  have eV : zMeas (xMeas S p x y v).2 x y v = (S.1 88 26 + 1, pt (pt (pt (pt (xMeas S p x y v).2 101 (S.1 88 26) x) 102 (S.1 88 26) y) 103 (S.1 88 26) v) 88 26 (S.1 88 26 + 1)) := by
    have e0 : (xMeas S p x y v).2.1 90 = S.1 90 := fr1 90 (by omega)
    have e1 : (xMeas S p x y v).2.1 88 = S.1 88 := fr1 88 (by omega)
    unfold zMeas
    rw [e0, if_neg (by omega), e1, if_neg (by omega)]
  rw [eV]
  refine ⟨by rw [eU]; show S.1 88 26 + 1 = S.1 84 1 + 1; omega, ?_⟩
  have fr : ∀ a : Nat, ((a ≠ 80 ∧ a ≠ 81 ∧ a ≠ 82) ∧ a ≠ 83 ∧ a ≠ 84 ∧ a ≠ 85) ∧ (a ≠ 101 ∧ a ≠ 102 ∧ a ≠ 103 ∧ a ≠ 88) → (pt (pt (pt (pt (xMeas S p x y v).2 101 (S.1 88 26) x) 102 (S.1 88 26) y) 103 (S.1 88 26) v) 88 26 (S.1 88 26 + 1)).1 a = S.1 a := fun a ha => by rw [pt_ne _ _ _ ha.2.2.2.2, pt_ne _ _ _ ha.2.2.2.1, pt_ne _ _ _ ha.2.2.1, pt_ne _ _ _ ha.2.1, fr1 a ha.1]
  have f88 : ∀ j : Int, j ≠ 26 → (pt (pt (pt (pt (xMeas S p x y v).2 101 (S.1 88 26) x) 102 (S.1 88 26) y) 103 (S.1 88 26) v) 88 26 (S.1 88 26 + 1)).1 88 j = S.1 88 j := fun j hj => by rw [pt_eq, uF_ne _ _ hj, pt_ne _ _ _ (by decide), pt_ne _ _ _ (by decide), pt_ne _ _ _ (by decide), fr1 88 (by omega)]
  refine h'.mk' hc (by rw [eU]; rfl) ((((hW2.pt (by decide) _ _).pt (by decide) _ _).pt (by decide) _ _).pt (by decide) _ _) (gP.cg (fun a a1 a2 => fr a (by omega)) (fun a a1 a2 => fr a (by omega))) (gT.cg (fr 2 (by omega)) (fr 3 (by omega)) (f88 3 (by omega)) (fr 89 (by omega))) ((gN.cg (fun a a1 a2 => fr a (by omega)) (fr 95 (by omega))).mono (by omega)) ((gU.cg (fun a a1 a2 => fr a (by omega)) (f88 19 (by omega)) (fr 95 (by omega)) (fr 98 (by omega))).mono (by omega)) ((gI.cg (fun a a1 a2 => fr a (by omega)) (fr 96 (by omega)) (fr 97 (by omega))).mono (by omega)) (gS.cg (fun a a1 a2 => fr a (by omega)) (f88 22 (by omega)) (fr 99 (by omega)) (fr 100 (by omega)) (fr _ (by omega)) (fr _ (by omega))) ?_ (by rw [eU]; exact gt) (gX.cg (fun j hj => f88 j (by omega))) (fr 90 (by omega))
  have f1 := fr (p + 1) (by omega)
  rw [eU] at f1 ⊢
  dsimp only at f1 ⊢
  refine ⟨⟨?_, fun i i1 i2 => ?_⟩, ?_, ?_, ?_, fun i i1 i2 => ?_⟩
  · show 0 ≤ S.1 84 1 + 1 ∧ S.1 84 1 + 1 ≤ 6; omega
  · change i < S.1 84 1 + 1 at i2
    show 0 ≤ uF (S.1 81) (S.1 80 1) x i ∧ uF (S.1 81) (S.1 80 1) x i < uF (S.1 83) (S.1 82 1) y i ∧ uF (S.1 83) (S.1 82 1) y i ≤ 5 ∧ 0 ≤ uF (S.1 85) (S.1 84 1) v i ∧ uF (S.1 85) (S.1 84 1) v i ≤ 999999
    rw [s3, s4]
    by_cases hi : i = S.1 84 1
    · subst hi
      rw [uF_eq, uF_eq, uF_eq]; omega
    · rw [uF_ne _ _ hi, uF_ne _ _ hi, uF_ne _ _ hi]; exact s2 i i1 (by omega)
  · show S.1 80 1 + 1 = S.1 84 1 + 1; omega
  · show S.1 82 1 + 1 = S.1 84 1 + 1; omega
  · show S.1 88 26 + 1 = S.1 84 1 + 1; omega
  · rw [f1]
    change i < S.1 84 1 + 1 at i2
    show uF (S.1 101) (S.1 88 26) x i = uF (S.1 81) (S.1 80 1) x i ∧ uF (S.1 102) (S.1 88 26) y i = uF (S.1 83) (S.1 82 1) y i ∧ uF (S.1 103) (S.1 88 26) v i = uF (S.1 85) (S.1 84 1) v i ∧ uF (S.1 83) (S.1 82 1) y i ≤ S.1 (p + 1) 1
    rw [s3, s4, s5]
    by_cases hi : i = S.1 84 1
    · subst hi
      rw [uF_eq, uF_eq, uF_eq, uF_eq, uF_eq, uF_eq]
      exact ⟨rfl, rfl, rfl, by omega⟩
    · rw [uF_ne _ _ hi, uF_ne _ _ hi, uF_ne _ _ hi, uF_ne _ _ hi, uF_ne _ _ hi, uF_ne _ _ hi]
      exact s6 i i1 (by omega)
theorem op_forget (X : XT) (hR : RI c S) (hc : c + 1 ≤ 5000) : OpI X 6 6 yX_forget bX_forget 2 yZ_forget bZ_forget 2 [.ref 0] [.ref 88] c S := by
  obtain ⟨p, q, h⟩ := hR
  have hpq := h.pq
  have h' := h
  obtain ⟨g1, g2, gw, gP, gT, gN, gU, gI, gS, gM, gt, gX⟩ := h
  have fr1 : ∀ a : Nat, ((a ≠ 73 ∧ a ≠ 74 ∧ a ≠ 75 ∧ a ≠ 76) ∧ (a ≠ 80 ∧ a ≠ 81 ∧ a ≠ 82) ∧ a ≠ 83 ∧ a ≠ 84 ∧ a ≠ 85) → (rempty (rempty (rempty (rempty (rempty S 73) 75) 80) 82) 84).1 a = S.1 a := fun a ha => by rw [rempty_ne _ ha.2.2.2.1 ha.2.2.2.2, rempty_ne _ ha.2.1.2.2 ha.2.2.1, rempty_ne _ ha.2.1.1 ha.2.1.2.1, rempty_ne _ ha.1.2.2.1 ha.1.2.2.2, rempty_ne _ ha.1.1 ha.1.2.1]
  have hz : ZI (xForget S p).2 := h'.zi.cg (fun a ha => fr1 a (by omega))
  refine OpI.st (z := zForget) (cX_forget X h'.ci) (cZ_forget X hz) ?_
  refine ⟨by show S.1 88 22 + S.1 88 26 = S.1 75 1 + S.1 84 1; rw [gS.2.2.1, gM.2.2.2.1], ?_⟩
  have fr : ∀ a : Nat, ((a ≠ 73 ∧ a ≠ 74 ∧ a ≠ 75 ∧ a ≠ 76) ∧ (a ≠ 80 ∧ a ≠ 81 ∧ a ≠ 82) ∧ a ≠ 83 ∧ a ≠ 84 ∧ a ≠ 85) ∧ a ≠ 88 → (pt (pt (rempty (rempty (rempty (rempty (rempty S 73) 75) 80) 82) 84) 88 22 0) 88 26 0).1 a = S.1 a := fun a ha => by rw [pt_ne _ _ _ ha.2, pt_ne _ _ _ ha.2, fr1 a ha.1]
  have f88 : ∀ j : Int, j ≠ 22 ∧ j ≠ 26 → (pt (pt (rempty (rempty (rempty (rempty (rempty S 73) 75) 80) 82) 84) 88 22 0) 88 26 0).1 88 j = S.1 88 j := fun j hj => by rw [pt_eq, uF_ne _ _ hj.2, pt_eq, uF_ne _ _ hj.1]; rfl
  refine h'.mk' (S' := pt (pt (rempty (rempty (rempty (rempty (rempty S 73) 75) 80) 82) 84) 88 22 0) 88 26 0) hc rfl (((((((gw.empty rfl).empty rfl).empty rfl).empty rfl).empty rfl).pt (by decide) _ _).pt (by decide) _ _) (gP.cg (fun a a1 a2 => fr a (by omega)) (fun a a1 a2 => fr a (by omega))) (gT.cg (fr 2 (by omega)) (fr 3 (by omega)) (f88 3 (by omega)) (fr 89 (by omega))) ((gN.cg (fun a a1 a2 => fr a (by omega)) (fr 95 (by omega))).mono (by omega)) ((gU.cg (fun a a1 a2 => fr a (by omega)) (f88 19 (by omega)) (fr 95 (by omega)) (fr 98 (by omega))).mono (by omega)) ((gI.cg (fun a a1 a2 => fr a (by omega)) (fr 96 (by omega)) (fr 97 (by omega))).mono (by omega)) ?_ ?_ gt (gX.cg (fun j hj => f88 j (by omega))) (fr 90 (by omega))
  · refine ⟨⟨by show (0 : Int) ≤ 0 ∧ (0 : Int) ≤ 6; omega, fun i i1 i2 => ?_, fun i i1 i2 => ?_⟩, rfl, rfl, fun i i1 i2 => ?_⟩
    · change i < 0 at i2; omega
    · change i < 0 at i2; omega
    · change i < 0 at i2; omega
  · refine ⟨⟨by show (0 : Int) ≤ 0 ∧ (0 : Int) ≤ 6; omega, fun i i1 i2 => ?_⟩, rfl, rfl, rfl, fun i i1 i2 => ?_⟩
    · change i < 0 at i2; omega
    · change i < 0 at i2; omega
/-! the trace -/
theorem RI.tr (h : Rp c S p q) (hc : c + 1 ≤ 5000) {f : Nat → Int64} (hf : f 88 = f 0) : RI (c + 1) (S.1, f, S.2.2) := by
  have h2 := h.next hc
  obtain ⟨g1, g2, gw, gP, gT, gN, gU, gI, gS, gM, gt, gX⟩ := h2
  exact ⟨p, q, g1, g2, gw, gP, gT, gN, gU, gI, gS, gM, hf, gX⟩
theorem tr_2 {b d e : Int64} (h : b + d = e) (x : Int64) : (x + b) + d = x + e := by subst h; rw [Int64.add_assoc]
theorem i64_11 : (10 : Int64) + 1 = 11 := by decide
theorem i64_101 : (100 : Int64) + 1 = 101 := by decide
theorem i64_1011 : (1000 : Int64) + 11 = 1011 := by decide
theorem i64_10101 : (10000 : Int64) + 101 = 10101 := by decide
theorem i64_100001 : (100000 : Int64) + 1 = 100001 := by decide
theorem op_rate (X : XT) (hR : RI c S) (hc : c + 1 ≤ 5000) {x y : Int} (hx : -2147483648 ≤ x ∧ x ≤ 2147483647) (hy : -2147483648 ≤ y ∧ y ≤ 2147483647) : OpI X 6 6 yX_rate bX_rate 3 yZ_rate bZ_rate 6 [.ref 0, .int (iI x), .int (iI y)] [.ref 88, .int (iI x), .int (iI y)] c S := by
  obtain ⟨p, q, h⟩ := hR
  have h' := h
  obtain ⟨g1, g2, gw, gP, gT, gN, gU, gI, gS, gM, gt, gX⟩ := h
  obtain ⟨⟨o1, _⟩, _, _, ⟨b0, _⟩, a5, _, _, a8, _⟩ := id gP
  by_cases k : ¬ (0 ≤ x ∧ x ≤ 5) ∨ ¬ (0 ≤ y ∧ y < S.1 90 0)
  · refine OpI.rd2 h' hc (cX_rate X h'.ci hx hy) (cZ_rate X h'.zi hx hy) ?_ (by unfold zRate; rw [if_pos k])
    unfold xRate zRate
    rw [if_pos k]
    repeat' split
    all_goals first | (exfalso; omega) | rfl
  have e1 := (a5 y (by omega) (by omega)).1
  have m1 := a8 y (by omega) (by omega)
  have m2 := a8 (y + 1) (by omega) (by omega)
  have eS : rStr S p y = S.1 92 y := e1.2.1.symm
  have eF : rFea S p y = S.1 92 y + thO S y := by
    unfold rFea thO
    rw [eS, m1, m2, gN.n]
    congr 1
    refine sumI_congr (fun i i1 i2 => ?_)
    have e := gN.th (i := i) (by rw [gN.n]; exact ⟨i1, i2⟩)
    show (if mkZ S y ≤ S.1 40 i ∧ S.1 40 i < mkZ S (y + 1) then (1 : Int) else 0) = if mkZ S y ≤ S.1 95 (6 + i) ∧ S.1 95 (6 + i) ≤ mkZ S (y + 1) - 1 then 1 else 0
    rw [e]
    by_cases hh : mkZ S y ≤ S.1 95 (6 + i) ∧ S.1 95 (6 + i) < mkZ S (y + 1)
    · rw [if_pos hh, if_pos (by omega)]
    · rw [if_neg hh, if_neg (by omega)]
  have fin : ∀ (a : Int) (f : Nat → Int64) (n : Int64), xRate S p x y = (a, (S.1, f, S.2.2)) → f 88 = S.2.1 88 → f 0 = S.2.1 0 + n → (∀ U : Sg, U.1 = S.1 → zRate U x y = (a, zT U n)) → OpI X 6 6 yX_rate bX_rate 3 yZ_rate bZ_rate 6 [.ref 0, .int (iI x), .int (iI y)] [.ref 88, .int (iI x), .int (iI y)] c S := by
    intro a f n e2 e3 e4 e5
    have hz : ZI (xRate S p x y).2 := by rw [e2]; exact h'.zi
    refine OpI.st (z := fun U => zRate U x y) (cX_rate X h'.ci hx hy) (cZ_rate X hz hx hy) ?_
    rw [e2]
    dsimp only
    rw [e5 (S.1, f, S.2.2) rfl]
    refine ⟨rfl, ?_⟩
    refine RI.tr h' hc (f := fun j => if j = 88 then f 88 + n else f j) ?_
    show f 88 + n = f 0
    rw [e3, e4, gt]
  rcases (show x = 0 ∨ x = 1 ∨ x = 2 ∨ x = 3 ∨ x = 4 ∨ x = 5 by omega) with hk | hk | hk | hk | hk | hk
  · refine fin (S.1 92 y) (tpS S 1).2.1 1 (by unfold xRate; rw [if_neg (by omega), if_pos hk, eS]; rfl) rfl rfl (fun U hU => ?_)
    unfold zRate
    rw [hU, if_neg (by omega), if_pos hk]
  · refine fin (S.1 92 y + thO S y) (tpS (tpS S 10) 1).2.1 11 (by unfold xRate; rw [if_neg (by omega), if_neg (by omega), if_pos hk, eF]; rfl) rfl (tr_2 i64_11 _) (fun U hU => ?_)
    unfold zRate
    have e9 : thO U y = thO S y := by unfold thO thV mkZ; rw [hU]
    rw [e9, hU, if_neg (by omega), if_neg (by omega), if_pos hk]
  · refine fin (S.1 92 y - S.1 91 y) (tpS (tpS S 100) 1).2.1 101 (by unfold xRate; rw [if_neg (by omega), if_neg (by omega), if_neg (by omega), if_pos hk, eS, e1.1]; rfl) rfl (tr_2 i64_101 _) (fun U hU => ?_)
    unfold zRate
    rw [hU, if_neg (by omega), if_neg (by omega), if_neg (by omega), if_pos hk]
  · refine fin (2 * (S.1 92 y + thO S y)) (tpS (tpS (tpS S 1000) 10) 1).2.1 1011 (by unfold xRate; rw [if_neg (by omega), if_neg (by omega), if_neg (by omega), if_neg (by omega), if_pos hk, eF]; rfl) rfl ((tr_2 i64_11 _).trans (tr_2 i64_1011 _)) (fun U hU => ?_)
    unfold zRate
    have e9 : thO U y = thO S y := by unfold thO thV mkZ; rw [hU]
    rw [e9, hU, if_neg (by omega), if_neg (by omega), if_neg (by omega), if_neg (by omega), if_pos hk]
  · refine fin (S.1 92 y - S.1 91 y + y) (tpS (tpS (tpS S 10000) 100) 1).2.1 10101 (by unfold xRate; rw [if_neg (by omega), if_neg (by omega), if_neg (by omega), if_neg (by omega), if_neg (by omega), if_pos hk, eS, e1.1]; rfl) rfl ((tr_2 i64_101 _).trans (tr_2 i64_10101 _)) (fun U hU => ?_)
    unfold zRate
    rw [hU, if_neg (by omega), if_neg (by omega), if_neg (by omega), if_neg (by omega), if_neg (by omega), if_pos hk]
  · refine fin (S.1 92 y + onesI (S.1 95 4)) (tpS (tpS S 100000) 1).2.1 100001 (by unfold xRate; rw [if_neg (by omega), if_neg (by omega), if_neg (by omega), if_neg (by omega), if_neg (by omega), if_neg (by omega), if_pos hk, eS, gN.sum]; rfl) rfl (tr_2 i64_100001 _) (fun U hU => ?_)
    unfold zRate
    rw [hU, if_neg (by omega), if_neg (by omega), if_neg (by omega), if_neg (by omega), if_neg (by omega), if_neg (by omega)]
end CH
