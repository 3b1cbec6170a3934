/-! goings, stays, losses, things picked up: both halves alike -/
theorem zNote_2 (S : Sg) : (zNote S).2 = S.2 := by
  unfold zNote zN1
  split <;> rfl
section DO
variable {c : Int} {S : Sg} {p q : Nat}
theorem Rp.act (h : Rp c S p q) (hc : c + 1 ≤ 5000) {A S2 : Sg} {k t x : Int} (hA : ∀ a : Nat, (a < 31 ∨ 40 < a) → A.1 a = S.1 a) (hA2 : A.2 = S.2) (hWA : Wr A) (hz : ∀ a : Nat, a ≠ 95 → S2.1 a = (zNote (dadd A k t x)).1 a) (hz2 : S2.2 = (dadd A k t x).2) (hN : eqS (sc6 A 30) (scV (S2.1 95))) (ho : okV (S2.1 95) (S.1 90 1) (c + 1)) (hdo : dOk k t x (scV (S2.1 95))) (he : eqS (bk k t x (scV (S2.1 95))) (scV (S.1 95))) : Rp (c + 1) S2 p q := by
  have hpq := h.pq
  obtain ⟨g1, g2, gw, gP, gT, gN, gU, gI, gS, gM, gt, gX⟩ := h
  have u1 := gU.1
  have u2 := gU.2.1
  have a66 : A.1 66 = S.1 66 := hA 66 (by omega)
  have emm : mmS A = mmS S := by unfold mmS; rw [a66]
  have esh : shS1 A = shS1 S := by unfold shS1; rw [a66]
  have hd := dadd_at (S := A) k t x (by rw [a66, hA 68 (by omega), hA 70 (by omega)]; exact ⟨u1.1, u1.2.1⟩) (by rw [a66]; exact u2)
  rw [emm, esh, hA 67 (by omega), hA 69 (by omega), hA 71 (by omega)] at hd
  have hU88 : (dadd A k t x).1 88 = S.1 88 := by rw [dadd_ne _ _ _ _ (by omega), hA 88 (by omega)]
  have hn := note_at (U := dadd A k t x) (S := S) (by rw [hU88]; exact u1.2.2)
  rw [hU88, dadd_ne _ _ _ _ (show 98 < 66 ∨ 71 < 98 by omega), hA 98 (by omega), dadd_ne _ _ _ _ (show 95 < 66 ∨ 71 < 95 by omega), hA 95 (by omega)] at hn
  have fU : ∀ a : Nat, (a ≠ 95 ∧ a ≠ 88 ∧ a ≠ 98) → S2.1 a = (dadd A k t x).1 a := fun a ha => by rw [hz a ha.1, zNote_ne _ ha.2.1 ha.2.2]
  have fr : ∀ a : Nat, (a ≠ 95 ∧ a ≠ 88 ∧ a ≠ 98) ∧ (a < 31 ∨ 40 < a) ∧ (a < 66 ∨ 71 < a) → S2.1 a = S.1 a := fun a ha => by rw [fU a ha.1, dadd_ne _ _ _ _ ha.2.2, hA a ha.2.1]
  have fA : ∀ a : Nat, 31 ≤ a → a ≤ 40 → S2.1 a = A.1 a := fun a h1 h2 => by rw [fU a (by omega), dadd_ne _ _ _ _ (by omega)]
  have f88 : ∀ j : Int, j ≠ 19 → S2.1 88 j = S.1 88 j := fun j hj => by rw [hz 88 (by decide)]; exact hn.2.2.2 j hj
  have f98 : S2.1 98 = (zNote (dadd A k t x)).1 98 := hz 98 (by decide)
  have f19 : S2.1 88 19 = mmS S + 1 := by rw [hz 88 (by decide)]; exact hn.1
  have hw2 : Wr S2 := fun r hr => by
    have h1 := (hWA.adds k t x) r hr
    have hr2 : r ≠ 95 ∧ r ≠ 88 ∧ r ≠ 98 := by
      refine ⟨?_, ?_, ?_⟩ <;> (intro e; subst e; exact absurd hr (by decide))
    unfold rw1 at *
    rw [fU r hr2]
    exact h1
  have es : sc6 S2 30 = sc6 A 30 := by
    unfold sc6
    rw [fA 32 (by omega) (by omega), fA 34 (by omega) (by omega), fA 36 (by omega) (by omega), fA 38 (by omega) (by omega), fA 39 (by omega) (by omega), fA 40 (by omega) (by omega)]
  refine ⟨⟨by rw [hz2, dadd_2, hA2]; exact g1.1, g1.2⟩, by omega, hw2, gP.cg (fun a a1 a2 => fr a (by omega)) (fun a a1 a2 => fr a (by omega)), gT.cg (fr 2 (by omega)) (fr 3 (by omega)) (f88 3 (by omega)) (fr 89 (by omega)), ⟨by rw [es]; exact hN, by rw [fr 90 (by omega)]; exact ho⟩, ?_, ?_, gS.cg (fun a a1 a2 => fr a (by omega)) (f88 22 (by omega)) (fr 99 (by omega)) (fr 100 (by omega)) (fr _ (by omega)) (fr _ (by omega)), gM.cg (fun a a1 a2 => fr a (by omega)) (f88 26 (by omega)) (fr 101 (by omega)) (fr 102 (by omega)) (fr 103 (by omega)) (fr _ (by omega)), by rw [hz2, dadd_2, hA2]; exact gt, gX.cg (fun j hj => f88 j (by omega))⟩
  · rw [fr 90 (by omega)]
    refine gU.act (S2 := S2) (c' := c + 1) (by omega) (k := k) (t := t) (x := x) ?_ ?_ ?_ ?_ ?_ ho hdo he
    · rw [fU 66 (by omega), fU 68 (by omega), fU 70 (by omega), f19, hd.1.1, hd.1.2.1, hd.1.2.2]
      exact ⟨⟨rfl, rfl, rfl⟩, rfl⟩
    · rw [fU 67 (by omega), fU 69 (by omega), fU 71 (by omega)]
      exact hd.2.2
    · rw [fU 67 (by omega), fU 69 (by omega), fU 71 (by omega)]
      exact hd.2.1
    · rw [f98]; exact hn.2.1
    · rw [f98]; exact hn.2.2.1
  · rw [fr 90 (by omega)]
    exact (gI.cg (fun a a1 a2 => fr a (by omega)) (fr 96 (by omega)) (fr 97 (by omega))).mono (by omega)
theorem bit_add : ∀ a : Nat, a < 16 → ∀ k : Nat, k < 4 → bitI (a : Int) (k : Int) = 0 → (0 ≤ (a : Int) + 2 ^ k ∧ (a : Int) + 2 ^ k ≤ 15) ∧ ∀ t : Nat, t < 4 → bitI ((a : Int) + 2 ^ k) (t : Int) = if t = k then 1 else bitI (a : Int) (t : Int) := by decide +kernel
theorem bitAdd {a k : Int} (ha : 0 ≤ a ∧ a ≤ 15) (hk : 0 ≤ k ∧ k ≤ 3) (h : bitI a k = 0) : (0 ≤ a + 2 ^ k.toNat ∧ a + 2 ^ k.toNat ≤ 15) ∧ ∀ t : Int, 0 ≤ t → t < 4 → bitI (a + 2 ^ k.toNat) t = if t = k then 1 else bitI a t := by
  have h1 := bit_add a.toNat (by omega) k.toNat (by omega)
  rw [Int.toNat_of_nonneg ha.1, Int.toNat_of_nonneg hk.1] at h1
  have h2 := h1 h
  refine ⟨h2.1, fun t t1 t2 => ?_⟩
  have h3 := h2.2 t.toNat (by omega)
  rw [Int.toNat_of_nonneg t1] at h3
  rw [h3]
  by_cases ht : t = k
  · rw [if_pos ht, if_pos (by omega)]
  · rw [if_neg ht, if_neg (by omega)]
theorem op_stays (X : XT) (hR : RI c S) (hc : c + 1 ≤ 5000) {x : Int} (hx : -2147483648 ≤ x ∧ x ≤ 2147483647) : OpI X 6 6 yX_stays bX_stays 2 yZ_stays bZ_stays 2 [.ref 0, .int (iI x)] [.ref 88, .int (iI x)] c S := by
  obtain ⟨p, q, h⟩ := hR
  have h' := h
  obtain ⟨g1, g2, gw, gP, gT, gN, gU, gI, gS, gM, gt, gX⟩ := h
  have b1 := gP.2.2.2.1.2.1
  have o3 := gP.1.2.2.1
  by_cases k : ¬ (0 ≤ x ∧ x < S.1 (p + 11) 1)
  · exact OpI.rd2 h' hc (cX_stays X h'.ci hx) (cZ_stays X h'.zi hx) (by unfold xStays zStays; rw [if_pos k, if_pos (by omega)]) (by unfold zStays; rw [if_pos (by omega)])
  have es := gN.st (t := x) (by omega)
  have hb := bitI_01 (S.1 95 4) x
  by_cases k2 : S.1 34 x = 1
  · exact OpI.rd2 h' hc (cX_stays X h'.ci hx) (cZ_stays X h'.zi hx) (by unfold xStays zStays; rw [if_neg k, if_pos k2, if_neg (by omega), if_pos (by omega)]) (by unfold zStays; rw [if_neg (by omega), if_pos (by omega)])
  have ba := bitAdd gN.2.2 (k := x) (by omega) (by omega)
  have eA : rput S 33 x 1 = pt S 34 x 1 := rput_in 1 (by have : (ln (33 + 1) : Int) = 4 := rfl; omega)
  have hA : ∀ a : Nat, (a < 31 ∨ 40 < a) → (rput S 33 x 1).1 a = S.1 a := fun a ha => rput_ne _ _ _ (by omega)
  have eU : xStays S p x = (sumI ((dadd (rput S 33 x 1) 1 x 0).1 34) 4, dadd (rput S 33 x 1) 1 x 0) := by unfold xStays; rw [if_neg k, if_neg k2]
  have hU : ∀ a : Nat, 88 ≤ a → (xStays S p x).2.1 a = S.1 a := fun a ha => by rw [eU]; show (dadd _ 1 x 0).1 a = _; rw [dadd_ne _ _ _ _ (by omega), hA a (by omega)]
  have hz : ZI (xStays S p x).2 := h'.zi.cg hU
  refine OpI.st (z := fun U => zStays U x) (cX_stays X h'.ci hx) (cZ_stays X hz hx) ?_
  have eV : zStays (xStays S p x).2 x = (onesI (S.1 95 4 + 2 ^ x.toNat), pt (zNote (xStays S p x).2) 95 4 (S.1 95 4 + 2 ^ x.toNat)) := by
    unfold zStays
    rw [hU 90 (by omega), if_neg (by omega), hU 95 (by omega), if_neg (by omega)]
  rw [eV, eU]
  dsimp only
  have e95 : (pt (zNote (dadd (rput S 33 x 1) 1 x 0)) 95 4 (S.1 95 4 + 2 ^ x.toNat)).1 95 = uF (S.1 95) 4 (S.1 95 4 + 2 ^ x.toNat) := by
    rw [pt_eq, zNote_ne _ (by decide) (by decide), dadd_ne _ _ _ _ (by omega), hA 95 (by omega)]
  have hn6 := gN.2.1.2.2.1
  have es2 : eqS (sc6 (rput S 33 x 1) 30) (scV (uF (S.1 95) 4 (S.1 95 4 + 2 ^ x.toNat))) := by
    rw [eA]
    refine ⟨fun t t1 t2 => ⟨?_, ?_⟩, fun m m1 m2 => ⟨?_, ?_⟩, ?_, fun i i1 i2 => ?_⟩
    · show S.1 32 t = uF (S.1 95) 4 _ t
      rw [uF_ne _ _ (by omega)]; exact gN.pl ⟨t1, t2⟩
    · show uF (S.1 34) x 1 t = bitI (uF (S.1 95) 4 (S.1 95 4 + 2 ^ x.toNat) 4) t
      rw [uF_eq, ba.2 t t1 t2]
      by_cases ht : t = x
      · rw [if_pos ht, ht, uF_eq]
      · rw [if_neg ht, uF_ne _ _ ht]; exact gN.st ⟨t1, t2⟩
    · show S.1 36 m = uF (S.1 95) 4 _ (12 + m)
      rw [uF_ne _ _ (by omega)]; exact gN.le ⟨m1, m2⟩
    · show S.1 38 m = uF (S.1 95) 4 _ (112 + m)
      rw [uF_ne _ _ (by omega)]; exact gN.ri ⟨m1, m2⟩
    · show S.1 39 1 = uF (S.1 95) 4 (S.1 95 4 + 2 ^ x.toNat) 5
      rw [uF_ne _ _ (by omega)]; exact gN.n
    · change i < S.1 39 1 at i2
      show S.1 40 i = uF (S.1 95) 4 _ (6 + i)
      rw [uF_ne _ _ (by omega)]; exact gN.th ⟨i1, i2⟩
  have ho : okV (uF (S.1 95) 4 (S.1 95 4 + 2 ^ x.toNat)) (S.1 90 1) (c + 1) := by
    have o := gN.2.1
    refine ⟨⟨fun t t1 t2 => ?_, fun m m1 m2 => ?_, ?_, fun i i1 i2 => ?_⟩, by rw [uF_eq]; exact ba.1⟩
    · have o1 := o.1 t t1 t2
      show (0 ≤ uF (S.1 95) 4 _ t ∧ uF (S.1 95) 4 _ t ≤ 100) ∧ (bitI (uF (S.1 95) 4 (S.1 95 4 + 2 ^ x.toNat) 4) t = 0 ∨ bitI (uF (S.1 95) 4 (S.1 95 4 + 2 ^ x.toNat) 4) t = 1) ∧ (S.1 90 1 ≤ t → bitI (uF (S.1 95) 4 (S.1 95 4 + 2 ^ x.toNat) 4) t = 0)
      rw [uF_ne _ _ (show t ≠ 4 by omega), uF_eq, ba.2 t t1 t2]
      refine ⟨o1.1, ?_⟩
      by_cases ht : t = x
      · rw [if_pos ht]; exact ⟨Or.inr rfl, fun hh => by omega⟩
      · rw [if_neg ht]; exact o1.2
    · have o1 := o.2.1 m m1 m2
      show (0 ≤ uF (S.1 95) 4 _ (12 + m) ∧ uF (S.1 95) 4 _ (12 + m) ≤ c + 1) ∧ (0 ≤ uF (S.1 95) 4 _ (112 + m) ∧ uF (S.1 95) 4 _ (112 + m) ≤ c + 1)
      rw [uF_ne _ _ (show 12 + m ≠ 4 by omega), uF_ne _ _ (show 112 + m ≠ 4 by omega)]
      change (0 ≤ S.1 95 (12 + m) ∧ S.1 95 (12 + m) ≤ c) ∧ (0 ≤ S.1 95 (112 + m) ∧ S.1 95 (112 + m) ≤ c) at o1
      omega
    · show 0 ≤ uF (S.1 95) 4 (S.1 95 4 + 2 ^ x.toNat) 5 ∧ uF (S.1 95) 4 (S.1 95 4 + 2 ^ x.toNat) 5 ≤ 6
      rw [uF_ne _ _ (by omega)]; exact hn6
    · change i < uF (S.1 95) 4 (S.1 95 4 + 2 ^ x.toNat) 5 at i2
      rw [uF_ne _ _ (by omega)] at i2
      show 0 ≤ uF (S.1 95) 4 _ (6 + i) ∧ uF (S.1 95) 4 _ (6 + i) ≤ 100
      rw [uF_ne _ _ (by omega)]
      exact o.2.2.2 i i1 i2
  have R := h'.act hc (A := rput S 33 x 1) (S2 := pt (zNote (dadd (rput S 33 x 1) 1 x 0)) 95 4 (S.1 95 4 + 2 ^ x.toNat)) (k := 1) (t := x) (x := 0) hA (rput_2 _ _ _ _) (gw.put rfl _ _) (fun a ha => pt_ne _ _ _ ha) (by rw [pt_2]; exact zNote_2 _) (by rw [e95]; exact es2) (by rw [e95]; exact ho) ⟨by omega, by omega, by omega, fun hh => by omega, fun hh => by omega⟩ (by
    rw [e95]
    unfold bk
    rw [if_neg (by omega), if_pos rfl]
    refine ⟨fun t t1 t2 => ⟨?_, ?_⟩, fun m m1 m2 => ⟨?_, ?_⟩, ?_, fun i i1 i2 => ?_⟩
    · show uF (S.1 95) 4 _ t = S.1 95 t
      rw [uF_ne _ _ (by omega)]
    · show uF (fun t => bitI (uF (S.1 95) 4 (S.1 95 4 + 2 ^ x.toNat) 4) t) x 0 t = bitI (S.1 95 4) t
      by_cases ht : t = x
      · rw [ht, uF_eq]; omega
      · rw [uF_ne _ _ ht]
        show bitI (uF (S.1 95) 4 (S.1 95 4 + 2 ^ x.toNat) 4) t = _
        rw [uF_eq, ba.2 t t1 t2, if_neg ht]
    · show uF (S.1 95) 4 _ (12 + m) = S.1 95 (12 + m)
      rw [uF_ne _ _ (by omega)]
    · show uF (S.1 95) 4 _ (112 + m) = S.1 95 (112 + m)
      rw [uF_ne _ _ (by omega)]
    · show uF (S.1 95) 4 (S.1 95 4 + 2 ^ x.toNat) 5 = S.1 95 5
      rw [uF_ne _ _ (by omega)]
    · show uF (S.1 95) 4 _ (6 + i) = S.1 95 (6 + i)
      rw [uF_ne _ _ (by omega)])
  refine ⟨?_, p, q, R⟩
  have hs := R.2.2.2.2.2.1.sum
  rw [e95, uF_eq] at hs
  rw [← hs]
  rw [pt_ne _ _ _ (by decide), zNote_ne _ (by decide) (by decide)]
theorem op_loses (X : XT) (hR : RI c S) (hc : c + 1 ≤ 5000) {x : Int} (hx : -2147483648 ≤ x ∧ x ≤ 2147483647) : OpI X 6 6 yX_loses bX_loses 2 yZ_loses bZ_loses 2 [.ref 0, .int (iI x)] [.ref 88, .int (iI x)] c S := by
  obtain ⟨p, q, h⟩ := hR
  have h' := h
  obtain ⟨g1, g2, gw, gP, gT, gN, gU, gI, gS, gM, gt, gX⟩ := h
  have b1 := gP.2.2.2.1.2.1
  have o3 := gP.1.2.2.1
  have en := gN.n
  have hn6 := gN.2.1.2.2.1
  change 0 ≤ S.1 95 5 ∧ S.1 95 5 ≤ 6 at hn6
  by_cases k : ¬ (0 ≤ x ∧ x < S.1 (p + 11) 1)
  · exact OpI.rd2 h' hc (cX_loses X h'.ci hx) (cZ_loses X h'.zi hx) (by unfold xLoses zLoses; rw [if_pos k, if_pos (by omega)]) (by unfold zLoses; rw [if_pos (by omega)])
  by_cases k2 : S.1 39 1 = 6
  · exact OpI.rd2 h' hc (cX_loses X h'.ci hx) (cZ_loses X h'.zi hx) (by unfold xLoses zLoses; rw [if_neg k, if_pos (by omega), if_neg (by omega), if_pos (by omega)]) (by unfold zLoses; rw [if_neg (by omega), if_pos (by omega)])
  have ep := gN.pl (t := x) (by omega)
  have hl : S.1 39 1 < (ln (39 + 1) : Int) := by have : (ln (39 + 1) : Int) = 6 := rfl; omega
  have hA : ∀ a : Nat, (a < 31 ∨ 40 < a) → (rpush S 39 (S.1 32 x)).1 a = S.1 a := fun a ha => rpush_ne _ _ (by omega) (by omega)
  have eA := rpush_in (S.1 32 x) hl
  have eU : xLoses S p x = ((dadd (rpush S 39 (S.1 32 x)) 2 x 0).1 39 1, dadd (rpush S 39 (S.1 32 x)) 2 x 0) := by unfold xLoses; rw [if_neg k, if_neg (by omega)]
  have hU : ∀ a : Nat, 88 ≤ a → (xLoses S p x).2.1 a = S.1 a := fun a ha => by rw [eU]; show (dadd _ 2 x 0).1 a = _; rw [dadd_ne _ _ _ _ (by omega), hA a (by omega)]
  have hz : ZI (xLoses S p x).2 := h'.zi.cg hU
  refine OpI.st (z := fun U => zLoses U x) (cX_loses X h'.ci hx) (cZ_loses X hz hx) ?_
  have eV : zLoses (xLoses S p x).2 x = (S.1 95 5 + 1, pt (pt (zNote (xLoses S p x).2) 95 (6 + S.1 95 5) (S.1 95 x)) 95 5 (S.1 95 5 + 1)) := by
    unfold zLoses
    rw [hU 90 (by omega), if_neg (by omega), hU 95 (by omega), if_neg (by omega)]
  rw [eV, eU]
  dsimp only
  have e95 : (pt (pt (zNote (dadd (rpush S 39 (S.1 32 x)) 2 x 0)) 95 (6 + S.1 95 5) (S.1 95 x)) 95 5 (S.1 95 5 + 1)).1 95 = uF (uF (S.1 95) (6 + S.1 95 5) (S.1 95 x)) 5 (S.1 95 5 + 1) := by
    rw [pt_eq, pt_eq, zNote_ne _ (by decide) (by decide), dadd_ne _ _ _ _ (by omega), hA 95 (by omega)]
  have v5 : uF (uF (S.1 95) (6 + S.1 95 5) (S.1 95 x)) 5 (S.1 95 5 + 1) 5 = S.1 95 5 + 1 := uF_eq _ _ _
  have vo : ∀ i : Int, i ≠ 5 → i ≠ 6 + S.1 95 5 → uF (uF (S.1 95) (6 + S.1 95 5) (S.1 95 x)) 5 (S.1 95 5 + 1) i = S.1 95 i := fun i i1 i2 => by rw [uF_ne _ _ i1, uF_ne _ _ i2]
  have vn : uF (uF (S.1 95) (6 + S.1 95 5) (S.1 95 x)) 5 (S.1 95 5 + 1) (6 + S.1 95 5) = S.1 95 x := by rw [uF_ne _ _ (by omega), uF_eq]
  have o := gN.2.1
  have R := h'.act hc (A := rpush S 39 (S.1 32 x)) (S2 := pt (pt (zNote (dadd (rpush S 39 (S.1 32 x)) 2 x 0)) 95 (6 + S.1 95 5) (S.1 95 x)) 95 5 (S.1 95 5 + 1)) (k := 2) (t := x) (x := 0) hA (rpush_2 _ _ _) (gw.push rfl _) (fun a ha => by rw [pt_ne _ _ _ ha, pt_ne _ _ _ ha]) (by rw [pt_2, pt_2]; exact zNote_2 _) (by
      rw [e95]
      refine ⟨fun t t1 t2 => ⟨?_, ?_⟩, fun m m1 m2 => ⟨?_, ?_⟩, ?_, fun i i1 i2 => ?_⟩
      · rw [eA]
        refine Eq.trans ?_ (vo t (by omega) (by omega)).symm
        exact gN.pl ⟨t1, t2⟩
      · rw [eA]
        refine Eq.trans ?_ (congrArg (fun w => bitI w t) (vo 4 (by omega) (by omega))).symm
        exact gN.st ⟨t1, t2⟩
      · rw [eA]
        refine Eq.trans ?_ (vo (12 + m) (by omega) (by omega)).symm
        exact gN.le ⟨m1, m2⟩
      · rw [eA]
        refine Eq.trans ?_ (vo (112 + m) (by omega) (by omega)).symm
        exact gN.ri ⟨m1, m2⟩
      · rw [eA]
        refine Eq.trans ?_ v5.symm
        show S.1 39 1 + 1 = _
        rw [en]
      · rw [eA] at i2 ⊢
        change i < S.1 39 1 + 1 at i2
        show uF (S.1 40) (S.1 39 1) (S.1 32 x) i = uF (uF (S.1 95) (6 + S.1 95 5) (S.1 95 x)) 5 (S.1 95 5 + 1) (6 + i)
        by_cases hi : i = S.1 39 1
        · rw [hi, uF_eq, en, vn]; exact ep
        · rw [uF_ne _ _ hi, vo (6 + i) (by omega) (by omega)]
          exact gN.th ⟨i1, by omega⟩) (by
      rw [e95]
      refine ⟨⟨fun t t1 t2 => ?_, fun m m1 m2 => ?_, ?_, fun i i1 i2 => ?_⟩, by rw [vo 4 (by omega) (by omega)]; exact gN.2.2⟩
      · have o1 := o.1 t t1 t2
        show (0 ≤ uF (uF (S.1 95) (6 + S.1 95 5) (S.1 95 x)) 5 (S.1 95 5 + 1) t ∧ uF (uF (S.1 95) (6 + S.1 95 5) (S.1 95 x)) 5 (S.1 95 5 + 1) t ≤ 100) ∧ (bitI (uF (uF (S.1 95) (6 + S.1 95 5) (S.1 95 x)) 5 (S.1 95 5 + 1) 4) t = 0 ∨ bitI (uF (uF (S.1 95) (6 + S.1 95 5) (S.1 95 x)) 5 (S.1 95 5 + 1) 4) t = 1) ∧ (S.1 90 1 ≤ t → bitI (uF (uF (S.1 95) (6 + S.1 95 5) (S.1 95 x)) 5 (S.1 95 5 + 1) 4) t = 0)
        rw [vo t (by omega) (by omega), vo 4 (by omega) (by omega)]
        exact o1
      · have o1 := o.2.1 m m1 m2
        change (0 ≤ S.1 95 (12 + m) ∧ S.1 95 (12 + m) ≤ c) ∧ (0 ≤ S.1 95 (112 + m) ∧ S.1 95 (112 + m) ≤ c) at o1
        show (0 ≤ uF (uF (S.1 95) (6 + S.1 95 5) (S.1 95 x)) 5 (S.1 95 5 + 1) (12 + m) ∧ uF (uF (S.1 95) (6 + S.1 95 5) (S.1 95 x)) 5 (S.1 95 5 + 1) (12 + m) ≤ c + 1) ∧ (0 ≤ uF (uF (S.1 95) (6 + S.1 95 5) (S.1 95 x)) 5 (S.1 95 5 + 1) (112 + m) ∧ uF (uF (S.1 95) (6 + S.1 95 5) (S.1 95 x)) 5 (S.1 95 5 + 1) (112 + m) ≤ c + 1)
        rw [vo (12 + m) (by omega) (by omega), vo (112 + m) (by omega) (by omega)]
        omega
      · show 0 ≤ uF (uF (S.1 95) (6 + S.1 95 5) (S.1 95 x)) 5 (S.1 95 5 + 1) 5 ∧ uF (uF (S.1 95) (6 + S.1 95 5) (S.1 95 x)) 5 (S.1 95 5 + 1) 5 ≤ 6
        rw [v5]; omega
      · change i < uF (uF (S.1 95) (6 + S.1 95 5) (S.1 95 x)) 5 (S.1 95 5 + 1) 5 at i2
        rw [v5] at i2
        show 0 ≤ uF (uF (S.1 95) (6 + S.1 95 5) (S.1 95 x)) 5 (S.1 95 5 + 1) (6 + i) ∧ uF (uF (S.1 95) (6 + S.1 95 5) (S.1 95 x)) 5 (S.1 95 5 + 1) (6 + i) ≤ 100
        by_cases hi : i = S.1 95 5
        · rw [hi, vn]; exact (o.1 x (by omega) (by omega)).1
        · rw [vo (6 + i) (by omega) (by omega)]; exact o.2.2.2 i i1 (by show i < S.1 95 5; omega)) ⟨by omega, by omega, by omega, fun _ => by rw [e95]; show 1 ≤ uF (uF (S.1 95) (6 + S.1 95 5) (S.1 95 x)) 5 (S.1 95 5 + 1) 5; rw [v5]; omega, fun hh => by omega⟩ (by
      rw [e95]
      unfold bk
      rw [if_neg (by omega), if_neg (by omega), if_pos rfl]
      refine ⟨fun t t1 t2 => ⟨vo t (by omega) (by omega), congrArg (fun w => bitI w t) (vo 4 (by omega) (by omega))⟩, fun m m1 m2 => ⟨vo (12 + m) (by omega) (by omega), vo (112 + m) (by omega) (by omega)⟩, ?_, fun i i1 i2 => ?_⟩
      · show uF (uF (S.1 95) (6 + S.1 95 5) (S.1 95 x)) 5 (S.1 95 5 + 1) 5 - 1 = S.1 95 5
        rw [v5]; omega
      · change i < uF (uF (S.1 95) (6 + S.1 95 5) (S.1 95 x)) 5 (S.1 95 5 + 1) 5 - 1 at i2
        rw [v5] at i2
        exact vo (6 + i) (by omega) (by omega))
  refine ⟨?_, p, q, R⟩
  rw [dadd_ne _ _ _ _ (by omega), eA, pt_at, en]
end DO
