/-! images -/
theorem rcopy_at (S : Sg) (k o : Nat) : (rcopy S k o).1 k 1 = min (ln (k + 1) : Int) (S.1 o 1) ∧ ∀ j : Int, (rcopy S k o).1 (k + 1) j = atV (S.1 (o + 1)) (ln (o + 1)) j := by
  unfold rcopy
  refine ⟨pt_at _ _ _ _, fun j => ?_⟩
  rw [pt_ne _ _ _ (by omega), aset_eq]
theorem scopy_ne (S : Sg) (k o : Nat) {a : Nat} (h : a < k + 1 ∨ k + 10 < a) : (scopy S k o).1 a = S.1 a := by
  unfold scopy
  rw [rcopy_ne _ (by omega) (by omega), rcopy_ne _ (by omega) (by omega), rcopy_ne _ (by omega) (by omega), rcopy_ne _ (by omega) (by omega), rcopy_ne _ (by omega) (by omega)]
theorem scopy_eq (S : Sg) {k o : Nat} (hko : k + 10 ≤ o ∨ o + 10 ≤ k) (hl : ln (o + 2) = 4 ∧ ln (o + 4) = 4 ∧ ln (o + 6) = 100 ∧ ln (o + 8) = 100 ∧ ln (o + 10) = 6) (hk : ln (k + 10) = 6) (hn : 0 ≤ S.1 (o + 9) 1 ∧ S.1 (o + 9) 1 ≤ 6) : eqS (sc6 (scopy S k o) k) (sc6 S o) := by
  obtain ⟨l2, l4, l6, l8, l10⟩ := hl
  have e2 : (scopy S k o).1 (k + 2) = (rcopy S (k + 1) (o + 1)).1 (k + 2) := by
    unfold scopy
    rw [rcopy_ne _ (by omega) (by omega), rcopy_ne _ (by omega) (by omega), rcopy_ne _ (by omega) (by omega), rcopy_ne _ (by omega) (by omega)]
  have e4 : (scopy S k o).1 (k + 4) = (rcopy (rcopy S (k + 1) (o + 1)) (k + 3) (o + 3)).1 (k + 4) := by
    unfold scopy
    rw [rcopy_ne _ (by omega) (by omega), rcopy_ne _ (by omega) (by omega), rcopy_ne _ (by omega) (by omega)]
  have e6 : (scopy S k o).1 (k + 6) = (rcopy (rcopy (rcopy S (k + 1) (o + 1)) (k + 3) (o + 3)) (k + 5) (o + 5)).1 (k + 6) := by
    unfold scopy
    rw [rcopy_ne _ (by omega) (by omega), rcopy_ne _ (by omega) (by omega)]
  have e8 : (scopy S k o).1 (k + 8) = (rcopy (rcopy (rcopy (rcopy S (k + 1) (o + 1)) (k + 3) (o + 3)) (k + 5) (o + 5)) (k + 7) (o + 7)).1 (k + 8) := by
    unfold scopy
    rw [rcopy_ne _ (by omega) (by omega)]
  have s4 : (rcopy S (k + 1) (o + 1)).1 (o + 4) = S.1 (o + 4) := by rw [rcopy_ne _ (by omega) (by omega)]
  have s6 : (rcopy (rcopy S (k + 1) (o + 1)) (k + 3) (o + 3)).1 (o + 6) = S.1 (o + 6) := by rw [rcopy_ne _ (by omega) (by omega), rcopy_ne _ (by omega) (by omega)]
  have s8 : (rcopy (rcopy (rcopy S (k + 1) (o + 1)) (k + 3) (o + 3)) (k + 5) (o + 5)).1 (o + 8) = S.1 (o + 8) := by rw [rcopy_ne _ (by omega) (by omega), rcopy_ne _ (by omega) (by omega), rcopy_ne _ (by omega) (by omega)]
  have s9 : (rcopy (rcopy (rcopy (rcopy S (k + 1) (o + 1)) (k + 3) (o + 3)) (k + 5) (o + 5)) (k + 7) (o + 7)).1 (o + 9) = S.1 (o + 9) := by rw [rcopy_ne _ (by omega) (by omega), rcopy_ne _ (by omega) (by omega), rcopy_ne _ (by omega) (by omega), rcopy_ne _ (by omega) (by omega)]
  have s10 : (rcopy (rcopy (rcopy (rcopy S (k + 1) (o + 1)) (k + 3) (o + 3)) (k + 5) (o + 5)) (k + 7) (o + 7)).1 (o + 10) = S.1 (o + 10) := by rw [rcopy_ne _ (by omega) (by omega), rcopy_ne _ (by omega) (by omega), rcopy_ne _ (by omega) (by omega), rcopy_ne _ (by omega) (by omega)]
  have c2 := (rcopy_at S (k + 1) (o + 1)).2
  have c4 := (rcopy_at (rcopy S (k + 1) (o + 1)) (k + 3) (o + 3)).2
  have c6 := (rcopy_at (rcopy (rcopy S (k + 1) (o + 1)) (k + 3) (o + 3)) (k + 5) (o + 5)).2
  have c8 := (rcopy_at (rcopy (rcopy (rcopy S (k + 1) (o + 1)) (k + 3) (o + 3)) (k + 5) (o + 5)) (k + 7) (o + 7)).2
  have c9 := rcopy_at (rcopy (rcopy (rcopy (rcopy S (k + 1) (o + 1)) (k + 3) (o + 3)) (k + 5) (o + 5)) (k + 7) (o + 7)) (k + 9) (o + 9)
  rw [show o + 1 + 1 = o + 2 from rfl, l2] at c2
  rw [show o + 3 + 1 = o + 4 from rfl, l4, s4] at c4
  rw [show o + 5 + 1 = o + 6 from rfl, l6, s6] at c6
  rw [show o + 7 + 1 = o + 8 from rfl, l8, s8] at c8
  rw [show o + 9 + 1 = o + 10 from rfl, l10, s10, s9, show k + 9 + 1 = k + 10 from rfl, hk] at c9
  have en : (scopy S k o).1 (k + 9) 1 = S.1 (o + 9) 1 := by
    show (rcopy (rcopy (rcopy (rcopy (rcopy S (k + 1) (o + 1)) (k + 3) (o + 3)) (k + 5) (o + 5)) (k + 7) (o + 7)) (k + 9) (o + 9)).1 (k + 9) 1 = _
    rw [c9.1]
    omega
  refine ⟨fun t t1 t2 => ⟨?_, ?_⟩, fun m m1 m2 => ⟨?_, ?_⟩, en, fun i i1 i2 => ?_⟩
  · show (scopy S k o).1 (k + 2) t = S.1 (o + 2) t
    rw [e2, c2 t, atV_in (by omega)]
  · show (scopy S k o).1 (k + 4) t = S.1 (o + 4) t
    rw [e4, c4 t, atV_in (by omega)]
  · show (scopy S k o).1 (k + 6) m = S.1 (o + 6) m
    rw [e6, c6 m, atV_in (by omega)]
  · show (scopy S k o).1 (k + 8) m = S.1 (o + 8) m
    rw [e8, c8 m, atV_in (by omega)]
  · change i < (scopy S k o).1 (k + 9) 1 at i2
    rw [en] at i2
    show (rcopy (rcopy (rcopy (rcopy (rcopy S (k + 1) (o + 1)) (k + 3) (o + 3)) (k + 5) (o + 5)) (k + 7) (o + 7)) (k + 9) (o + 9)).1 (k + 10) i = S.1 (o + 10) i
    rw [c9.2 i, atV_in (by omega)]
theorem scopy_2 (S : Sg) (k o : Nat) : (scopy S k o).2 = S.2 := by
  unfold scopy
  rw [rcopy_2, rcopy_2, rcopy_2, rcopy_2, rcopy_2]
theorem Wr.copies {S : Sg} (h : Wr S) {k o : Nat} (hk : (k = 30 ∧ (o = 41 ∨ o = 52)) ∨ (o = 30 ∧ (k = 41 ∨ k = 52))) : Wr (scopy S k o) := by
  unfold scopy
  rcases hk with ⟨rfl, rfl | rfl⟩ | ⟨rfl, rfl | rfl⟩ <;> exact ((((h.copy rfl rfl).copy rfl rfl).copy rfl rfl).copy rfl rfl).copy rfl rfl
section IM
variable {c : Int} {S : Sg} {p q : Nat}
theorem im_keep {S : Sg} (x : Int) (hn : 0 ≤ S.1 39 1 ∧ S.1 39 1 ≤ 6) : eqS (sc6 (scopy S (imA x) 30) (imA x)) (sc6 S 30) := by
  rcases im_or x with hi | hi <;> rw [hi] <;> exact scopy_eq S (by omega) ⟨rfl, rfl, rfl, rfl, rfl⟩ rfl hn
theorem im_take {S : Sg} (x : Int) (hn : 0 ≤ S.1 (imA x + 9) 1 ∧ S.1 (imA x + 9) 1 ≤ 6) : eqS (sc6 (scopy S 30 (imA x)) 30) (sc6 S (imA x)) := by
  rcases im_or x with hi | hi <;> rw [hi] at hn ⊢ <;> exact scopy_eq S (by omega) ⟨rfl, rfl, rfl, rfl, rfl⟩ rfl hn
theorem op_keep (X : XT) (hR : RI c S) (hc : c + 1 ≤ 5000) {x : Int} (hx : -2147483648 ≤ x ∧ x ≤ 2147483647) : OpI X 6 6 yX_keep bX_keep 2 yZ_keep bZ_keep 3 [.ref 0, .int (iI x)] [.ref 88, .int (iI x)] c S := by
  obtain ⟨p, q, h⟩ := hR
  have hpq := h.pq
  have h' := h
  obtain ⟨g1, g2, gw, gP, gT, gN, gU, gI, gS, gM, gt, gX⟩ := h
  by_cases k : x < 0 ∨ 1 < x
  · exact OpI.rd2 h' hc (cX_keep X h'.ci hx) (cZ_keep X h'.zi hx) (by unfold xKeep zKeep; rw [if_pos k, if_pos k]) (by unfold zKeep; rw [if_pos k])
  have hn6 := gN.2.1.2.2.1
  change 0 ≤ S.1 95 5 ∧ S.1 95 5 ≤ 6 at hn6
  have hi := im_or x
  have eA : rput (scopy S (imA x) 30) 63 x 1 = pt (scopy S (imA x) 30) 64 x 1 := rput_in 1 (by have : (ln (63 + 1) : Int) = 2 := rfl; omega)
  have eU : xKeep S p x = (sumI ((pt (scopy S (imA x) 30) 64 x 1).1 34) 4, pt (scopy S (imA x) 30) 64 x 1) := by unfold xKeep; rw [if_neg k, eA]
  have hU0 : ∀ a : Nat, (a < imA x + 1 ∨ imA x + 10 < a) ∧ a ≠ 64 → (xKeep S p x).2.1 a = S.1 a := fun a ha => by rw [eU]; show (pt _ 64 x 1).1 a = _; rw [pt_ne _ _ _ ha.2, scopy_ne _ _ _ ha.1]
  have hU : ∀ a : Nat, 88 ≤ a → (xKeep S p x).2.1 a = S.1 a := fun a ha => hU0 a (by omega)
  have hz : ZI (xKeep S p x).2 := h'.zi.cg hU
  refine OpI.st (z := fun U => zKeep U x) (cX_keep X h'.ci hx) (cZ_keep X hz hx) ?_
  have eV : zKeep (xKeep S p x).2 x = (onesI (S.1 95 4), pt (cpy (xKeep S p x).2 95 96 (212 * x) 212) 97 x 1) := by
    unfold zKeep
    rw [if_neg k, hU 95 (by omega)]
  have hWU : Wr (xKeep S p x).2 := by rw [eU]; exact (gw.copies (by omega)).pt (by decide) _ _
  have hUs : (xKeep S p x).2.2 = S.2 := by rw [eU]; show (pt _ 64 x 1).2 = _; rw [pt_2, scopy_2]
  have hU64 : (xKeep S p x).2.1 64 = uF (S.1 64) x 1 := by rw [eU]; show (pt _ 64 x 1).1 64 = _; rw [pt_eq, scopy_ne _ _ _ (by omega)]
  have hUim : sc6 (xKeep S p x).2 (imA x) = sc6 (scopy S (imA x) 30) (imA x) := by
    rw [eU]
    show sc6 (pt _ 64 x 1) (imA x) = _
    unfold sc6
    rw [pt_ne _ _ _ (by omega), pt_ne _ _ _ (by omega), pt_ne _ _ _ (by omega), pt_ne _ _ _ (by omega), pt_ne _ _ _ (by omega), pt_ne _ _ _ (by omega)]
  have eans : (xKeep S p x).1 = onesI (S.1 95 4) := by
    rw [eU]
    show sumI ((pt _ 64 x 1).1 34) 4 = _
    rw [pt_ne _ _ _ (by decide), scopy_ne _ _ _ (by omega)]
    exact gN.sum
  rw [eV]
  refine ⟨eans.symm, ?_⟩
  have fr : ∀ a : Nat, ((a < imA x + 1 ∨ imA x + 10 < a) ∧ a ≠ 64) ∧ a ≠ 96 ∧ a ≠ 97 → (pt (cpy (xKeep S p x).2 95 96 (212 * x) 212) 97 x 1).1 a = S.1 a := fun a ha => by rw [pt_ne _ _ _ ha.2.2, cpy_ne _ _ _ ha.2.1, hU0 a ha.1]
  have frU : ∀ a : Nat, a ≠ 96 ∧ a ≠ 97 → (pt (cpy (xKeep S p x).2 95 96 (212 * x) 212) 97 x 1).1 a = (xKeep S p x).2.1 a := fun a ha => by rw [pt_ne _ _ _ ha.2, cpy_ne _ _ _ ha.1]
  have f97 : (pt (cpy (xKeep S p x).2 95 96 (212 * x) 212) 97 x 1).1 97 = uF (S.1 97) x 1 := by rw [pt_eq, cpy_ne _ _ _ (by decide), hU 97 (by omega)]
  have f96 : (pt (cpy (xKeep S p x).2 95 96 (212 * x) 212) 97 x 1).1 96 = fun k => if 212 * x ≤ k ∧ k < 212 * x + 212 then S.1 95 (k - 212 * x) else S.1 96 k := by
    rw [pt_ne _ _ _ (by decide)]
    unfold cpy
    rw [aset_eq, hU 95 (by omega), hU 96 (by omega)]
  refine h'.mk' hc (by show (xKeep S p x).2.2.2 = _; rw [hUs]) ((hWU.aset (by decide) _).pt (by decide) _ _) (gP.cg (fun a a1 a2 => fr a (by omega)) (fun a a1 a2 => fr a (by omega))) (gT.cg (fr 2 (by omega)) (fr 3 (by omega)) (by rw [fr 88 (by omega)]) (fr 89 (by omega))) ((gN.cg (fun a a1 a2 => fr a (by omega)) (fr 95 (by omega))).mono (by omega)) ((gU.cg (fun a a1 a2 => fr a (by omega)) (by rw [fr 88 (by omega)]) (fr 95 (by omega)) (fr 98 (by omega))).mono (by omega)) ?_ (gS.cg (fun a a1 a2 => fr a (by omega)) (by rw [fr 88 (by omega)]) (fr 99 (by omega)) (fr 100 (by omega)) (fr _ (by omega)) (fr _ (by omega))) (gM.cg (fun a a1 a2 => fr a (by omega)) (by rw [fr 88 (by omega)]) (fr 101 (by omega)) (fr 102 (by omega)) (fr 103 (by omega)) (fr _ (by omega))) (by show (xKeep S p x).2.2.1 88 = (xKeep S p x).2.2.1 0; rw [hUs]; exact gt) (gX.cg (fun j hj => by rw [fr 88 (by omega)])) (fr 90 (by omega))
  intro y y1 y2
  have gy := gI y y1 y2
  rw [frU 64 (by omega), hU64, f97, f96]
  by_cases hy : y = x
  · subst hy
    rw [uF_eq, uF_eq]
    refine ⟨Or.inr rfl, rfl, fun _ => ?_⟩
    have e0 : ∀ k : Int, 0 ≤ k → k < 212 → S.1 95 k = (fun k => (fun k => if 212 * y ≤ k ∧ k < 212 * y + 212 then S.1 95 (k - 212 * y) else S.1 96 k) (212 * y + k)) k := by
      intro k k1 k2
      dsimp only
      rw [if_pos (by omega), show 212 * y + k - 212 * y = k by omega]
    have e1 : sc6 (pt (cpy (xKeep S p y).2 95 96 (212 * y) 212) 97 y 1) (imA y) = sc6 (xKeep S p y).2 (imA y) := by
      unfold sc6
      rw [frU _ (by omega), frU _ (by omega), frU _ (by omega), frU _ (by omega), frU _ (by omega), frU _ (by omega)]
    rw [e1, hUim]
    exact ⟨(im_keep y (by rw [gN.n]; exact hn6)).tr (gN.1.tr (scV_eq e0 hn6.2)), (gN.2.eq e0).mono (by omega)⟩
  · rw [uF_ne _ _ hy, uF_ne _ _ hy]
    refine ⟨gy.1, gy.2.1, fun h1 => ?_⟩
    have gz := gy.2.2 h1
    have e0 : ∀ k : Int, 0 ≤ k → k < 212 → (fun k => S.1 96 (212 * y + k)) k = (fun k => (fun k => if 212 * x ≤ k ∧ k < 212 * x + 212 then S.1 95 (k - 212 * x) else S.1 96 k) (212 * y + k)) k := by
      intro k k1 k2
      dsimp only
      rw [if_neg (by omega)]
    have hap : imA y + 10 < imA x + 1 ∨ imA x + 10 < imA y + 1 := by
      unfold imA
      rcases (show (x = 0 ∧ y = 1) ∨ (x = 1 ∧ y = 0) by omega) with ⟨rfl, rfl⟩ | ⟨rfl, rfl⟩ <;> decide
    have hiy := im_or y
    have e1 : sc6 (pt (cpy (xKeep S p x).2 95 96 (212 * x) 212) 97 x 1) (imA y) = sc6 S (imA y) := by
      unfold sc6
      rw [fr _ (by omega), fr _ (by omega), fr _ (by omega), fr _ (by omega), fr _ (by omega), fr _ (by omega)]
    rw [e1]
    exact ⟨gz.1.tr (scV_eq e0 gz.2.1.2.2.1.2), (gz.2.eq e0).mono (by omega)⟩
theorem op_back (X : XT) (hR : RI c S) (hc : c + 1 ≤ 5000) {x : Int} (hx : -2147483648 ≤ x ∧ x ≤ 2147483647) : OpI X 6 6 yX_back bX_back 2 yZ_back bZ_back 3 [.ref 0, .int (iI x)] [.ref 88, .int (iI x)] c S := by
  obtain ⟨p, q, h⟩ := hR
  have hpq := h.pq
  have h' := h
  obtain ⟨g1, g2, gw, gP, gT, gN, gU, gI, gS, gM, gt, gX⟩ := h
  have h4 : ∀ U : Sg, U.1 96 = S.1 96 → U.1 97 = S.1 97 → (0 ≤ x ∧ x ≤ 1 → U.1 97 x = 1 → 0 ≤ U.1 96 (212 * x + 4) ∧ U.1 96 (212 * x + 4) ≤ 15) := by
    intro U u1 u2 hh hk
    have gy := gI x (by omega) (by omega)
    rw [u2, gy.2.1] at hk
    rw [u1]
    exact (gy.2.2 hk).2.2
  by_cases k : x < 0 ∨ 1 < x
  · exact OpI.rd2 h' hc (cX_back X h'.ci hx) (cZ_back X h'.zi hx (h4 S rfl rfl)) (by unfold xBack zBack; rw [if_pos k, if_pos k]) (by unfold zBack; rw [if_pos k])
  have gy := gI x (by omega) (by omega)
  by_cases k2 : S.1 64 x = 0
  · exact OpI.rd2 h' hc (cX_back X h'.ci hx) (cZ_back X h'.zi hx (h4 S rfl rfl)) (by unfold xBack zBack; rw [if_neg k, if_pos k2, if_neg k, if_pos (by omega)]) (by unfold zBack; rw [if_neg k, if_pos (by omega)])
  have gz := gy.2.2 (by omega)
  have hi := im_or x
  have hn6 := gz.2.1.2.2.1
  change 0 ≤ S.1 96 (212 * x + 5) ∧ S.1 96 (212 * x + 5) ≤ 6 at hn6
  have en : S.1 (imA x + 9) 1 = S.1 96 (212 * x + 5) := gz.1.2.2.1
  have hS1 : ∃ U, U = dempty (scopy S 30 (imA x)) := ⟨_, rfl⟩
  obtain ⟨U, hS1⟩ := hS1
  have eU : xBack S p x = (sumI (U.1 34) 4, U) := by unfold xBack; rw [if_neg k, if_neg k2, ← hS1]
  have hU0 : ∀ a : Nat, (a < 31 ∨ 40 < a) ∧ (a < 66 ∨ 71 < a) → U.1 a = S.1 a := fun a ha => by
    rw [hS1]
    unfold dempty
    rw [rempty_ne _ (by omega) (by omega), rempty_ne _ (by omega) (by omega), rempty_ne _ (by omega) (by omega), scopy_ne _ _ _ (by omega)]
  have hz : ZI (xBack S p x).2 := by rw [eU]; exact h'.zi.cg (fun a ha => hU0 a (by omega))
  refine OpI.st (z := fun U => zBack U x) (cX_back X h'.ci hx) (cZ_back X hz hx (by rw [eU]; exact h4 U (hU0 96 (by omega)) (hU0 97 (by omega)))) ?_
  rw [eU]
  dsimp only
  have eV : zBack U x = (onesI ((cpw U 96 95 (212 * x) 212).1 95 4), pt (cpw U 96 95 (212 * x) 212) 88 19 0) := by
    unfold zBack
    rw [if_neg k, hU0 97 (by omega), if_neg (by omega)]
  have hWU : Wr U := by rw [hS1]; exact (((gw.copies (by omega)).empty rfl).empty rfl).empty rfl
  have hUs : U.2 = S.2 := by rw [hS1]; unfold dempty; rw [rempty_2, rempty_2, rempty_2, scopy_2]
  have hUim : sc6 U 30 = sc6 (scopy S 30 (imA x)) 30 := by
    rw [hS1]
    unfold sc6 dempty
    rw [rempty_ne _ (by omega) (by omega), rempty_ne _ (by omega) (by omega), rempty_ne _ (by omega) (by omega), rempty_ne _ (by omega) (by omega), rempty_ne _ (by omega) (by omega), rempty_ne _ (by omega) (by omega), rempty_ne _ (by omega) (by omega), rempty_ne _ (by omega) (by omega), rempty_ne _ (by omega) (by omega), rempty_ne _ (by omega) (by omega), rempty_ne _ (by omega) (by omega), rempty_ne _ (by omega) (by omega), rempty_ne _ (by omega) (by omega), rempty_ne _ (by omega) (by omega), rempty_ne _ (by omega) (by omega), rempty_ne _ (by omega) (by omega), rempty_ne _ (by omega) (by omega), rempty_ne _ (by omega) (by omega)]
  have z66 : U.1 66 1 = 0 := by rw [hS1]; unfold dempty; rw [rempty_ne _ (by decide) (by decide), rempty_ne _ (by decide) (by decide)]; exact pt_at _ _ _ _
  have z68 : U.1 68 1 = 0 := by rw [hS1]; unfold dempty; rw [rempty_ne _ (by decide) (by decide)]; exact pt_at _ _ _ _
  have z70 : U.1 70 1 = 0 := by rw [hS1]; unfold dempty; exact pt_at _ _ _ _
  rw [eV]
  dsimp only
  have hS2 : ∃ S2, S2 = pt (cpw U 96 95 (212 * x) 212) 88 19 0 := ⟨_, rfl⟩
  obtain ⟨S2, hS2⟩ := hS2
  rw [← hS2]
  have frU : ∀ a : Nat, a ≠ 95 → a ≠ 88 → S2.1 a = U.1 a := fun a h1 h2 => by rw [hS2, pt_ne _ _ _ h2, cpw_ne _ _ _ h1]
  have fr : ∀ a : Nat, (a ≠ 95 ∧ a ≠ 88) ∧ (a < 31 ∨ 40 < a) ∧ (a < 66 ∨ 71 < a) → S2.1 a = S.1 a := fun a ha => by rw [frU a ha.1.1 ha.1.2, hU0 a ha.2]
  have f88 : ∀ j : Int, j ≠ 19 → S2.1 88 j = S.1 88 j := fun j hj => by rw [hS2, pt_eq, uF_ne _ _ hj, cpw_ne _ _ _ (by decide), hU0 88 (by omega)]
  have e95' : (cpw U 96 95 (212 * x) 212).1 95 = S2.1 95 := by rw [hS2, pt_ne _ _ _ (by decide)]
  have e0 : ∀ i : Int, 0 ≤ i → i < 212 → (fun k => S.1 96 (212 * x + k)) i = S2.1 95 i := by
    intro i i1 i2
    rw [← e95']
    unfold cpw
    rw [aset_eq, if_pos ⟨i1, i2⟩, hU0 96 (by omega)]
  have eN : NOW S2 (S.1 90 1) (c + 1) := by
    refine ⟨?_, (gz.2.eq e0).mono (by omega)⟩
    have e1 : sc6 S2 30 = sc6 U 30 := by
      unfold sc6
      rw [frU _ (by omega) (by omega), frU _ (by omega) (by omega), frU _ (by omega) (by omega), frU _ (by omega) (by omega), frU _ (by omega) (by omega), frU _ (by omega) (by omega)]
    rw [e1, hUim]
    exact (im_take x (by rw [en]; exact hn6)).tr (gz.1.tr (scV_eq e0 hn6.2))
  refine ⟨?_, ?_⟩
  · rw [e95', ← eN.sum, frU 34 (by omega) (by omega)]
  refine h'.mk' hc (by rw [hS2]; show U.2.2 = _; rw [hUs]) (by rw [hS2]; exact (hWU.aset (by decide) _).pt (by decide) _ _) (gP.cg (fun a a1 a2 => fr a (by omega)) (fun a a1 a2 => fr a (by omega))) (gT.cg (fr 2 (by omega)) (fr 3 (by omega)) (f88 3 (by omega)) (fr 89 (by omega))) eN ⟨⟨?_, ?_, ?_⟩, ?_⟩ ((gI.cg (fun a a1 a2 => fr a (by omega)) (fr 96 (by omega)) (fr 97 (by omega))).mono (by omega)) (gS.cg (fun a a1 a2 => fr a (by omega)) (f88 22 (by omega)) (fr 99 (by omega)) (fr 100 (by omega)) (fr _ (by omega)) (fr _ (by omega))) (gM.cg (fun a a1 a2 => fr a (by omega)) (f88 26 (by omega)) (fr 101 (by omega)) (fr 102 (by omega)) (fr 103 (by omega)) (fr _ (by omega))) (by rw [hS2]; show U.2.1 88 = U.2.1 0; rw [hUs]; exact gt) (gX.cg (fun j hj => f88 j (by omega))) (fr 90 (by omega))
  · rw [frU 68 (by omega) (by omega), frU 66 (by omega) (by omega), z66, z68]
  · rw [frU 70 (by omega) (by omega), frU 66 (by omega) (by omega), z66, z70]
  · rw [frU 66 (by omega) (by omega), z66, hS2, pt_at]
  · rw [frU 66 (by omega) (by omega), z66]
    refine ⟨by omega, fun j j1 j2 => ?_, fun j j1 j2 => by omega⟩
    have : vv 0 (S2.1 98) (S2.1 95) j = S2.1 95 := if_neg (by omega)
    rw [this]
    exact eN.2
end IM
