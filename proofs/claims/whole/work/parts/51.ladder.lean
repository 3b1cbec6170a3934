/-! a ladder read anew: alike again -/
theorem Wr.cg {S S' : Sg} (h : Wr S) (e : ∀ k, kd k = 3 → S'.1 k = S.1 k) : Wr S' := fun k hk => by
  unfold rw1
  rw [e k hk]
  exact h k hk
theorem PLN.new {R V S2 : Sg} {q : Nat} (h : PD R V q) (e : ∀ a : Nat, q ≤ a → a ≤ q + 12 → S2.1 a = R.1 a) (f0 : ∀ j : Int, 0 ≤ j → j < 4 → S2.1 90 j = V.1 90 (4 + j)) (f1 : ∀ k : Int, 0 ≤ k → k < 5 → S2.1 91 k = V.1 91 (5 + k) ∧ S2.1 92 k = V.1 92 (5 + k) ∧ S2.1 93 k = V.1 93 (5 + k)) (f4 : ∀ t : Int, 0 ≤ t → t < 4 → S2.1 94 t = V.1 94 (4 + t)) : PLN S2 q := by
  obtain ⟨⟨a1, a2, a3⟩, ⟨b1, b2, b3, b4⟩, ⟨c1, c2, c3, c4⟩, hd, he, hf, hg, hz, hh⟩ := h
  have g0 : S2.1 90 0 = V.1 90 4 := f0 0 (by omega) (by omega)
  have g1 : S2.1 90 1 = V.1 90 5 := f0 1 (by omega) (by omega)
  have g2 : S2.1 90 2 = V.1 90 6 := f0 2 (by omega) (by omega)
  have g3 : S2.1 90 3 = V.1 90 7 := f0 3 (by omega) (by omega)
  have gl : ∀ k : Int, 0 ≤ k → k < V.1 90 4 → S2.1 91 k = R.1 (q + 2) k ∧ S2.1 92 k = R.1 (q + 4) k ∧ S2.1 93 k = R.1 (q + 6) k := fun k k1 k2 => by
    have x := f1 k k1 (by omega)
    have y := (hd k k1 k2).1
    rw [x.1, x.2.1, x.2.2]
    exact y
  have zs : ZS S2 := by
    refine ⟨by rw [g0]; exact a1, fun k k1 k2 => ?_⟩
    rw [g0] at k2
    have x := gl k k1 k2
    rw [x.1, x.2.1, x.2.2]
    exact (hd k k1 k2).2
  have em : ∀ l : Int, l ≤ V.1 90 4 → mkZ S2 l = sumI (R.1 (q + 2)) l := fun l hl => sumI_congr (fun j j1 j2 => (gl j j1 (by omega)).1)
  have et : tpZ S2 = sumI (R.1 (q + 2)) (V.1 90 4) := by unfold tpZ; rw [g0]; exact em _ (Int.le_refl _)
  have tb := tpZ_bd zs
  have mp : ∀ l : Int, 0 ≤ l → l ≤ V.1 90 4 → markP S2 q l = mkZ S2 l := fun l l1 l2 => by
    unfold markP atV
    rw [e (q + 8) (by omega) (by omega), em l l2]
    by_cases hl : l = 0
    · subst hl
      rw [if_neg (by omega), sumI_0]
    · rw [if_pos (by omega), hg (l - 1) (by omega) (by omega), show l - 1 + 1 = l by omega]
  have hts : ∀ m : Int, 0 ≤ m → m < tpZ S2 → htZ S2 m = S2.1 (q + 10) m := fun m m1 m2 => by
    have x := htZ_in zs ⟨m1, m2⟩
    rw [g0] at x
    have y := gl _ x.1.1 x.1.2
    have w := hh _ _ x.1.1 x.1.2 x.2.1.1 (by rw [← y.1]; exact x.2.1.2)
    rw [← em _ (by omega), x.2.2] at w
    rw [e (q + 10) (by omega) (by omega), w, ← y.2.1, ← y.2.2]
    rfl
  have e9 : S2.1 (q + 9) 1 = tpZ S2 := by rw [e (q + 9) (by omega) (by omega), hf, et]
  refine ⟨⟨?_, ?_, ?_, fun i i1 i2 => ?_, fun i i1 i2 => ?_, fun i i1 i2 => ?_, ?_⟩, ?_, fun l l1 l2 => ?_, ⟨?_, ?_, ?_, ?_⟩, fun k k1 k2 => ?_, fun t t1 t2 => ?_, e9.symm, fun l l1 l2 => ?_, hts⟩
  · rw [e (q + 1) (by omega) (by omega), b1]; exact a1
  · rw [e9]; exact tb
  · rw [e (q + 11) (by omega) (by omega), c1]; exact a2
  · rw [e (q + 1) (by omega) (by omega), b1] at i2
    rw [e (q + 2) (by omega) (by omega)]
    exact (hd i i1 i2).2.1
  · rw [e9] at i2
    rw [← hts i i1 i2]
    exact htZ_bd zs ⟨i1, i2⟩
  · rw [e (q + 11) (by omega) (by omega), c1] at i2
    rw [e (q + 12) (by omega) (by omega)]
    exact (he i i1 i2).2
  · rw [e q (by omega) (by omega), c2.1]; exact c2.2
  · rw [e q (by omega) (by omega), c3.1]; exact c3.2
  · by_cases hl : l ≤ V.1 90 4
    · rw [mp l l1 hl]
      have := mkZ_bd zs (l := l) (by omega)
      omega
    · unfold markP atV
      rw [e (q + 8) (by omega) (by omega)]
      by_cases h5 : 0 ≤ l - 1 ∧ l - 1 < ((5 : Nat) : Int)
      · rw [if_pos h5, hz (l - 1) (by omega) (by omega)]; omega
      · rw [if_neg h5]; omega
  · rw [g0, e (q + 1) (by omega) (by omega)]; exact b1.symm
  · rw [g1, e (q + 11) (by omega) (by omega)]; exact c1.symm
  · rw [g2, e q (by omega) (by omega)]; exact c2.1.symm
  · rw [g3, e q (by omega) (by omega)]; exact c3.1.symm
  · rw [g0] at k2
    have x := gl k k1 k2
    have y := (hd k k1 k2).2
    rw [e (q + 2) (by omega) (by omega), e (q + 4) (by omega) (by omega), e (q + 6) (by omega) (by omega)]
    exact ⟨x, by rw [x.2.1]; exact y.2.1, by rw [x.2.2]; exact y.2.2⟩
  · rw [g1] at t2
    rw [f4 t t1 (by omega), e (q + 12) (by omega) (by omega)]
    exact (he t t1 t2).1
  · rw [g0] at l2
    exact mp l l1 l2
/-- what stands when all is set anew -/
theorem zSet_at (V : Sg) : (zSet V).2 = V.2 ∧ (∀ a : Nat, ((a ≠ 88 ∧ a ≠ 90 ∧ a ≠ 91) ∧ (a ≠ 92 ∧ a ≠ 93 ∧ a ≠ 94) ∧ a ≠ 95 ∧ a ≠ 97) → (zSet V).1 a = V.1 a) ∧ (∀ j : Int, j ≠ 3 ∧ j ≠ 22 ∧ j ≠ 26 ∧ j ≠ 19 → (zSet V).1 88 j = V.1 88 j) ∧ ((zSet V).1 88 3 = 0 ∧ (zSet V).1 88 22 = 0 ∧ (zSet V).1 88 26 = 0 ∧ (zSet V).1 88 19 = 0) ∧ (∀ j : Int, 0 ≤ j → j < 4 → (zSet V).1 90 j = V.1 90 (4 + j)) ∧ (∀ k : Int, 0 ≤ k → k < 5 → (zSet V).1 91 k = V.1 91 (5 + k) ∧ (zSet V).1 92 k = V.1 92 (5 + k) ∧ (zSet V).1 93 k = V.1 93 (5 + k)) ∧ (∀ t : Int, 0 ≤ t → t < 4 → (zSet V).1 94 t = V.1 94 (4 + t)) ∧ (∀ k : Int, 0 ≤ k → k < 212 → (zSet V).1 95 k = 0) ∧ (zSet V).1 97 0 = 0 ∧ (zSet V).1 97 1 = 0 := by
  have fr : ∀ a : Nat, a ≠ 88 → a ≠ 97 → (zSet V).1 a = (zrS (sft (shS (sft V 90 4 4) 5) 94 4 4) 95 212).1 a := fun a h1 h2 => by
    unfold zSet
    rw [pt_ne _ _ _ h2, pt_ne _ _ _ h2, pt_ne _ _ _ h1, pt_ne _ _ _ h1, pt_ne _ _ _ h1, pt_ne _ _ _ h1]
  have f88 : (zrS (sft (shS (sft V 90 4 4) 5) 94 4 4) 95 212).1 88 = V.1 88 := by
    unfold zrS shS
    rw [aset_ne _ _ (by decide), sft_ne _ _ _ (by decide), sft_ne _ _ _ (by decide), sft_ne _ _ _ (by decide), sft_ne _ _ _ (by decide), sft_ne _ _ _ (by decide)]
  have fs : ∀ (S : Sg) (a : Nat) (o j : Int), (sft S a o j).1 a = sftF (S.1 a) o j := fun S a o j => by unfold sft; exact aset_eq _ _ _
  have sf : ∀ (g : Int → Int) (o j k : Int), 0 ≤ k → k < j → sftF g o j k = g (o + k) := fun g o j k h1 h2 => by unfold sftF; rw [if_pos ⟨h1, h2⟩]
  refine ⟨rfl, fun a ha => ?_, fun j hj => ?_, ⟨?_, ?_, ?_, ?_⟩, fun j j1 j2 => ?_, fun k k1 k2 => ⟨?_, ?_, ?_⟩, fun t t1 t2 => ?_, fun k k1 k2 => ?_, ?_, ?_⟩
  · rw [fr a (by omega) (by omega)]
    unfold zrS shS
    rw [aset_ne _ _ (by omega), sft_ne _ _ _ (by omega), sft_ne _ _ _ (by omega), sft_ne _ _ _ (by omega), sft_ne _ _ _ (by omega), sft_ne _ _ _ (by omega)]
  · unfold zSet
    rw [pt_ne _ _ _ (by omega), pt_ne _ _ _ (by omega), pt_eq, uF_ne _ _ (by omega), pt_eq, uF_ne _ _ (by omega), pt_eq, uF_ne _ _ (by omega), pt_eq, uF_ne _ _ (by omega), f88]
  · unfold zSet
    rw [pt_ne _ _ _ (by omega), pt_ne _ _ _ (by omega), pt_eq, uF_ne _ _ (by omega), pt_eq, uF_ne _ _ (by omega), pt_eq, uF_ne _ _ (by omega), pt_at]
  · unfold zSet
    rw [pt_ne _ _ _ (by omega), pt_ne _ _ _ (by omega), pt_eq, uF_ne _ _ (by omega), pt_eq, uF_ne _ _ (by omega), pt_at]
  · unfold zSet
    rw [pt_ne _ _ _ (by omega), pt_ne _ _ _ (by omega), pt_eq, uF_ne _ _ (by omega), pt_at]
  · unfold zSet
    rw [pt_ne _ _ _ (by omega), pt_ne _ _ _ (by omega), pt_at]
  · rw [fr 90 (by omega) (by omega)]
    unfold zrS shS
    rw [aset_ne _ _ (by omega), sft_ne _ _ _ (by omega), sft_ne _ _ _ (by omega), sft_ne _ _ _ (by omega), sft_ne _ _ _ (by omega), fs, sf _ _ _ _ j1 j2]
  · rw [fr 91 (by omega) (by omega)]
    unfold zrS shS
    rw [aset_ne _ _ (by omega), sft_ne _ _ _ (by omega), sft_ne _ _ _ (by omega), sft_ne _ _ _ (by omega), fs, sf _ _ _ _ k1 k2, sft_ne _ _ _ (by omega)]
  · rw [fr 92 (by omega) (by omega)]
    unfold zrS shS
    rw [aset_ne _ _ (by omega), sft_ne _ _ _ (by omega), sft_ne _ _ _ (by omega), fs, sf _ _ _ _ k1 k2, sft_ne _ _ _ (by omega), sft_ne _ _ _ (by omega)]
  · rw [fr 93 (by omega) (by omega)]
    unfold zrS shS
    rw [aset_ne _ _ (by omega), sft_ne _ _ _ (by omega), fs, sf _ _ _ _ k1 k2, sft_ne _ _ _ (by omega), sft_ne _ _ _ (by omega), sft_ne _ _ _ (by omega)]
  · rw [fr 94 (by omega) (by omega)]
    unfold zrS shS
    rw [aset_ne _ _ (by omega), fs, sf _ _ _ _ t1 t2, sft_ne _ _ _ (by omega), sft_ne _ _ _ (by omega), sft_ne _ _ _ (by omega), sft_ne _ _ _ (by omega)]
  · rw [fr 95 (by omega) (by omega)]
    unfold zrS
    rw [aset_eq]
    exact if_pos ⟨k1, k2⟩
  · unfold zSet
    rw [pt_eq, uF_ne _ _ (by omega), pt_at]
  · unfold zSet
    rw [pt_at]
theorem ldS_at (R : Sg) (p q : Nat) : (∀ a : Nat, ((a ≠ 2 ∧ a ≠ 3) ∧ (a < 31 ∨ 40 < a) ∧ (a ≠ 63 ∧ a ≠ 64) ∧ (a < 66 ∨ 71 < a) ∧ (a < 73 ∨ 76 < a) ∧ (a < 80 ∨ 85 < a)) → (ldS R p q).1 a = R.1 a) ∧ (ldS R p q).1 64 = fun _ => 0 := by
  unfold ldS dempty sbegin
  refine ⟨fun a ha => ?_, rfl⟩
  rw [rempty_ne _ (by omega) (by omega), rempty_ne _ (by omega) (by omega), rempty_ne _ (by omega) (by omega), rempty_ne _ (by omega) (by omega), rempty_ne _ (by omega) (by omega), rempty_ne _ (by omega) (by omega), rempty_ne _ (by omega) (by omega), rempty_ne _ (by omega) (by omega), rempty_ne _ (by omega) (by omega), rempty_ne _ (by omega) (by omega), rempty_ne _ (by omega) (by omega), rempty_ne _ (by omega) (by omega), rempty_ne _ (by omega) (by omega), rempty_ne _ (by omega) (by omega), rempty_ne _ (by omega) (by omega)]
  rfl
theorem wr_ld {R : Sg} (h : Wr R) (p q : Nat) : Wr (ldS R p q) := by
  unfold ldS dempty sbegin
  refine Wr.empty (k := 84) ?_ rfl
  refine Wr.empty (k := 82) ?_ rfl
  refine Wr.empty (k := 80) ?_ rfl
  refine Wr.empty (k := 75) ?_ rfl
  refine Wr.empty (k := 73) ?_ rfl
  refine Wr.empty (k := 70) ?_ rfl
  refine Wr.empty (k := 68) ?_ rfl
  refine Wr.empty (k := 66) ?_ rfl
  refine Wr.empty (k := 63) ?_ rfl
  refine Wr.empty (k := 39) ?_ rfl
  refine Wr.empty (k := 37) ?_ rfl
  refine Wr.empty (k := 35) ?_ rfl
  refine Wr.empty (k := 33) ?_ rfl
  refine Wr.empty (k := 31) ?_ rfl
  refine Wr.empty (k := 2) ?_ rfl
  exact h
theorem bits0 (t : Int) (h : 0 ≤ t ∧ t < 4) : bitI 0 t = 0 := by
  rcases (show t = 0 ∨ t = 1 ∨ t = 2 ∨ t = 3 by omega) with rfl | rfl | rfl | rfl <;> decide
/-- nothing but a plan -/
theorem Rp.new {c : Int} {S : Sg} {p q : Nat} (hpq : S.2.2 = (p, q) ∧ ((p = 4 ∧ q = 17) ∨ (p = 17 ∧ q = 4))) (hc : 0 ≤ c ∧ c ≤ 5000) (hw : Wr S) (hP : PLN S p) (h2 : S.1 2 1 = 0) (h30 : (S.1 32 = fun _ => 0) ∧ (S.1 34 = fun _ => 0) ∧ (S.1 36 = fun _ => 0) ∧ (S.1 38 = fun _ => 0) ∧ S.1 39 1 = 0) (h64 : S.1 64 = fun _ => 0) (h66 : S.1 66 1 = 0 ∧ S.1 68 1 = 0 ∧ S.1 70 1 = 0) (h73 : S.1 73 1 = 0 ∧ S.1 75 1 = 0) (h80 : S.1 80 1 = 0 ∧ S.1 82 1 = 0 ∧ S.1 84 1 = 0) (h88 : S.1 88 3 = 0 ∧ S.1 88 22 = 0 ∧ S.1 88 26 = 0 ∧ S.1 88 19 = 0) (h95 : ∀ k : Int, 0 ≤ k → k < 212 → S.1 95 k = 0) (h97 : S.1 97 0 = 0 ∧ S.1 97 1 = 0) (ht : S.2.1 88 = S.2.1 0) (hx : MSC S) : Rp c S p q := by
  have hN : NOW S (S.1 90 1) c := by
    refine ⟨⟨fun t t1 t2 => ⟨?_, ?_⟩, fun m m1 m2 => ⟨?_, ?_⟩, ?_, fun i i1 i2 => ?_⟩, ⟨⟨fun t t1 t2 => ⟨?_, Or.inl ?_, fun _ => ?_⟩, fun m m1 m2 => ⟨?_, ?_⟩, ?_, fun i i1 i2 => ?_⟩, ?_⟩⟩
    · show S.1 32 t = S.1 95 t
      rw [h30.1, h95 t t1 (by omega)]
    · show S.1 34 t = bitI (S.1 95 4) t
      rw [h30.2.1, h95 4 (by omega) (by omega), bits0 t ⟨t1, t2⟩]
    · show S.1 36 m = S.1 95 (12 + m)
      rw [h30.2.2.1, h95 _ (by omega) (by omega)]
    · show S.1 38 m = S.1 95 (112 + m)
      rw [h30.2.2.2.1, h95 _ (by omega) (by omega)]
    · show S.1 39 1 = S.1 95 5
      rw [h30.2.2.2.2, h95 _ (by omega) (by omega)]
    · change i < S.1 39 1 at i2
      rw [h30.2.2.2.2] at i2; omega
    · show 0 ≤ S.1 95 t ∧ S.1 95 t ≤ 100
      rw [h95 _ (by omega) (by omega)]; omega
    · show bitI (S.1 95 4) t = 0
      rw [h95 4 (by omega) (by omega), bits0 t ⟨t1, t2⟩]
    · show bitI (S.1 95 4) t = 0
      rw [h95 4 (by omega) (by omega), bits0 t ⟨t1, t2⟩]
    · show 0 ≤ S.1 95 (12 + m) ∧ S.1 95 (12 + m) ≤ c
      rw [h95 _ (by omega) (by omega)]; omega
    · show 0 ≤ S.1 95 (112 + m) ∧ S.1 95 (112 + m) ≤ c
      rw [h95 _ (by omega) (by omega)]; omega
    · show 0 ≤ S.1 95 5 ∧ S.1 95 5 ≤ 6
      rw [h95 _ (by omega) (by omega)]; omega
    · change i < S.1 95 5 at i2
      rw [h95 _ (by omega) (by omega)] at i2; omega
    · rw [h95 _ (by omega) (by omega)]; omega
  refine ⟨hpq, hc, hw, hP, ⟨⟨by rw [h2]; omega, fun j j1 j2 => by omega⟩, by rw [h88.1, h2], fun j j1 j2 => by omega⟩, hN, ⟨by omega, ⟨by omega, fun j j1 j2 => ?_, fun j j1 j2 => by omega⟩⟩, fun x x1 x2 => ?_, ⟨⟨by omega, fun i i1 i2 => by omega, fun i i1 i2 => by omega⟩, by omega, by omega, fun i i1 i2 => by omega⟩, ⟨⟨by omega, fun i i1 i2 => by omega⟩, by omega, by omega, by omega, fun i i1 i2 => by omega⟩, ht, hx⟩
  · have e : vv (S.1 66 1) (S.1 98) (S.1 95) j = S.1 95 := if_neg (by omega)
    rw [e]
    exact hN.2
  · have e : S.1 97 x = 0 := by
      rcases (show x = 0 ∨ x = 1 by omega) with rfl | rfl
      · exact h97.1
      · exact h97.2
    rw [e, h64]
    exact ⟨Or.inl rfl, rfl, fun k => by have k2 : (0 : Int) = 1 := k; omega⟩
theorem op_ladder (X : XT) {c : Int} {S : Sg} (hR : RI c S) (hc : c + 1 ≤ 5000) : OpI X 7 5 yX_ladder bX_ladder 3 yZ_ladder bZ_ladder 3 [.ref 0] [.ref 88] c S := by
  obtain ⟨p, q, h⟩ := hR
  have h' := h
  obtain ⟨g1, g2, gw, gP, gT, gN, gU, gI, gS, gM, gt, gX⟩ := h
  have hq : q = 4 ∨ q = 17 := by omega
  obtain ⟨ra, rb, rc1, rc2⟩ := rd_all gT.1 gw hq
  have hW := ra.2.1
  have hR : ∃ R, R = rdR q 122 0 (rd0 S q) := ⟨_, rfl⟩
  obtain ⟨R, hR⟩ := hR
  have cx := cX_ladder X h'.ci
  unfold xLadder at cx
  rw [← hR] at cx rb rc1 rc2 hW
  by_cases hneg : R.1 < 0
  · rw [if_pos hneg] at cx
    have hz : ZI R.2 := h'.zi.cg (fun a ha => rc2 a (by omega) (by omega))
    refine OpI.st (z := zLadder) cx (cZ_ladder X hz) ?_
    have hb := both_read (S := S) (S1 := R.2) hq gT (by rw [rc2 88 (by omega) (by omega)]) (rc2 89 (by omega) (by omega))
    rw [← hR] at hb
    have hb : 0 ≤ (zRd R.2).2.1 88 8 ∧ R.1 = -10 - (zRd R.2).2.1 88 8 := by
      rcases hb with hb | hb
      · exact hb.2
      · omega
    unfold zLadder
    rw [if_pos hb.1]
    refine ⟨hb.2.symm, ?_⟩
    obtain ⟨⟨F1, F2, F3, F4, F5, F6⟩, hZ⟩ := zRd_all hz
    have hV : ∃ V, V = (zRd R.2).2 := ⟨_, rfl⟩
    obtain ⟨V, hV⟩ := hV
    rw [← hV] at F1 F2 F3 F4 F5 F6 hZ ⊢
    have fr : ∀ a : Nat, a ≠ 1 → (a < q ∨ q + 12 < a) → (a ≠ 88 ∧ a ≠ 90 ∧ a ≠ 91 ∧ a ≠ 92 ∧ a ≠ 93 ∧ a ≠ 94) → V.1 a = S.1 a := fun a h1 h2 h3 => (F2 a h3).trans (rc2 a h1 h2)
    have f88 : ∀ j : Int, (j < 4 ∨ (8 < j ∧ j ≠ 10)) → V.1 88 j = S.1 88 j := fun j hj => by rw [F3 j hj, rc2 88 (by omega) (by omega)]
    have f90 : ∀ j : Int, j < 4 → V.1 90 j = S.1 90 j := fun j hj => by rw [F4 j hj, rc2 90 (by omega) (by omega)]
    have e1 : V.1 90 1 = S.1 90 1 := f90 1 (by omega)
    have gt' : V.2.1 88 = V.2.1 0 := by rw [F1, rc1]; exact gt
    refine ⟨p, q, ⟨by rw [F1, rc1]; exact g1.1, g1.2⟩, ⟨by omega, hc⟩, hW.cg (fun k hk => F2 k ?_), gP.cgz (fun a a1 a2 => fr a (by omega) (by omega) (by omega)) f90 (fun j hj => ?_) (fun j hj => by rw [F6 j hj, rc2 94 (by omega) (by omega)]), gT.cg (fr 2 (by omega) (by omega) (by omega)) (fr 3 (by omega) (by omega) (by omega)) (f88 3 (by omega)) (fr 89 (by omega) (by omega) (by omega)), ?_, ?_, ?_, gS.cg (fun a a1 a2 => fr a (by omega) (by omega) (by omega)) (f88 22 (by omega)) (fr 99 (by omega) (by omega) (by omega)) (fr 100 (by omega) (by omega) (by omega)) (fr _ (by omega) (by omega) (by omega)) (fr _ (by omega) (by omega) (by omega)), gM.cg (fun a a1 a2 => fr a (by omega) (by omega) (by omega)) (f88 26 (by omega)) (fr 101 (by omega) (by omega) (by omega)) (fr 102 (by omega) (by omega) (by omega)) (fr 103 (by omega) (by omega) (by omega)) (fr _ (by omega) (by omega) (by omega)), gt', ?_⟩
    · refine ⟨?_, ?_, ?_, ?_, ?_, ?_⟩ <;> · intro e; rw [e] at hk; exact absurd hk (by decide)
    · rw [(F5 j hj).1, (F5 j hj).2.1, (F5 j hj).2.2, rc2 91 (by omega) (by omega), rc2 92 (by omega) (by omega), rc2 93 (by omega) (by omega)]
      exact ⟨rfl, rfl, rfl⟩
    · rw [e1]; exact (gN.cg (fun a a1 a2 => fr a (by omega) (by omega) (by omega)) (fr 95 (by omega) (by omega) (by omega))).mono (by omega)
    · rw [e1]; exact (gU.cg (fun a a1 a2 => fr a (by omega) (by omega) (by omega)) (f88 19 (by omega)) (fr 95 (by omega) (by omega) (by omega)) (fr 98 (by omega) (by omega) (by omega))).mono (by omega)
    · rw [e1]; exact (gI.cg (fun a a1 a2 => fr a (by omega) (by omega) (by omega)) (fr 96 (by omega) (by omega) (by omega)) (fr 97 (by omega) (by omega) (by omega))).mono (by omega)
    · obtain ⟨⟨_, _, _, _, t6, t5, t7⟩, _⟩ := hZ
      exact ⟨by rw [f88 0 (by omega)]; exact gX.1, t5, t6, t7⟩
  · rw [if_neg hneg] at cx
    have hL : ∃ L, L = ldS R.2 p q := ⟨_, rfl⟩
    obtain ⟨L, hL⟩ := hL
    have la := ldS_at R.2 p q
    have lw := wr_ld hW p q
    have l2 : L.1 2 1 = 0 := by rw [hL]; rfl
    have l30 : (L.1 32 = fun _ => 0) ∧ (L.1 34 = fun _ => 0) ∧ (L.1 36 = fun _ => 0) ∧ (L.1 38 = fun _ => 0) ∧ L.1 39 1 = 0 := by rw [hL]; exact ⟨rfl, rfl, rfl, rfl, rfl⟩
    have l66 : L.1 66 1 = 0 ∧ L.1 68 1 = 0 ∧ L.1 70 1 = 0 := by rw [hL]; exact ⟨rfl, rfl, rfl⟩
    have l73 : L.1 73 1 = 0 ∧ L.1 75 1 = 0 := by rw [hL]; exact ⟨rfl, rfl⟩
    have l80 : L.1 80 1 = 0 ∧ L.1 82 1 = 0 ∧ L.1 84 1 = 0 := by rw [hL]; exact ⟨rfl, rfl, rfl⟩
    have lp : L.2 = (R.2.2.1, (q, p)) := by rw [hL]; rfl
    rw [← hL] at cx la lw
    have hz : ZI L := h'.zi.cg (fun a ha => (la.1 a (by omega)).trans (rc2 a (by omega) (by omega)))
    refine OpI.st (z := zLadder) cx (cZ_ladder X hz) ?_
    have hb := both_read (S := S) (S1 := L) hq gT (by rw [la.1 88 (by omega), rc2 88 (by omega) (by omega)]) (by rw [la.1 89 (by omega), rc2 89 (by omega) (by omega)])
    rw [← hR] at hb
    have hb : (zRd L).1 = R.1 ∧ (zRd L).2.1 88 8 < 0 ∧ PD R.2 (zRd L).2 q := by
      rcases hb with hb | hb
      · omega
      · exact hb.2
    show (zLadder L).1 = R.1 ∧ RI (c + 1) (zLadder L).2
    unfold zLadder
    rw [if_neg (by omega)]
    refine ⟨hb.1, ?_⟩
    obtain ⟨⟨F1, F2, F3, F4, F5, F6⟩, hZ⟩ := zRd_all hz
    have hV : ∃ V, V = (zRd L).2 := ⟨_, rfl⟩
    obtain ⟨V, hV⟩ := hV
    rw [← hV] at F1 F2 F3 F4 F5 F6 hZ hb ⊢
    obtain ⟨s1, s2, s3, s4, s5, s6, s7, s8, s9, s10⟩ := zSet_at V
    have fr : ∀ a : Nat, ((a ≠ 88 ∧ a ≠ 90 ∧ a ≠ 91) ∧ (a ≠ 92 ∧ a ≠ 93 ∧ a ≠ 94) ∧ a ≠ 95 ∧ a ≠ 97) → (zSet V).1 a = L.1 a := fun a ha => (s2 a ha).trans (F2 a (by omega))
    have kk : ∀ k b : Nat, kd k = 3 → kd b ≠ 3 → k ≠ b := fun k b h1 h2 e => h2 (e ▸ h1)
    refine ⟨q, p, Rp.new ⟨by rw [s1, F1, lp], by omega⟩ ⟨by omega, hc⟩ (lw.cg (fun k hk => fr k ⟨⟨kk k 88 hk (by decide), kk k 90 hk (by decide), kk k 91 hk (by decide)⟩, ⟨kk k 92 hk (by decide), kk k 93 hk (by decide), kk k 94 hk (by decide)⟩, kk k 95 hk (by decide), kk k 97 hk (by decide)⟩)) (PLN.new hb.2.2 (fun a a1 a2 => (fr a (by omega)).trans (la.1 a (by omega))) s5 s6 s7) (by rw [fr 2 (by omega)]; exact l2) ?_ (by rw [fr 64 (by omega)]; exact la.2) ?_ ?_ ?_ s4 s8 ⟨s9, s10⟩ (by rw [s1, F1, lp, rc1]; exact gt) ?_⟩
    · rw [fr 32 (by omega), fr 34 (by omega), fr 36 (by omega), fr 38 (by omega), fr 39 (by omega)]; exact l30
    · rw [fr 66 (by omega), fr 68 (by omega), fr 70 (by omega)]; exact l66
    · rw [fr 73 (by omega), fr 75 (by omega)]; exact l73
    · rw [fr 80 (by omega), fr 82 (by omega), fr 84 (by omega)]; exact l80
    · obtain ⟨⟨_, _, _, _, t6, t5, t7⟩, _⟩ := hZ
      refine ⟨?_, by rw [s3 5 (by omega)]; exact t5, by rw [s3 6 (by omega)]; exact t6, by rw [s3 7 (by omega)]; exact t7⟩
      rw [s3 0 (by omega), F3 0 (by omega), la.1 88 (by omega), rc2 88 (by omega) (by omega)]
      exact gX.1
