/-! the text tells all anew, in both -/
def FZ (V V' : Sg) : Prop := V'.2 = V.2 ∧ (∀ a : Nat, (a ≠ 88 ∧ a ≠ 90 ∧ a ≠ 91 ∧ a ≠ 92 ∧ a ≠ 93 ∧ a ≠ 94) → V'.1 a = V.1 a) ∧ (∀ j : Int, (j < 4 ∨ (8 < j ∧ j ≠ 10)) → V'.1 88 j = V.1 88 j) ∧ (∀ j : Int, j < 4 → V'.1 90 j = V.1 90 j) ∧ (∀ j : Int, j < 5 → V'.1 91 j = V.1 91 j ∧ V'.1 92 j = V.1 92 j ∧ V'.1 93 j = V.1 93 j) ∧ ∀ j : Int, j < 4 → V'.1 94 j = V.1 94 j
theorem FZ.rf (V : Sg) : FZ V V := ⟨rfl, fun _ _ => rfl, fun _ _ => rfl, fun _ _ => rfl, fun _ _ => ⟨rfl, rfl, rfl⟩, fun _ _ => rfl⟩
theorem FZ.tr {V V' V'' : Sg} (h : FZ V V') (k : FZ V' V'') : FZ V V'' := ⟨k.1.trans h.1, fun a ha => (k.2.1 a ha).trans (h.2.1 a ha), fun j hj => (k.2.2.1 j hj).trans (h.2.2.1 j hj), fun j hj => (k.2.2.2.1 j hj).trans (h.2.2.2.1 j hj), fun j hj => ⟨(k.2.2.2.2.1 j hj).1.trans (h.2.2.2.2.1 j hj).1, (k.2.2.2.2.1 j hj).2.1.trans (h.2.2.2.2.1 j hj).2.1, (k.2.2.2.2.1 j hj).2.2.trans (h.2.2.2.2.1 j hj).2.2⟩, fun j hj => (k.2.2.2.2.2 j hj).trans (h.2.2.2.2.2 j hj)⟩
theorem pt_c (V : Sg) (a b : Nat) (k x j : Int) (h : a = b → j ≠ k) : (pt V a k x).1 b j = V.1 b j := by
  by_cases e : b = a
  · subst e
    rw [pt_eq, uF_ne _ _ (h rfl)]
  · rw [pt_ne _ _ _ e]
theorem FZ.put (V : Sg) {a : Nat} {k : Int} (x : Int) (h : (a = 88 ∧ ((4 ≤ k ∧ k ≤ 8) ∨ k = 10)) ∨ (a = 90 ∧ 4 ≤ k) ∨ ((a = 91 ∨ a = 92 ∨ a = 93) ∧ 5 ≤ k) ∨ (a = 94 ∧ 4 ≤ k)) : FZ V (pt V a k x) := by
  refine ⟨rfl, fun b hb => pt_ne _ _ _ (by omega), fun j hj => pt_c _ _ _ _ _ _ (fun e => by omega), fun j hj => pt_c _ _ _ _ _ _ (fun e => by omega), fun j hj => ⟨pt_c _ _ _ _ _ _ (fun e => by omega), pt_c _ _ _ _ _ _ (fun e => by omega), pt_c _ _ _ _ _ _ (fun e => by omega)⟩, fun j hj => pt_c _ _ _ _ _ _ (fun e => by omega)⟩
theorem FZ.av (V : Sg) : FZ V (avS V) := ⟨rfl, fun a ha => avS_ne V ha.1, fun j hj => avS_hi V (by omega), fun j _ => by rw [avS_ne V (by decide)], fun j _ => by rw [avS_ne V (by decide), avS_ne V (by decide), avS_ne V (by decide)]; exact ⟨rfl, rfl, rfl⟩, fun j _ => by rw [avS_ne V (by decide)]⟩
theorem FZ.tk (V : Sg) (b : Int) : FZ V (tkZ V b).2 := by
  unfold tkZ
  split
  · exact FZ.rf V
  · split
    · exact FZ.put V _ (by omega)
    · exact FZ.av V
theorem FZ.nm (V : Sg) (l m : Int) : FZ V (nmZ V l m).2 := by
  unfold nmZ
  split <;> exact FZ.tk V _
theorem FZ.n (V : Sg) {a : Nat} {k : Int} (l m : Int) (h : (a = 90 ∧ 4 ≤ k) ∨ ((a = 91 ∨ a = 92 ∨ a = 93) ∧ 5 ≤ k) ∨ (a = 94 ∧ 4 ≤ k)) : FZ V (zN V a k l m) := (FZ.nm V l m).tr (FZ.put _ _ (by omega))
theorem FZ.item {V : Sg} (hm : MB V) (x : Int) : FZ V (zItem V x) := by
  have h4 := hm.1.1
  have h5 := hm.2.1.1
  unfold zItem
  split
  · have a : FZ V (zS2 V) := (FZ.n V 1 20 (a := 91) (k := 5 + V.1 90 4) (by omega)).tr (FZ.n _ 1 20 (a := 92) (by omega))
    have b : FZ V (zS3 V) := (a.tr (FZ.nm _ 0 6)).tr (FZ.put _ _ (a := 93) (by omega))
    exact b.tr (FZ.put _ _ (by omega))
  · split
    · exact (FZ.n V 1 99 (a := 94) (by omega)).tr (FZ.put _ _ (by omega))
    · split
      · exact (FZ.n V 1 9 (a := 90) (k := 6) (by omega)).tr (FZ.put _ _ (by omega))
      · exact (FZ.n V 2 9 (a := 90) (k := 7) (by omega)).tr (FZ.put _ _ (by omega))
theorem FZ.k3 {V : Sg} (hm : MB V) : FZ V (zK3 V) := by
  have a : FZ V (zK1 V).2 ∧ MB (zK1 V).2 := by
    unfold zK1
    split
    · exact ⟨FZ.tk V 1, hm.tk 1⟩
    · exact ⟨FZ.tk V 0, hm.tk 0⟩
  have b : FZ V (zK2 V) := by
    unfold zK2
    split
    · exact a.1.tr (FZ.item a.2 _)
    · exact a.1
  unfold zK3
  split
  · exact b.tr (FZ.tk _ _)
  · exact b.tr (FZ.tk _ _)
theorem loop_all : ∀ (n : Nat) (it : Int) (V : Sg), RZ V → MB V → FZ V (zLoop n it V).2 ∧ RZ (zLoop n it V).2
  | 0, _, V, h, _ => ⟨FZ.rf V, h⟩
  | n + 1, it, V, h, hm => by
    rw [zLoop]
    by_cases hc : 0 ≤ V.1 88 8 ∨ V.1 88 5 = 0
    · rw [if_pos hc]; exact ⟨FZ.rf V, h⟩
    · rw [if_neg hc]
      obtain ⟨a1, a2, a3, a4, a5⟩ := zK_all h hm (by omega) (by omega)
      have ih := loop_all n (it + 1) (zK3 V) a4.1 a4.2
      exact ⟨(FZ.k3 hm).tr ih.1, ih.2⟩
theorem FZ.beg (V : Sg) : FZ V (avS (zBeg (pt (pt V 88 8 (-1)) 88 4 0))) := by
  have a : FZ V (pt (pt V 88 8 (-1)) 88 4 0) := (FZ.put V (-1) (a := 88) (k := 8) (by omega)).tr (FZ.put _ 0 (a := 88) (k := 4) (by omega))
  have b : FZ (pt (pt V 88 8 (-1)) 88 4 0) (zBeg (pt (pt V 88 8 (-1)) 88 4 0)) := by
    unfold zBeg
    exact ((((FZ.put _ 0 (a := 88) (k := 10) (by omega)).tr (FZ.put _ 0 (a := 90) (k := 4) (by omega))).tr (FZ.put _ 0 (a := 90) (k := 5) (by omega))).tr (FZ.put _ 3 (a := 90) (k := 6) (by omega))).tr (FZ.put _ 3 (a := 90) (k := 7) (by omega))
  exact (a.tr b).tr (FZ.av _)
theorem zRd_all {S : Sg} (hZ : ZI S) : FZ S (zRd S).2 ∧ RZ (zRd S).2 := by
  have hB := zBeg_all hZ
  have h := loop_all 122 0 _ hB.1 hB.2
  exact ⟨(FZ.beg S).tr h.1, h.2⟩
/-- the plan that stands: its numbers alone count -/
theorem hz_cg {S S' : Sg} (hz : ZS S) (h : ∀ k : Int, k < 5 → S'.1 91 k = S.1 91 k) {m : Int} (hm : m < tpZ S) : ∀ (n : Nat) (k r : Int), 0 ≤ k → k ≤ S.1 90 0 → 0 ≤ r → mkZ S k + r = m → hzF (S'.1 91) n k r = hzF (S.1 91) n k r
  | 0, _, _, _, _, _, _ => rfl
  | n + 1, k, r, h1, h2, h3, h4 => by
    have hk : k < S.1 90 0 := by
      by_cases hk : k = S.1 90 0
      · rw [hk] at h4; unfold tpZ at hm; omega
      · omega
    have h0 := hz.1
    rw [hzF, hzF, h k (by omega)]
    by_cases hc : S.1 91 k ≤ r
    · rw [if_pos hc, if_pos hc]
      refine hz_cg hz h hm n (k + 1) (r - S.1 91 k) (by omega) (by omega) (by omega) ?_
      unfold mkZ at h4 ⊢
      rw [sumI_s _ h1]
      omega
    · rw [if_neg hc, if_neg hc]
theorem PLN.zs {S : Sg} {p : Nat} (h : PLN S p) : ZS S := by
  obtain ⟨⟨o1, o2, o3, o4, o5, o6, o7⟩, a2, a3, ⟨b0, b1, b2, b3⟩, a5, a6, a7, a8, a9⟩ := h
  refine ⟨by omega, fun k k1 k2 => ?_⟩
  have h := a5 k k1 k2
  have h2 := o4 k k1 (by omega)
  rw [h.1.1]
  exact ⟨h2, h.2⟩
theorem PLN.cgz {S S' : Sg} {p : Nat} (h : PLN S p) (e : ∀ a : Nat, p ≤ a → a ≤ p + 12 → S'.1 a = S.1 a) (f0 : ∀ j : Int, j < 4 → S'.1 90 j = S.1 90 j) (f1 : ∀ j : Int, j < 5 → S'.1 91 j = S.1 91 j ∧ S'.1 92 j = S.1 92 j ∧ S'.1 93 j = S.1 93 j) (f4 : ∀ j : Int, j < 4 → S'.1 94 j = S.1 94 j) : PLN S' p := by
  have hz := h.zs
  have h0 := hz.1
  have o3 := h.1.2.2.1
  have b1 := h.2.2.2.1.2.1
  have m1 : ∀ l : Int, l ≤ 5 → mkZ S' l = mkZ S l := fun l hl => sumI_congr (fun j j1 j2 => (f1 j (by omega)).1)
  have m2 : tpZ S' = tpZ S := by unfold tpZ; rw [f0 0 (by omega), m1 _ (by omega)]
  have m3 : ∀ m : Int, 0 ≤ m → m < tpZ S → htZ S' m = htZ S m := fun m k1 k2 => by
    have hh := hz_cg (S' := S') hz (fun k hk => (f1 k hk).1) k2 6 0 m (by omega) (by omega) k1 (by unfold mkZ; rw [sumI_0]; omega)
    have hi := htZ_in hz ⟨k1, k2⟩
    unfold htZ
    rw [hh, (f1 _ (by omega)).2.1, (f1 _ (by omega)).2.2]
  obtain ⟨o, a2, a3, ⟨b0, b1, b2, b3⟩, a5, a6, a7, a8, a9⟩ := h
  have em : ∀ l : Int, markP S' p l = markP S p l := fun l => by unfold markP; rw [e (p + 8) (by omega) (by omega)]
  refine ⟨?_, by rw [e p (by omega) (by omega)]; exact a2, fun l l1 l2 => by rw [em]; exact a3 l l1 l2, ⟨?_, ?_, ?_, ?_⟩, fun k k1 k2 => ?_, fun t t1 t2 => ?_, ?_, fun l l1 l2 => ?_, fun m k1 k2 => ?_⟩
  · unfold planOk at *
    rw [e p (by omega) (by omega), e (p + 1) (by omega) (by omega), e (p + 2) (by omega) (by omega), e (p + 9) (by omega) (by omega), e (p + 10) (by omega) (by omega), e (p + 11) (by omega) (by omega), e (p + 12) (by omega) (by omega)]
    exact o
  · rw [f0 0 (by omega), e (p + 1) (by omega) (by omega)]; exact b0
  · rw [f0 1 (by omega), e (p + 11) (by omega) (by omega)]; exact b1
  · rw [f0 2 (by omega), e p (by omega) (by omega)]; exact b2
  · rw [f0 3 (by omega), e p (by omega) (by omega)]; exact b3
  · rw [f0 0 (by omega)] at k2
    have g := f1 k (by omega)
    rw [g.1, g.2.1, g.2.2, e (p + 2) (by omega) (by omega), e (p + 4) (by omega) (by omega), e (p + 6) (by omega) (by omega)]
    exact a5 k k1 k2
  · rw [f0 1 (by omega)] at t2
    rw [f4 t (by omega), e (p + 12) (by omega) (by omega)]
    exact a6 t t1 t2
  · rw [m2, e (p + 9) (by omega) (by omega)]; exact a7
  · rw [f0 0 (by omega)] at l2
    rw [em, m1 l (by omega)]
    exact a8 l l1 l2
  · rw [m2] at k2
    rw [m3 m k1 k2, e (p + 10) (by omega) (by omega)]
    exact a9 m k1 k2
/-! as it begins -/
theorem rempty_z (S : Sg) (k : Nat) : (rempty S k).1 k 1 = 0 ∧ (rempty S k).1 (k + 1) = fun _ => 0 := by
  unfold rempty
  refine ⟨pt_at _ _ _ _, ?_⟩
  rw [pt_ne _ _ _ (by omega), aset_eq]
theorem pbegin_at (S : Sg) (q : Nat) : ((pbegin S q).1 (q + 1) 1 = 0 ∧ (pbegin S q).1 (q + 3) 1 = 0 ∧ (pbegin S q).1 (q + 5) 1 = 0 ∧ (pbegin S q).1 (q + 7) 1 = 0) ∧ ((pbegin S q).1 (q + 9) 1 = 0 ∧ (pbegin S q).1 (q + 11) 1 = 0) ∧ ((pbegin S q).1 q 6 = 3 ∧ (pbegin S q).1 q 7 = 3) ∧ (pbegin S q).1 (q + 8) = fun _ => 0 := by
  unfold pbegin
  refine ⟨⟨?_, ?_, ?_, ?_⟩, ⟨?_, ?_⟩, ⟨?_, ?_⟩, ?_⟩
  · rw [pt_ne _ _ _ (by omega), pt_ne _ _ _ (by omega), rempty_ne _ (by omega) (by omega), rempty_ne _ (by omega) (by omega), rempty_ne _ (by omega) (by omega), rempty_ne _ (by omega) (by omega), rempty_ne _ (by omega) (by omega)]; exact (rempty_z _ _).1
  · rw [pt_ne _ _ _ (by omega), pt_ne _ _ _ (by omega), rempty_ne _ (by omega) (by omega), rempty_ne _ (by omega) (by omega), rempty_ne _ (by omega) (by omega), rempty_ne _ (by omega) (by omega)]; exact (rempty_z _ _).1
  · rw [pt_ne _ _ _ (by omega), pt_ne _ _ _ (by omega), rempty_ne _ (by omega) (by omega), rempty_ne _ (by omega) (by omega), rempty_ne _ (by omega) (by omega)]; exact (rempty_z _ _).1
  · rw [pt_ne _ _ _ (by omega), pt_ne _ _ _ (by omega), rempty_ne _ (by omega) (by omega), rempty_ne _ (by omega) (by omega)]; exact (rempty_z _ _).1
  · rw [pt_ne _ _ _ (by omega), pt_ne _ _ _ (by omega), rempty_ne _ (by omega) (by omega)]; exact (rempty_z _ _).1
  · rw [pt_ne _ _ _ (by omega), pt_ne _ _ _ (by omega)]; exact (rempty_z _ _).1
  · rw [pt_eq, uF_ne _ _ (by omega), pt_at]
  · exact pt_at _ _ _ _
  · rw [pt_ne _ _ _ (by omega), pt_ne _ _ _ (by omega), rempty_ne _ (by omega) (by omega), rempty_ne _ (by omega) (by omega)]; exact (rempty_z _ (q + 7)).2
theorem Zt.st {U V : Sg} {i : Int} (hs : ST U V) (h4 : V.1 88 4 = i) (hi : 0 ≤ i ∧ i ≤ U.1 2 1) (h8 : V.1 88 8 < 0) : Zt U (avS V) i := by
  obtain ⟨hl, h3, H⟩ := hs
  refine ⟨hi, ?_, ?_, ?_, fun hk => ?_, ?_⟩
  · rw [avS_4, h3, h4]; exact (lE_c H hi).symm
  · rw [avS_5, h3, h4]; exact (zTok_c H hi).symm
  · rw [avS_6, h3, h4]; exact (lS_c H hi.1).symm
  · rw [avS_7, h3, h4]; exact zVal_c H hi hk _ _
  · rw [avS_hi _ (by omega)]; exact h8
theorem both_read {S S1 : Sg} {q : Nat} (hq : q = 4 ∨ q = 17) (hT : TXT S) (e3 : S1.1 88 3 = S.1 88 3) (e9 : S1.1 89 = S.1 89) : ((rdR q 122 0 (rd0 S q)).1 < 0 ∧ 0 ≤ (zRd S1).2.1 88 8 ∧ (rdR q 122 0 (rd0 S q)).1 = -10 - (zRd S1).2.1 88 8) ∨ (0 ≤ (rdR q 122 0 (rd0 S q)).1 ∧ (zRd S1).1 = (rdR q 122 0 (rd0 S q)).1 ∧ (zRd S1).2.1 88 8 < 0 ∧ PD (rdR q 122 0 (rd0 S q)).2 (zRd S1).2 q) := by
  have hU0 : ∃ U0, U0 = pt (pt (pt (pbegin S q) 1 1 0) 1 5 0) 1 6 0 := ⟨_, rfl⟩
  obtain ⟨U0, hU0⟩ := hU0
  have hV0 : ∃ V0, V0 = zBeg (pt (pt S1 88 8 (-1)) 88 4 0) := ⟨_, rfl⟩
  obtain ⟨V0, hV0⟩ := hV0
  have u2 : U0.1 2 = S.1 2 := by rw [hU0, pt_ne _ _ _ (by decide), pt_ne _ _ _ (by decide), pt_ne _ _ _ (by decide), pbegin_ne _ _ (by omega)]
  have u3 : U0.1 3 = S.1 3 := by rw [hU0, pt_ne _ _ _ (by decide), pt_ne _ _ _ (by decide), pt_ne _ _ _ (by decide), pbegin_ne _ _ (by omega)]
  have u11 : U0.1 1 1 = 0 := by rw [hU0, pt_eq, uF_ne _ _ (by omega), pt_eq, uF_ne _ _ (by omega), pt_at]
  have u15 : U0.1 1 5 = 0 := by rw [hU0, pt_eq, uF_ne _ _ (by omega), pt_at]
  have u16 : U0.1 1 6 = 0 := by rw [hU0, pt_at]
  have uq : ∀ a : Nat, a ≠ 1 → U0.1 a = (pbegin S q).1 a := fun a ha => by rw [hU0, pt_ne _ _ _ ha, pt_ne _ _ _ ha, pt_ne _ _ _ ha]
  have v3 : V0.1 88 3 = S.1 88 3 := by rw [hV0]; exact e3
  have v9 : V0.1 89 = S.1 89 := by rw [hV0]; exact e9
  have v4 : V0.1 88 4 = 0 := by rw [hV0]; rfl
  have v8 : V0.1 88 8 = -1 := by rw [hV0]; rfl
  have v10 : V0.1 88 10 = 0 := by rw [hV0]; rfl
  have w4 : V0.1 90 4 = 0 := by rw [hV0]; rfl
  have w5 : V0.1 90 5 = 0 := by rw [hV0]; rfl
  have w6 : V0.1 90 6 = 3 := by rw [hV0]; rfl
  have w7 : V0.1 90 7 = 3 := by rw [hV0]; rfl
  obtain ⟨⟨t1, t2⟩, t3, t4⟩ := hT
  have hST : ST U0 V0 := by
    unfold ST ltOk
    rw [u2, u3, v3, v9]
    exact ⟨⟨t1, t2⟩, t3, fun j j1 j2 => (t4 j j1 j2).symm⟩
  have hZt : Zt U0 (avS V0) 0 := Zt.st hST v4 ⟨Int.le_refl _, by rw [u2]; exact t1.1⟩ (by rw [v8]; decide)
  have hHs : Hs U0 (avS V0) 0 := ⟨hST.av, hZt, u11⟩
  have pb := pbegin_at S q
  have hPD : PD U0 V0 q := by
    unfold PD
    rw [w4, w5, w6, w7, v10, u15, u16, uq q (by omega), uq (q + 1) (by omega), uq (q + 2) (by omega), uq (q + 3) (by omega), uq (q + 4) (by omega), uq (q + 5) (by omega), uq (q + 6) (by omega), uq (q + 7) (by omega), uq (q + 8) (by omega), uq (q + 9) (by omega), uq (q + 10) (by omega), uq (q + 11) (by omega), uq (q + 12) (by omega)]
    refine ⟨by omega, pb.1, ⟨pb.2.1.2, ⟨pb.2.2.1.1, by omega⟩, ⟨pb.2.2.1.2, by omega⟩, by omega⟩, fun k k1 k2 => by omega, fun t t1 t2 => by omega, by rw [sumI_0]; exact pb.2.1.1, fun k k1 k2 => by omega, fun k k1 k2 => by rw [pb.2.2.2], fun k j k1 k2 => by omega⟩
  have h := rd_z hq 122 0 0 (nxS U0) (avS V0) hHs.sy (hPD.nx (by omega)).av (Int.le_refl _) (Int.le_refl _) (by rw [(nx_23 U0).1, u2]; omega)
  have e1 : rd0 S q = nxS U0 := by rw [hU0]; rfl
  have e2 : zRd S1 = zLoop 122 0 (avS V0) := by rw [hV0]; rfl
  rw [e1, e2]
  exact h
