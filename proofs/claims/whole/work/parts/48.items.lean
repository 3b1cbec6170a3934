/-! the two readers tell the same plan -/
def PD (U V : Sg) (q : Nat) : Prop := ((0 ≤ V.1 90 4 ∧ V.1 90 4 ≤ 5) ∧ (0 ≤ V.1 90 5 ∧ V.1 90 5 ≤ 4) ∧ (0 ≤ V.1 88 10 ∧ V.1 88 10 ≤ 3)) ∧ (U.1 (q + 1) 1 = V.1 90 4 ∧ U.1 (q + 3) 1 = V.1 90 4 ∧ U.1 (q + 5) 1 = V.1 90 4 ∧ U.1 (q + 7) 1 = V.1 90 4) ∧ (U.1 (q + 11) 1 = V.1 90 5 ∧ (U.1 q 6 = V.1 90 6 ∧ 1 ≤ V.1 90 6 ∧ V.1 90 6 ≤ 9) ∧ (U.1 q 7 = V.1 90 7 ∧ 2 ≤ V.1 90 7 ∧ V.1 90 7 ≤ 9) ∧ (U.1 1 5 = V.1 88 10 % 2 ∧ U.1 1 6 = V.1 88 10 / 2 % 2)) ∧ (∀ k : Int, 0 ≤ k → k < V.1 90 4 → (V.1 91 (5 + k) = U.1 (q + 2) k ∧ V.1 92 (5 + k) = U.1 (q + 4) k ∧ V.1 93 (5 + k) = U.1 (q + 6) k) ∧ (1 ≤ U.1 (q + 2) k ∧ U.1 (q + 2) k ≤ 20) ∧ (1 ≤ U.1 (q + 4) k ∧ U.1 (q + 4) k ≤ 20) ∧ (-3 ≤ U.1 (q + 6) k ∧ U.1 (q + 6) k ≤ 3)) ∧ (∀ t : Int, 0 ≤ t → t < V.1 90 5 → V.1 94 (4 + t) = U.1 (q + 12) t ∧ 1 ≤ U.1 (q + 12) t ∧ U.1 (q + 12) t ≤ 99) ∧ U.1 (q + 9) 1 = sumI (U.1 (q + 2)) (V.1 90 4) ∧ (∀ k : Int, 0 ≤ k → k < V.1 90 4 → U.1 (q + 8) k = sumI (U.1 (q + 2)) (k + 1)) ∧ (∀ k : Int, V.1 90 4 ≤ k → k < 5 → U.1 (q + 8) k = 0) ∧ ∀ k j : Int, 0 ≤ k → k < V.1 90 4 → 0 ≤ j → j < U.1 (q + 2) k → U.1 (q + 10) (sumI (U.1 (q + 2)) k + j) = max 1 (U.1 (q + 4) k + j * U.1 (q + 6) k)
theorem PD.cg {U V U' V' : Sg} {q : Nat} (h : PD U V q) (e : ∀ a : Nat, q ≤ a → a ≤ q + 12 → U'.1 a = U.1 a) (e5 : U'.1 1 5 = U.1 1 5) (e6 : U'.1 1 6 = U.1 1 6) (f : ∀ a : Nat, 90 ≤ a → a ≤ 94 → V'.1 a = V.1 a) (f10 : V'.1 88 10 = V.1 88 10) : PD U' V' q := by
  unfold PD at *
  rw [e q (by omega) (by omega), e (q + 1) (by omega) (by omega), e (q + 2) (by omega) (by omega), e (q + 3) (by omega) (by omega), e (q + 4) (by omega) (by omega), e (q + 5) (by omega) (by omega), e (q + 6) (by omega) (by omega), e (q + 7) (by omega) (by omega), e (q + 8) (by omega) (by omega), e (q + 9) (by omega) (by omega), e (q + 10) (by omega) (by omega), e (q + 11) (by omega) (by omega), e (q + 12) (by omega) (by omega), e5, e6, f 90 (by omega) (by omega), f 91 (by omega) (by omega), f 92 (by omega) (by omega), f 93 (by omega) (by omega), f 94 (by omega) (by omega), f10]
  exact h
theorem hpush_at {S : Sg} {p : Nat} (r b : Int) {top : Int} (h : S.1 (p + 9) 1 = top) (hl : ln (p + 10) = 100) (h0 : 0 ≤ top) : ∀ m : Nat, top + m ≤ 100 → (hpush S p r b m).1 (p + 9) 1 = top + m ∧ (∀ j : Int, 0 ≤ j → j < m → (hpush S p r b m).1 (p + 10) (top + j) = max 1 (r + j * b)) ∧ ∀ i : Int, i < top → (hpush S p r b m).1 (p + 10) i = S.1 (p + 10) i
  | 0, _ => ⟨by show S.1 (p + 9) 1 = _; omega, fun j _ _ => by omega, fun _ _ => rfl⟩
  | m + 1, hm => by
    have ih := hpush_at r b h hl h0 m (by omega)
    have a := rpush_at (S := hpush S p r b m) (k := p + 9) (max 1 (r + (m : Int) * b)) (by rw [ih.1, show p + 9 + 1 = p + 10 from rfl, hl]; omega)
    rw [ih.1] at a
    refine ⟨by show (rpush _ _ _).1 (p + 9) 1 = _; rw [a.1]; omega, fun j j1 j2 => ?_, fun i hi => ?_⟩
    · show (rpush _ _ _).1 (p + 9 + 1) _ = _
      by_cases e : j = m
      · rw [e]; exact a.2.1
      · rw [a.2.2 _ (by omega)]
        exact ih.2.1 j j1 (by omega)
    · show (rpush _ _ _).1 (p + 9 + 1) _ = _
      rw [a.2.2 _ (by omega)]
      exact ih.2.2 i hi
theorem padd_at {S : Sg} {p : Nat} (hp : kd p = 2) {n r b ns top : Int} (h1 : S.1 (p + 1) 1 = ns ∧ S.1 (p + 3) 1 = ns ∧ S.1 (p + 5) 1 = ns ∧ S.1 (p + 7) 1 = ns) (hns : 0 ≤ ns ∧ ns < 5) (h9 : S.1 (p + 9) 1 = top) (h0 : 0 ≤ top) (hn : 0 ≤ n) (ht : top + n ≤ 100) : ((padd S p n r b).1 (p + 1) 1 = ns + 1 ∧ (padd S p n r b).1 (p + 3) 1 = ns + 1 ∧ (padd S p n r b).1 (p + 5) 1 = ns + 1 ∧ (padd S p n r b).1 (p + 7) 1 = ns + 1) ∧ ((padd S p n r b).1 (p + 2) = uF (S.1 (p + 2)) ns n ∧ (padd S p n r b).1 (p + 4) = uF (S.1 (p + 4)) ns r ∧ (padd S p n r b).1 (p + 6) = uF (S.1 (p + 6)) ns b ∧ (padd S p n r b).1 (p + 8) = uF (S.1 (p + 8)) ns (top + n)) ∧ (padd S p n r b).1 (p + 9) 1 = top + n ∧ (∀ j : Int, 0 ≤ j → j < n → (padd S p n r b).1 (p + 10) (top + j) = max 1 (r + j * b)) ∧ ∀ i : Int, i < top → (padd S p n r b).1 (p + 10) i = S.1 (p + 10) i := by
  obtain ⟨k1, k3, k5, k7, k9, k11, l2, l4, l6, l8, l10, l12⟩ := plan_ok hp
  obtain ⟨e1, e3, e5, e7⟩ := h1
  have hA : ∃ A, A = rpush (rpush (rpush S (p + 1) n) (p + 3) r) (p + 5) b := ⟨_, rfl⟩
  obtain ⟨A, hA⟩ := hA
  have r1 := rpush_in (S := S) (k := p + 1) n (by rw [e1, show p + 1 + 1 = p + 2 from rfl, l2]; omega)
  have b3 : (rpush S (p + 1) n).1 (p + 3) = S.1 (p + 3) := rpush_ne _ _ (by omega) (by omega)
  have r3 := rpush_in (S := rpush S (p + 1) n) (k := p + 3) r (by rw [b3, e3, show p + 3 + 1 = p + 4 from rfl, l4]; omega)
  have b5 : (rpush (rpush S (p + 1) n) (p + 3) r).1 (p + 5) = S.1 (p + 5) := by rw [rpush_ne _ _ (by omega) (by omega), rpush_ne _ _ (by omega) (by omega)]
  have r5 := rpush_in (S := rpush (rpush S (p + 1) n) (p + 3) r) (k := p + 5) b (by rw [b5, e5, show p + 5 + 1 = p + 6 from rfl, l6]; omega)
  have a1 : A.1 (p + 1) 1 = ns + 1 := by rw [hA, rpush_ne _ _ (by omega) (by omega), rpush_ne _ _ (by omega) (by omega), r1, pt_at, e1]
  have a2 : A.1 (p + 2) = uF (S.1 (p + 2)) ns n := by rw [hA, rpush_ne _ _ (by omega) (by omega), rpush_ne _ _ (by omega) (by omega), r1, pt_ne _ _ _ (by omega), e1]; exact pt_eq _ _ _ _
  have a3 : A.1 (p + 3) 1 = ns + 1 := by rw [hA, rpush_ne _ _ (by omega) (by omega), r3, pt_at, b3, e3]
  have a4 : A.1 (p + 4) = uF (S.1 (p + 4)) ns r := by
    rw [hA, rpush_ne _ _ (by omega) (by omega), r3, pt_ne _ _ _ (by omega), b3, e3]
    show (pt (rpush S (p + 1) n) (p + 4) ns r).1 (p + 4) = _
    rw [pt_eq, rpush_ne _ _ (by omega) (by omega)]
  have a5 : A.1 (p + 5) 1 = ns + 1 := by rw [hA, r5, pt_at, b5, e5]
  have a6 : A.1 (p + 6) = uF (S.1 (p + 6)) ns b := by
    rw [hA, r5, pt_ne _ _ _ (by omega), b5, e5]
    show (pt (rpush (rpush S (p + 1) n) (p + 3) r) (p + 6) ns b).1 (p + 6) = _
    rw [pt_eq, rpush_ne _ _ (by omega) (by omega), rpush_ne _ _ (by omega) (by omega)]
  have aa : ∀ a : Nat, (a < p + 1 ∨ p + 6 < a) → A.1 a = S.1 a := fun a ha => by rw [hA, rpush_ne _ _ (by omega) (by omega), rpush_ne _ _ (by omega) (by omega), rpush_ne _ _ (by omega) (by omega)]
  have hh := hpush_at (S := A) (p := p) r b (top := top) (by rw [aa _ (by omega)]; exact h9) l10 h0 n.toNat (by omega)
  have e0 : padd0 S p n r b = hpush A p r b n.toNat := by unfold padd0; rw [hA]
  have b7 : (padd0 S p n r b).1 (p + 7) 1 = ns := by rw [e0, hpush_ne _ _ _ _ (by omega) (by omega), aa _ (by omega)]; exact e7
  have b9 : (padd0 S p n r b).1 (p + 9) 1 = top + n := by rw [e0, hh.1]; omega
  have r7 := rpush_in (S := padd0 S p n r b) (k := p + 7) (top + n) (by rw [b7, show p + 7 + 1 = p + 8 from rfl, l8]; omega)
  have eP : padd S p n r b = pt (pt (padd0 S p n r b) (p + 8) ns (top + n)) (p + 7) 1 (ns + 1) := by
    unfold padd
    rw [b9, r7, b7]
  have fr : ∀ a : Nat, a ≠ p + 7 → a ≠ p + 8 → a ≠ p + 9 → a ≠ p + 10 → (padd S p n r b).1 a = A.1 a := fun a h1 h2 h3 h4 => by
    rw [eP, pt_ne _ _ _ h1, pt_ne _ _ _ h2, e0, hpush_ne _ _ _ _ h3 h4]
  have f10 : (padd S p n r b).1 (p + 10) = (hpush A p r b n.toNat).1 (p + 10) := by rw [eP, pt_ne _ _ _ (by omega), pt_ne _ _ _ (by omega), e0]
  refine ⟨⟨?_, ?_, ?_, ?_⟩, ⟨?_, ?_, ?_, ?_⟩, ?_, fun j j1 j2 => ?_, fun i hi => ?_⟩
  · rw [fr _ (by omega) (by omega) (by omega) (by omega)]; exact a1
  · rw [fr _ (by omega) (by omega) (by omega) (by omega)]; exact a3
  · rw [fr _ (by omega) (by omega) (by omega) (by omega)]; exact a5
  · rw [eP, pt_at]
  · rw [fr _ (by omega) (by omega) (by omega) (by omega)]; exact a2
  · rw [fr _ (by omega) (by omega) (by omega) (by omega)]; exact a4
  · rw [fr _ (by omega) (by omega) (by omega) (by omega)]; exact a6
  · rw [eP, pt_ne _ _ _ (by omega), pt_eq, e0, hpush_ne _ _ _ _ (by omega) (by omega), aa _ (by omega)]
  · rw [eP, pt_ne _ _ _ (by omega), pt_ne _ _ _ (by omega)]; exact b9
  · rw [f10]; exact hh.2.1 j j1 (by omega)
  · rw [f10, hh.2.2 i hi, aa _ (by omega)]
theorem sumI_u {f : Int → Int} {ns n k : Int} (h : k ≤ ns) : sumI (uF f ns n) k = sumI f k := sumI_congr (fun j _ j2 => uF_ne _ _ (by omega))
theorem PD.le {U V : Sg} {q : Nat} (h : PD U V q) {k : Int} (hk : 0 ≤ k ∧ k ≤ V.1 90 4) : k ≤ sumI (U.1 (q + 2)) k ∧ sumI (U.1 (q + 2)) k ≤ 20 * k := by
  have h4 := h.2.2.2.1
  have key : ∀ m : Nat, (m : Int) ≤ V.1 90 4 → (m : Int) ≤ sumI (U.1 (q + 2)) m ∧ sumI (U.1 (q + 2)) m ≤ 20 * m := by
    intro m
    induction m with
    | zero => intro _; rw [show ((0 : Nat) : Int) = 0 from rfl, sumI_0]; omega
    | succ m ih =>
      intro hm
      have h1 := ih (by omega)
      have h2 := (h4 m (by omega) (by omega)).2.1
      rw [show ((m + 1 : Nat) : Int) = (m : Int) + 1 from rfl, sumI_s _ (by omega)]
      omega
  have := key k.toNat (by omega)
  rwa [Int.toNat_of_nonneg hk.1] at this
theorem PD.add {U V V' : Sg} {q : Nat} (hq : kd q = 2) (h : PD U V q) {n r b : Int} (hns : V.1 90 4 < 5) (hn : 1 ≤ n ∧ n ≤ 20) (hr : 1 ≤ r ∧ r ≤ 20) (hb : -3 ≤ b ∧ b ≤ 3) (hq1 : 1 < q) (f90 : V'.1 90 = uF (V.1 90) 4 (V.1 90 4 + 1)) (f91 : V'.1 91 = uF (V.1 91) (5 + V.1 90 4) n) (f92 : V'.1 92 = uF (V.1 92) (5 + V.1 90 4) r) (f93 : V'.1 93 = uF (V.1 93) (5 + V.1 90 4) b) (f94 : V'.1 94 = V.1 94) (f10 : V'.1 88 10 = V.1 88 10) : PD (padd U q n r b) V' q := by
  have hle := h.le (k := V.1 90 4) ⟨h.1.1.1, Int.le_refl _⟩
  obtain ⟨⟨p1, p2, p3⟩, p4, ⟨p5, p6, p7, p8⟩, p9, p10, p11, p12, p13, p14⟩ := h
  have w := padd_at (S := U) hq (n := n) (r := r) (b := b) (ns := V.1 90 4) (top := sumI (U.1 (q + 2)) (V.1 90 4)) p4 (by omega) p11 (by omega) (by omega) (by omega)
  obtain ⟨w1, ⟨w2, w3, w4, w5⟩, w6, w7, w8⟩ := w
  have g4 : V'.1 90 4 = V.1 90 4 + 1 := by rw [f90, uF_eq]
  have g5 : V'.1 90 5 = V.1 90 5 := by rw [f90, uF_ne _ _ (by omega)]
  have g6 : V'.1 90 6 = V.1 90 6 := by rw [f90, uF_ne _ _ (by omega)]
  have g7 : V'.1 90 7 = V.1 90 7 := by rw [f90, uF_ne _ _ (by omega)]
  have en : sumI (uF (U.1 (q + 2)) (V.1 90 4) n) (V.1 90 4 + 1) = sumI (U.1 (q + 2)) (V.1 90 4) + n := by
    rw [sumI_s _ p1.1, sumI_u (Int.le_refl _), uF_eq]
  have fr : ∀ a : Nat, (a < q + 1 ∨ q + 10 < a) → (padd U q n r b).1 a = U.1 a := fun a ha => padd_ne _ _ _ _ _ ha
  unfold PD
  rw [g4, g5, g6, g7, f91, f92, f93, f94, f10, fr (q + 11) (by omega), fr (q + 12) (by omega), fr q (by omega), fr 1 (by omega), w1.1, w1.2.1, w1.2.2.1, w1.2.2.2, w2, w3, w4, w5, w6]
  refine ⟨⟨by omega, p2, p3⟩, ⟨rfl, rfl, rfl, rfl⟩, ⟨p5, p6, p7, p8⟩, fun k k1 k2 => ?_, p10, en.symm, fun k k1 k2 => ?_, fun k k1 k2 => ?_, fun k j k1 k2 j1 j2 => ?_⟩
  · by_cases e : k = V.1 90 4
    · rw [e, uF_eq, uF_eq, uF_eq, uF_eq, uF_eq, uF_eq]
      exact ⟨⟨rfl, rfl, rfl⟩, hn, hr, hb⟩
    · rw [uF_ne _ _ (by omega), uF_ne _ _ (by omega), uF_ne _ _ (by omega), uF_ne _ _ (by omega), uF_ne _ _ (by omega), uF_ne _ _ (by omega)]
      exact p9 k k1 (by omega)
  · by_cases e : k = V.1 90 4
    · rw [e, uF_eq, en]
    · rw [uF_ne _ _ e, sumI_u (by omega)]
      exact p12 k k1 (by omega)
  · rw [uF_ne _ _ (by omega)]
    exact p13 k (by omega) k2
  · by_cases e : k = V.1 90 4
    · rw [e, uF_eq] at j2
      rw [e, sumI_u (Int.le_refl _), uF_eq, uF_eq]
      exact w7 j j1 j2
    · rw [uF_ne _ _ e] at j2
      rw [sumI_u (by omega), uF_ne _ _ e, uF_ne _ _ e]
      have hs : sumI (U.1 (q + 2)) k + j < sumI (U.1 (q + 2)) (V.1 90 4) := by
        have h1 := sumI_split (U.1 (q + 2)) (a := k + 1) (n := V.1 90 4) (by omega)
        have h2 := sumI_bd (f := fun i => U.1 (q + 2) (k + 1 + i)) (B := 20) (n := V.1 90 4 - (k + 1)) (by omega) (fun i i1 i2 => by
          have := (p9 (k + 1 + i) (by omega) (by omega)).2.1
          omega)
        rw [sumI_s _ k1] at h1
        omega
      rw [w8 _ hs]
      exact p14 k j k1 (by omega) j1 j2
