/-! measures agree: both halves alike -/
theorem lc_le (S : Sg) : ∀ N s : Nat, s < N → hgO S (s : Int) = 1 → lcZ S N ≤ cstZ S (s : Int)
  | N + 1, s, hs, ho => by
    rw [lcZ]
    by_cases e : s = N
    · subst e
      by_cases hc : hgO S (s : Int) = 1 ∧ cstZ S (s : Int) < lcZ S s
      · rw [if_pos hc]; exact Int.le_refl _
      · rw [if_neg hc]; omega
    · have ih := lc_le S N s (by omega) ho
      split
      · omega
      · exact ih
theorem lc_ex (S : Sg) : ∀ N : Nat, lcZ S N = 1000000000 ∨ ∃ s : Nat, s < N ∧ hgO S (s : Int) = 1 ∧ lcZ S N = cstZ S (s : Int)
  | 0 => Or.inl rfl
  | N + 1 => by
    rw [lcZ]
    by_cases hc : hgO S (N : Int) = 1 ∧ cstZ S (N : Int) < lcZ S N
    · rw [if_pos hc]; exact Or.inr ⟨N, by omega, hc.1, rfl⟩
    · rw [if_neg hc]
      rcases lc_ex S N with h | ⟨s, h1, h2⟩
      · exact Or.inl h
      · exact Or.inr ⟨s, by omega, h2⟩
theorem cstZ_eq (S : Sg) (s : Int) : cstZ S s = cst (S.1 101) (S.1 102) (S.1 103) (hgZ S s).1 (S.1 88 26).toNat := rfl
theorem frOk.gr {S : Sg} (h : frOk S) : grOk (S.1 101) (S.1 102) (S.1 88 26).toNat := fun k hk => by
  have := h.2 k (by omega) (by have := h.1; omega)
  omega
theorem least_eq {S : Sg} (h : frOk S) : (∀ y : Int → Int, (∀ k : Nat, k < (S.1 88 26).toNat → y k = -1 ∨ y k = 0 ∨ y k = 1) → (∀ l : Int, 0 ≤ l → l ≤ 5 → bal (S.1 101) (S.1 102) y (S.1 88 26).toNat l = 0) → sumF (fun k => y k * S.1 103 k) (S.1 88 26).toNat ≤ lcZ S (2 ^ (S.1 88 26).toNat)) ∧ ∃ y : Int → Int, (∀ k : Nat, k < (S.1 88 26).toNat → y k = -1 ∨ y k = 0 ∨ y k = 1) ∧ (∀ l : Int, 0 ≤ l → l ≤ 5 → bal (S.1 101) (S.1 102) y (S.1 88 26).toNat l = 0) ∧ sumF (fun k => y k * S.1 103 k) (S.1 88 26).toNat = lcZ S (2 ^ (S.1 88 26).toNat) := by
  have hg := h.gr
  have h0 := h.1
  obtain ⟨w, hw, hsp⟩ := best (fr := S.1 101) (to := S.1 102) (am := S.1 103) (S.1 88 26).toNat
  obtain ⟨y, y1, y2, y3⟩ := strong hg hw
  have hs : ∃ s : Nat, (s : Int) = bsF (krC (S.1 101) (S.1 102) (S.1 103) w) (S.1 88 26).toNat := ⟨(bsF (krC (S.1 101) (S.1 102) (S.1 103) w) (S.1 88 26).toNat).toNat, Int.toNat_of_nonneg (bs_bd (krC01 _ _ _ _) _).1⟩
  obtain ⟨s, hs⟩ := hs
  have hsl : s < 2 ^ (S.1 88 26).toNat := by
    have := (bs_bd (krC01 (S.1 101) (S.1 102) (S.1 103) w) (S.1 88 26).toNat).2
    rw [← hs] at this
    have e := Int.natCast_pow 2 (S.1 88 26).toNat
    have e2 : ((2 : Nat) : Int) = 2 := rfl
    rw [e2] at e
    omega
  have hZ : hgZ S (s : Int) = ((krF (S.1 101) (S.1 102) (S.1 103) w (S.1 88 26).toNat).1, (krF (S.1 101) (S.1 102) (S.1 103) w (S.1 88 26).toNat).2, 1) := hg_kr _ _ _ _ (n := (S.1 88 26).toNat) (fun j hj => by rw [hs]; exact bs_bit (krC01 _ _ _ _) _ j hj) _ (Nat.le_refl _)
  have hO : hgO S (s : Int) = 1 := by
    unfold hgO
    rw [hZ]
    exact if_pos ⟨rfl, wh_of _ hsp⟩
  have hC : cstZ S (s : Int) = cst (S.1 101) (S.1 102) (S.1 103) w (S.1 88 26).toNat := by
    rw [cstZ_eq, hZ]
    refine sF_c _ (fun k hk => ?_)
    have := kr_pot (S.1 101) (S.1 102) (S.1 103) w (S.1 88 26).toNat (S.1 102 k) (S.1 101 k) (hsp k hk).symm
    show absI ((krF (S.1 101) (S.1 102) (S.1 103) w (S.1 88 26).toNat).1 (S.1 102 k) - (krF (S.1 101) (S.1 102) (S.1 103) w (S.1 88 26).toNat).1 (S.1 101 k) - S.1 103 k) = absI (w (S.1 102 k) - w (S.1 101 k) - S.1 103 k)
    rw [this]
  have hB : cstZ S (s : Int) < 1000000000 := by
    have := sumI_bd (f := csZ S (hgZ S s).1) (B := 64000000) (n := S.1 88 26) h.1.1 (fun i i1 i2 => csZ_bd h hO ⟨i1, i2⟩)
    change 0 ≤ cstZ S (s : Int) ∧ cstZ S (s : Int) ≤ 64000000 * S.1 88 26 at this
    omega
  have hle := lc_le S _ s hsl hO
  have hge : ∀ y : Int → Int, (∀ k : Nat, k < (S.1 88 26).toNat → y k = -1 ∨ y k = 0 ∨ y k = 1) → (∀ l : Int, 0 ≤ l → l ≤ 5 → bal (S.1 101) (S.1 102) y (S.1 88 26).toNat l = 0) → sumF (fun k => y k * S.1 103 k) (S.1 88 26).toNat ≤ lcZ S (2 ^ (S.1 88 26).toNat) := by
    intro y a b
    rcases lc_ex S (2 ^ (S.1 88 26).toNat) with e | ⟨s', e1, e2, e3⟩
    · have := weak (am := S.1 103) (w := w) hg a b
      omega
    · rw [e3, cstZ_eq]
      exact weak hg a b
  refine ⟨hge, y, y1, y2, ?_⟩
  have := hge y y1 y2
  omega
/-! the class's side -/
def tsF (f : Nat → Int) : Nat → Int
  | 0 => 0
  | n + 1 => tsF f n + (f n + 1) * 3 ^ n
theorem ts_bd {f : Nat → Int} : ∀ n : Nat, (∀ k : Nat, k < n → f k = -1 ∨ f k = 0 ∨ f k = 1) → 0 ≤ tsF f n ∧ tsF f n < 3 ^ n
  | 0, _ => by show (0 : Int) ≤ 0 ∧ (0 : Int) < 1; omega
  | n + 1, h => by
    have ih := ts_bd n (fun k hk => h k (by omega))
    show 0 ≤ tsF f n + (f n + 1) * 3 ^ n ∧ tsF f n + (f n + 1) * 3 ^ n < 3 ^ (n + 1)
    rw [Int.pow_succ]
    rcases h n (by omega) with e | e | e <;> rw [e] <;> omega
theorem ts_dg {f : Nat → Int} : ∀ n : Nat, (∀ k : Nat, k < n → f k = -1 ∨ f k = 0 ∨ f k = 1) → ∀ j : Nat, j < n → wayI (tsF f n) j = f j
  | n + 1, h, j, hj => by
    have hb := ts_bd n (fun k hk => h k (by omega))
    have hp : (0 : Int) < 3 ^ j := Int.pow_pos (by decide)
    by_cases e : j = n
    · subst e
      show (tsF f j + (f j + 1) * 3 ^ j) / 3 ^ j % 3 - 1 = f j
      rw [Int.add_mul_ediv_right _ _ (by omega), Int.ediv_eq_zero_of_lt hb.1 hb.2]
      rcases h j (by omega) with e | e | e <;> rw [e] <;> rfl
    · have ih := ts_dg n (fun k hk => h k (by omega)) j (by omega)
      unfold wayI at ih ⊢
      have e2 : (f n + 1) * 3 ^ n = 3 * ((f n + 1) * 3 ^ (n - 1 - j)) * 3 ^ j := by
        have e3 : (3 : Int) ^ n = 3 ^ (n - 1 - j) * 3 * 3 ^ j := by
          rw [← Int.pow_succ, ← Int.pow_add]
          congr 1
          omega
        rw [e3, Int.mul_comm 3 ((f n + 1) * _), Int.mul_assoc, Int.mul_assoc, Int.mul_assoc]
      show (tsF f n + (f n + 1) * 3 ^ n) / 3 ^ j % 3 - 1 = f j
      rw [e2, Int.add_mul_ediv_right _ _ (by omega)]
      omega
theorem bF_bal {fr to : Int → Int} (c : Int) : ∀ n : Nat, grOk fr to n → ∀ l : Int, bF fr to c n l = bal fr to (fun k => wayI c k.toNat) n l
  | 0, _, _ => rfl
  | n + 1, h, l => by
    have ih := bF_bal (fr := fr) (to := to) c n (fun k hk => h k (by omega))
    have hn := h n (by omega)
    rw [bF]
    show _ = bal fr to (fun k => wayI c k.toNat) n l + wayI c (n : Int).toNat * (iv (to n) l - iv (fr n) l)
    rw [← ih l, Int.toNat_natCast]
    unfold iv
    by_cases h1 : l = to n
    · subst h1
      rw [uF_eq, uF_ne _ _ (Ne.symm hn.2.2), if_pos rfl, if_neg hn.2.2]
      omega
    · rw [uF_ne _ _ h1, if_neg (Ne.symm h1)]
      by_cases h2 : l = fr n
      · subst h2
        rw [uF_eq, if_pos rfl]
        omega
      · rw [uF_ne _ _ h2, if_neg (Ne.symm h2)]
        omega
theorem gapS_sum (S : Sg) (c : Int) : ∀ n : Nat, gapS S c n = sumF (fun k => wayI c k.toNat * S.1 85 k) n
  | 0 => rfl
  | n + 1 => by
    show gapS S c n + wayI c n * S.1 85 (n : Int) = sumF _ n + wayI c (n : Int).toNat * S.1 85 (n : Int)
    rw [gapS_sum S c n, Int.toNat_natCast]
theorem mx_ge (S : Sg) : ∀ N c : Nat, c < N → gapV S (c : Int) ≤ mxF S N
  | N + 1, c, h => by
    show _ ≤ max (mxF S N) (gapV S (N : Int))
    by_cases e : c = N
    · subst e; omega
    · have := mx_ge S N c (by omega)
      omega
theorem mx_ex (S : Sg) : ∀ N : Nat, mxF S N = 0 ∨ ∃ c : Nat, c < N ∧ mxF S N = gapV S (c : Int)
  | 0 => Or.inl rfl
  | N + 1 => by
    show max (mxF S N) (gapV S (N : Int)) = 0 ∨ ∃ c : Nat, c < N + 1 ∧ max (mxF S N) (gapV S (N : Int)) = gapV S (c : Int)
    by_cases h : mxF S N ≤ gapV S (N : Int)
    · exact Or.inr ⟨N, by omega, by omega⟩
    · rcases mx_ex S N with e | ⟨c, e1, e2⟩
      · exact Or.inl (by omega)
      · exact Or.inr ⟨c, by omega, by omega⟩
theorem mx_bst (S : Sg) (f : Int → Int) : ∀ N : Nat, mxF (bst S f) N = mxF S N
  | 0 => rfl
  | N + 1 => by
    show max (mxF (bst S f) N) (gapV (bst S f) (N : Int)) = max (mxF S N) (gapV S (N : Int))
    rw [mx_bst S f N, gapV_bst]
theorem agree_eq {S : Sg} {p : Nat} (hM : MEA S p) (hO : frOk S) : mxF S (3 ^ measN S) = lcZ S (2 ^ (S.1 88 26).toNat) := by
  obtain ⟨⟨m1, m2⟩, _, _, m5, m6⟩ := hM
  have en : measN S = (S.1 88 26).toNat := by unfold measN; rw [m5]
  rw [en]
  obtain ⟨h1, y, y1, y2, y3⟩ := least_eq hO
  have hn : ∃ n, n = (S.1 88 26).toNat := ⟨_, rfl⟩
  obtain ⟨n, hn⟩ := hn
  rw [← hn] at h1 y1 y2 y3 ⊢
  have hcell : ∀ k : Nat, k < n → S.1 101 k = S.1 81 k ∧ S.1 102 k = S.1 83 k ∧ S.1 103 k = S.1 85 k := fun k hk => by
    have := m6 k (by omega) (by omega)
    exact ⟨this.1, this.2.1, this.2.2.1⟩
  have hg : grOk (S.1 81) (S.1 83) n := fun k hk => by
    have := m2 k (by omega) (by omega)
    omega
  have ebal : ∀ (y : Int → Int) (l : Int), bal (S.1 81) (S.1 83) y n l = bal (S.1 101) (S.1 102) y n l := fun y l => sF_c n (fun k hk => by rw [(hcell k hk).1, (hcell k hk).2.1])
  have eam : ∀ y : Int → Int, sumF (fun k => y k * S.1 85 k) n = sumF (fun k => y k * S.1 103 k) n := fun y => sF_c n (fun k hk => by rw [(hcell k hk).2.2])
  have hgap : ∀ c : Int, gapV S c ≤ lcZ S (2 ^ n) := by
    intro c
    have hz : 0 ≤ lcZ S (2 ^ n) := by
      have := h1 (fun _ => 0) (fun _ _ => by omega) (fun l _ _ => sF_0 n (fun k _ => by show (0 : Int) * _ = 0; omega))
      rw [sF_0 n (fun k _ => by show (0 : Int) * _ = 0; omega)] at this
      exact this
    by_cases hb : bz (bF (S.1 81) (S.1 83) c (measN S))
    · rw [gapV_pos hb, en, ← hn, gapS_sum, eam (fun k => wayI c k.toNat)]
      rw [en, ← hn] at hb
      refine h1 (fun k => wayI c k.toNat) (fun k _ => by have := wayI_bd c (k : Int).toNat; omega) (fun l l1 l2 => ?_)
      rw [← ebal, ← bF_bal c n hg]
      obtain ⟨b0, b1, b2, b3, b4, b5⟩ := hb
      rcases (show l = 0 ∨ l = 1 ∨ l = 2 ∨ l = 3 ∨ l = 4 ∨ l = 5 by omega) with rfl | rfl | rfl | rfl | rfl | rfl <;> assumption
    · rw [gapV_neg hb]; exact hz
  have hle : mxF S (3 ^ n) ≤ lcZ S (2 ^ n) := by
    rcases mx_ex S (3 ^ n) with e | ⟨c, _, e⟩
    · rw [e]
      have h2 := hgap 0
      have := h1 (fun _ => 0) (fun _ _ => by omega) (fun l _ _ => sF_0 n (fun k _ => by show (0 : Int) * _ = 0; omega))
      rw [sF_0 n (fun k _ => by show (0 : Int) * _ = 0; omega)] at this
      exact this
    · rw [e]; exact hgap c
  have hc : ∃ c : Nat, (c : Int) = tsF (fun k => y k) n := ⟨(tsF (fun k => y k) n).toNat, Int.toNat_of_nonneg (ts_bd n y1).1⟩
  obtain ⟨c, hc⟩ := hc
  have hcl : c < 3 ^ n := by
    have := (ts_bd (f := fun k => y k) n y1).2
    rw [← hc] at this
    have e := Int.natCast_pow 3 n
    have e2 : ((3 : Nat) : Int) = 3 := rfl
    rw [e2] at e
    omega
  have hway : ∀ k : Nat, k < n → wayI (c : Int) k = y k := fun k hk => by rw [hc]; exact ts_dg n y1 k hk
  have hge : gapV S (c : Int) = lcZ S (2 ^ n) := by
    have hb : bz (bF (S.1 81) (S.1 83) (c : Int) (measN S)) := by
      rw [en, ← hn]
      refine bz_of (fun l l1 l2 => ?_)
      rw [bF_bal _ n hg, ebal, ← y2 l l1 l2]
      exact sF_c n (fun k hk => by dsimp only; rw [Int.toNat_natCast, hway k hk])
    rw [gapV_pos hb, en, ← hn, gapS_sum, ← y3, ← eam y]
    exact sF_c n (fun k hk => by rw [Int.toNat_natCast, hway k hk])
  have := mx_ge S (3 ^ n) c hcl
  omega
theorem Rp.fro {c : Int} {S : Sg} {p q : Nat} (h : Rp c S p q) : frOk S := by
  have hz := h.zi
  obtain ⟨z0, zt, ztx, zm0, zm1, zm2, zm3, zst, ztr, zat, zsy, zth, ztg, zwr, zun, zkp, zse, zsk, zme, zmk, zl5, zl6, zl7⟩ := hz
  exact ⟨zme, zmk⟩
theorem op_agree (X : XT) {c : Int} {S : Sg} (hR : RI c S) (hc : c + 1 ≤ 5000) {x : Int} (hx : -2147483648 ≤ x ∧ x ≤ 2147483647) : OpI X 6 6 yX_agree bX_agree 2 yZ_agree bZ_agree 4 [.ref 0, .int (iI x)] [.ref 88, .int (iI x)] c S := by
  obtain ⟨p, q, h⟩ := hR
  have hpq := h.pq
  have h' := h
  have hO := h.fro
  obtain ⟨g1, g2, gw, gP, gT, gN, gU, gI, gS, gM, gt, gX⟩ := h
  have b0 := gP.2.2.2.1.1
  have a8 := gP.2.2.2.2.2.2.2.1
  have o1 := gP.1.1
  have hml : ∀ k : Int, 0 ≤ k → k < S.1 88 26 → S.1 102 k ≤ S.1 90 0 := fun k k1 k2 => by
    have := gM.2.2.2.2 k k1 (by rw [← gM.2.2.2.1]; exact k2)
    omega
  refine ⟨_, cX_agree X h'.ci hx, fun r S1 hP => ?_⟩
  rcases hP with ⟨hx0, hr, f, hS1⟩ | ⟨hx1, hr, hS1⟩ | ⟨hxx, hr, hS1⟩
  · subst hS1
    have fr : ∀ a : Nat, a ≠ 86 → a ≠ 87 → (bst S f).1 a = S.1 a := fun a h1 h2 => bst_ne S f h1 h2
    have hM1 : MEA (bst S f) p := gM.cg (fun a a1 a2 => fr a (by omega) (by omega)) (by rw [fr 88 (by omega) (by omega)]) (fr _ (by omega) (by omega)) (fr _ (by omega) (by omega)) (fr _ (by omega) (by omega)) (fr _ (by omega) (by omega))
    have hO1 : frOk (bst S f) := by
      unfold frOk at hO ⊢
      rw [fr 88 (by omega) (by omega), fr 101 (by omega) (by omega), fr 102 (by omega) (by omega), fr 103 (by omega) (by omega)]
      exact hO
    refine ⟨_, cZ_agree X (h'.zi.cg (fun a ha => fr a (by omega) (by omega))) (by rw [fr 88 (by omega) (by omega), fr 102 (by omega) (by omega), fr 90 (by omega) (by omega)]; exact hml) hx, fun r' S2 hQ => ?_⟩
    rcases hQ with ⟨_, hr', f', g', hS2⟩ | ⟨hx1, _⟩ | ⟨hxx, _⟩
    · have e := agree_eq hM1 hO1
      rw [mx_bst, show measN (bst S f) = measN S from by unfold measN; rw [fr 84 (by omega) (by omega)]] at e
      refine ⟨by rw [hr', hr, e], ?_⟩
      have fr2 : ∀ a : Nat, (a ≠ 86 ∧ a ≠ 87) ∧ a ≠ 104 ∧ a ≠ 105 → S2.1 a = S.1 a := fun a ha => by
        rw [hS2]
        unfold hst
        rw [aset_ne _ _ ha.2.2, aset_ne _ _ ha.2.1, fr a ha.1.1 ha.1.2]
      exact h'.mk' hc (by rw [hS2]; rfl) (by rw [hS2]; exact ((gw.bst f).aset (by decide) _).aset (by decide) _) (gP.cg (fun a a1 a2 => fr2 a (by omega)) (fun a a1 a2 => fr2 a (by omega))) (gT.cg (fr2 2 (by omega)) (fr2 3 (by omega)) (by rw [fr2 88 (by omega)]) (fr2 89 (by omega))) ((gN.cg (fun a a1 a2 => fr2 a (by omega)) (fr2 95 (by omega))).mono (by omega)) ((gU.cg (fun a a1 a2 => fr2 a (by omega)) (by rw [fr2 88 (by omega)]) (fr2 95 (by omega)) (fr2 98 (by omega))).mono (by omega)) ((gI.cg (fun a a1 a2 => fr2 a (by omega)) (fr2 96 (by omega)) (fr2 97 (by omega))).mono (by omega)) (gS.cg (fun a a1 a2 => fr2 a (by omega)) (by rw [fr2 88 (by omega)]) (fr2 99 (by omega)) (fr2 100 (by omega)) (fr2 _ (by omega)) (fr2 _ (by omega))) (gM.cg (fun a a1 a2 => fr2 a (by omega)) (by rw [fr2 88 (by omega)]) (fr2 101 (by omega)) (fr2 102 (by omega)) (fr2 103 (by omega)) (fr2 _ (by omega))) (by rw [hS2]; exact gt) (gX.cg (fun j hj => by rw [fr2 88 (by omega)])) (fr2 90 (by omega))
    · omega
    · omega
  · rw [hS1]
    refine ⟨_, cZ_agree X h'.zi hml hx, fun r' S2 hQ => ?_⟩
    rcases hQ with ⟨hx0, _⟩ | ⟨_, hr', hS2⟩ | ⟨hxx, _⟩
    · omega
    · refine ⟨?_, p, q, by rw [hS2]; exact h'.next hc⟩
      rw [hr', hr, gM.2.2.2.1]
      refine sumI_congr (fun k k1 k2 => ?_)
      have m6 := gM.2.2.2.2 k k1 k2
      have m2 := gM.1.2 k k1 k2
      have zs : ZS S := ⟨h'.zi.2.2.2.1, h'.zi.2.2.2.2.2.2.2.1⟩
      have e1 := mkZ_le zs (l := S.1 102 k) (by omega)
      have e2 := mkZ_le zs (l := S.1 101 k) (by omega)
      unfold ofZ offF
      rw [← m6.1, ← m6.2.1, ← m6.2.2.1, a8 (S.1 102 k) (by omega) (by omega), a8 (S.1 101 k) (by omega) (by omega), eq_al gP (by omega), eq_al gP (by omega)]
    · omega
  · rw [hS1]
    refine ⟨_, cZ_agree X h'.zi hml hx, fun r' S2 hQ => ?_⟩
    rcases hQ with ⟨hx0, _⟩ | ⟨hx1, _⟩ | ⟨_, hr', hS2⟩
    · omega
    · omega
    · exact ⟨by rw [hr', hr], p, q, by rw [hS2]; exact h'.next hc⟩
