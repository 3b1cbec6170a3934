/-! the reference: rows that are counted -/
theorem pow10_le : ∀ k : Nat, k < 5 → (1 : Int) ≤ 10 ^ k ∧ (10 : Int) ^ k ≤ 10000 := by decide +kernel
theorem pow10le {k : Int} (h : 0 ≤ k ∧ k ≤ 4) : (1 : Int) ≤ 10 ^ k.toNat ∧ (10 : Int) ^ k.toNat ≤ 10000 := pow10_le k.toNat (by omega)
/-- of rows below j, those with A = 1: nn of them, o their common value (-9: none, -1: no common one) -/
def ctP (A v : Int → Int) (B j nn o : Int) : Prop := nn = sumI A j ∧ ((nn = 0 ∧ o = -9 ∧ ∀ r, 0 ≤ r → r < j → A r ≠ 1) ∨ ((0 < nn ∧ nn ≤ j) ∧ ((o = -1 ∧ ∃ r s, (0 ≤ r ∧ r < j) ∧ (0 ≤ s ∧ s < j) ∧ A r = 1 ∧ A s = 1 ∧ v r ≠ v s) ∨ ((0 ≤ o ∧ o ≤ B) ∧ (∃ r, (0 ≤ r ∧ r < j) ∧ A r = 1 ∧ v r = o) ∧ ∀ r, 0 ≤ r → r < j → A r = 1 → v r = o))))
def fwP (A g : Int → Int) (j nn c : Int) : Prop := (nn = 0 ∧ c = -9 ∧ ∀ r, 0 ≤ r → r < j → A r ≠ 1) ∨ (0 < nn ∧ (0 ≤ c ∧ c ≤ 100) ∧ (∃ r, (0 ≤ r ∧ r < j) ∧ A r = 1 ∧ g r = c) ∧ ∀ r, 0 ≤ r → r < j → A r = 1 → c ≤ g r)
theorem ct_0 (A v : Int → Int) (B : Int) : ctP A v B 0 0 (-9) := ⟨rfl, Or.inl ⟨rfl, rfl, fun r r1 r2 => by omega⟩⟩
theorem fw_0 (A g : Int → Int) : fwP A g 0 0 (-9) := Or.inl ⟨rfl, rfl, fun r r1 r2 => by omega⟩
theorem ct_n {A v : Int → Int} {B j nn o : Int} (hj : 0 ≤ j) (h : ctP A v B j nn o) (ha : A j = 0) : ctP A v B (j + 1) nn o := by
  have hx : ∀ r : Int, r < j + 1 → A r = 1 → r < j := fun r r1 r2 => by
    by_cases hr : r = j
    · rw [hr] at r2; omega
    · omega
  refine ⟨by rw [sumI_s _ hj, ha]; have := h.1; omega, h.2.elim (fun g => Or.inl ⟨g.1, g.2.1, fun r r1 r2 r3 => g.2.2 r r1 (hx r r2 r3) r3⟩) (fun g => Or.inr ⟨by omega, g.2.elim (fun k => Or.inl ⟨k.1, ?_⟩) (fun k => Or.inr ⟨k.1, ?_, fun r r1 r2 r3 => k.2.2 r r1 (hx r r2 r3) r3⟩)⟩)⟩
  · obtain ⟨r, s, k1, k2, k3⟩ := k.2
    exact ⟨r, s, by omega, by omega, k3⟩
  · obtain ⟨r, k1, k2⟩ := k.2.1
    exact ⟨r, by omega, k2⟩
theorem ct_y {A v : Int → Int} {B j nn o o' : Int} (hj : 0 ≤ j) (h : ctP A v B j nn o) (ha : A j = 1) (hv : 0 ≤ v j ∧ v j ≤ B) (ho : (o' = v j ∧ (nn = 0 ∨ o = v j)) ∨ (o' = -1 ∧ nn ≠ 0 ∧ o ≠ v j)) : ctP A v B (j + 1) (nn + 1) o' := by
  refine ⟨by rw [sumI_s _ hj, ha]; have := h.1; omega, Or.inr ?_⟩
  rcases h.2 with g | g
  · refine ⟨by omega, Or.inr ⟨by omega, ⟨j, by omega, ha, by omega⟩, fun r r1 r2 r3 => ?_⟩⟩
    by_cases hr : r = j
    · rw [hr]; omega
    · exact absurd r3 (g.2.2 r r1 (by omega))
  · refine ⟨by omega, ?_⟩
    rcases g.2 with k | k
    · obtain ⟨r, s, k1, k2, k3⟩ := k.2
      exact Or.inl ⟨by omega, r, s, by omega, by omega, k3⟩
    · by_cases he : o = v j
      · refine Or.inr ⟨by omega, ⟨j, by omega, ha, by omega⟩, fun r r1 r2 r3 => ?_⟩
        by_cases hr : r = j
        · rw [hr]; omega
        · have := k.2.2 r r1 (by omega) r3; omega
      · obtain ⟨r, k1, k2, k3⟩ := k.2.1
        exact Or.inl ⟨by omega, r, j, by omega, by omega, k2, ha, by omega⟩
theorem fw_n {A g : Int → Int} {j nn c : Int} (h : fwP A g j nn c) (ha : A j = 0) : fwP A g (j + 1) nn c := by
  have hx : ∀ r : Int, r < j + 1 → A r = 1 → r < j := fun r r1 r2 => by
    by_cases hr : r = j
    · rw [hr] at r2; omega
    · omega
  refine h.elim (fun g => Or.inl ⟨g.1, g.2.1, fun r r1 r2 r3 => g.2.2 r r1 (hx r r2 r3) r3⟩) (fun g => Or.inr ⟨g.1, g.2.1, ?_, fun r r1 r2 r3 => g.2.2.2 r r1 (hx r r2 r3) r3⟩)
  obtain ⟨r, k1, k2⟩ := g.2.2.1
  exact ⟨r, by omega, k2⟩
theorem fw_y {A g : Int → Int} {j nn c c' : Int} (hj : 0 ≤ j) (h : fwP A g j nn c) (ha : A j = 1) (hg : 0 ≤ g j ∧ g j ≤ 100) (hc : (c' = g j ∧ (nn = 0 ∨ g j < c)) ∨ (c' = c ∧ nn ≠ 0 ∧ c ≤ g j)) : fwP A g (j + 1) (nn + 1) c' := by
  refine Or.inr ?_
  rcases h with k | k
  · refine ⟨by omega, by omega, ⟨j, by omega, ha, by omega⟩, fun r r1 r2 r3 => ?_⟩
    by_cases hr : r = j
    · rw [hr]; omega
    · exact absurd r3 (k.2.2 r r1 (by omega))
  · refine ⟨by omega, by omega, ?_, fun r r1 r2 r3 => ?_⟩
    · rcases hc with q | q
      · exact ⟨j, by omega, ha, by omega⟩
      · obtain ⟨r, k1, k2, k3⟩ := k.2.2.1
        exact ⟨r, by omega, k2, by omega⟩
    · by_cases hr : r = j
      · rw [hr]; omega
      · have := k.2.2.2 r r1 (by omega) r3; omega
def dgZ (row t : Int) : Int := row / 10 ^ t.toNat % 10
def gsF (S : Sg) (row k t : Int) : Int := if S.1 99 k < S.1 94 t then dgZ row t else 0
theorem gsF_y {S : Sg} {row k t : Int} (h : S.1 99 k < S.1 94 t) : gsF S row k t = row / 10 ^ t.toNat % 10 := if_pos h
theorem gsF_n {S : Sg} {row k t : Int} (h : ¬ S.1 99 k < S.1 94 t) : gsF S row k t = 0 := if_neg h
theorem gsF_bd (S : Sg) (row k t : Int) : 0 ≤ gsF S row k t ∧ gsF S row k t ≤ 9 := by unfold gsF dgZ; split <;> omega
def asF (S : Sg) (row : Int) : Nat → Int
  | 0 => 1
  | n + 1 => if asF S row n = 1 ∧ sumI (gsF S row (n : Int)) (S.1 90 1) = S.1 100 (n : Int) then 1 else 0
theorem as01 (S : Sg) (row : Int) : ∀ n : Nat, asF S row n = 0 ∨ asF S row n = 1
  | 0 => Or.inr rfl
  | n + 1 => by rw [asF]; split <;> omega
def asZ (S : Sg) (row : Int) : Int := asF S row (S.1 88 22).toNat
def goI (row : Int) : Int := row % 10 + row / 10 % 10 + row / 100 % 10 + row / 1000
set_option maxRecDepth 4000 in
theorem cZ_tens (X : XT) {S : Sg} {x : Int} (hx : 0 ≤ x ∧ x ≤ 4) : Ctr X 0 yZ_tens bZ_tens 3 (some .int) [.int (iI (x))] (mk S) (PI (fun r S' => r = 10 ^ x.toNat ∧ S' = S)) 0 0 := by
  refine Ctr.ofS (by decide) rfl (Nat.le_of_ble_eq_true rfl) (fun F h hF hE => ?_)
  have loop : ∀ (n : Nat) (j : Nat), 4 < j + n → (j : Int) ≤ x → Go F 3 (mk S) 0 0 4 [.int (iI x), .int (iI (10 ^ j)), .int (iI (j : Int))] [] := by
    intro n
    induction n with
    | zero => intro j g4 g6; exfalso; omega
    | succ n ih =>
      intro j g4 g6
      refine go_iload_n (pc' := 5) h ⟨dZ_tens_4, rfl⟩ rfl ?_
      refine go_iload_n (pc' := 6) h ⟨dZ_tens_5, rfl⟩ rfl ?_
      refine gi_icmp_ge (tgt := 20) (pc' := 9) h dZ_tens_6 rfl rfl (by omega) (fun c6 => ?_) (fun c6 => ?_)
      · refine go_iload_n (pc' := 21) h ⟨dZ_tens_20, rfl⟩ rfl ?_
        exact gs_iret h hE dZ_tens_21 (⟨by rw [show x.toNat = j by omega], rfl⟩)
      · refine go_iload_n (pc' := 10) h ⟨dZ_tens_9, rfl⟩ rfl ?_
        refine gi_bipush (pc' := 12) h ⟨dZ_tens_10, rfl⟩ rfl ?_
        refine gi_imul (pc' := 13) h ⟨dZ_tens_12, rfl⟩ ?_
        refine go_istore_n (L' := [.int (iI (x)), .int (iI ((10 ^ j) * 10)), .int (iI ((j : Int)))]) (pc' := 14) h ⟨dZ_tens_13, rfl⟩ (by decide) rfl rfl ?_
        refine gi_iinc (L' := [.int (iI (x)), .int (iI ((10 ^ j) * 10)), .int (iI ((j : Int) + 1))]) (pc' := 17) h ⟨dZ_tens_14, rfl⟩ rfl (by decide) rfl rfl ?_
        refine gi_goto (tgt := 4) h dZ_tens_17 rfl ?_
        have g7 := ih (j + 1) (by omega) (by omega)
        rw [Int.pow_succ] at g7
        exact g7
  refine gi_iconst (pc' := 1) h ⟨dZ_tens_0, rfl⟩ ?_
  refine go_istore_n (L' := [.int (iI (x)), .int (iI (1))]) (pc' := 2) h ⟨dZ_tens_1, rfl⟩ (by decide) rfl rfl ?_
  refine gi_iconst (pc' := 3) h ⟨dZ_tens_2, rfl⟩ ?_
  refine go_istore_n (L' := [.int (iI (x)), .int (iI (1)), .int (iI (0))]) (pc' := 4) h ⟨dZ_tens_3, rfl⟩ (by decide) rfl rfl ?_
  have h0 := loop 5 0 (by omega) (by omega)
  rw [Int.pow_zero] at h0
  exact h0
set_option maxRecDepth 4000 in
theorem cZ_goings (X : XT) {S : Sg} {x : Int} (hx : 0 ≤ x ∧ x ≤ 10000) : Ctr X 0 yZ_goings bZ_goings 1 (some .int) [.int (iI (x))] (mk S) (PI (fun r S' => r = goI x ∧ S' = S)) 0 0 := by
  refine Ctr.ofS (by decide) rfl (Nat.le_of_ble_eq_true rfl) (fun F h hF hE => ?_)
  refine go_iload_n (pc' := 1) h ⟨dZ_goings_0, rfl⟩ rfl ?_
  refine gi_bipush (pc' := 3) h ⟨dZ_goings_1, rfl⟩ rfl ?_
  refine gi_irem (pc' := 4) h ⟨dZ_goings_3, rfl⟩ (by omega) ?_
  refine go_iload_n (pc' := 5) h ⟨dZ_goings_4, rfl⟩ rfl ?_
  refine gi_bipush (pc' := 7) h ⟨dZ_goings_5, rfl⟩ rfl ?_
  refine gi_idiv (pc' := 8) h ⟨dZ_goings_7, rfl⟩ (by omega) ?_
  refine gi_bipush (pc' := 10) h ⟨dZ_goings_8, rfl⟩ rfl ?_
  refine gi_irem (pc' := 11) h ⟨dZ_goings_10, rfl⟩ (by omega) ?_
  refine gi_iadd (pc' := 12) h ⟨dZ_goings_11, rfl⟩ ?_
  refine go_iload_n (pc' := 13) h ⟨dZ_goings_12, rfl⟩ rfl ?_
  refine gi_bipush (pc' := 15) h ⟨dZ_goings_13, rfl⟩ rfl ?_
  refine gi_idiv (pc' := 16) h ⟨dZ_goings_15, rfl⟩ (by omega) ?_
  refine gi_bipush (pc' := 18) h ⟨dZ_goings_16, rfl⟩ rfl ?_
  refine gi_irem (pc' := 19) h ⟨dZ_goings_18, rfl⟩ (by omega) ?_
  refine gi_iadd (pc' := 20) h ⟨dZ_goings_19, rfl⟩ ?_
  refine go_iload_n (pc' := 21) h ⟨dZ_goings_20, rfl⟩ rfl ?_
  refine gi_sipush (pc' := 24) h ⟨dZ_goings_21, rfl⟩ rfl ?_
  refine gi_idiv (pc' := 25) h ⟨dZ_goings_24, rfl⟩ (by omega) ?_
  refine gi_iadd (pc' := 26) h ⟨dZ_goings_25, rfl⟩ ?_
  exact gs_iret h hE dZ_goings_26 (⟨rfl, rfl⟩)
set_option maxRecDepth 4000 in
theorem cZ_asSeen (X : XT) {S : Sg} (hZ : ZI S) {x : Int} (hx : 0 ≤ x ∧ x ≤ 10000) : Ctr X 1 yZ_isAsSeen bZ_isAsSeen 6 (some .boolean) [.ref 88, .int (iI (x))] (mk S) (PI (fun r S' => r = asZ S x ∧ S' = S)) 0 0 := by
  refine Ctr.ofS (by decide) rfl (Nat.le_of_ble_eq_true rfl) (fun F h hF hE => ?_)
  obtain ⟨z0, zt, ztx, zm0, zm1, zm2, zm3, zst, ztr, zat, zsy, zth, ztg, zwr, zun, zkp, zse, zsk, zme, zmk, zl5, zl6, zl7⟩ := id hZ
  have loop : ∀ (n j : Nat) (LL : List Value), LL.take 4 = [.ref 88, .int (iI x), .int (iI (asF S x j)), .int (iI (j : Int))] → 6 < j + n → (j : Int) ≤ S.1 88 22 → Go F 6 (mk S) 0 0 4 LL [] := by
    intro n
    induction n with
    | zero => intro j LL hL g4 g6; exfalso; omega
    | succ n ih =>
      intro j LL hL g4 g6
      have h01 := as01 S x j
      have inner : ∀ (m : Nat) (t : Int), 4 < t + m → 0 ≤ t → t ≤ S.1 90 1 → (j : Int) < S.1 88 22 → Go F 6 (mk S) 0 0 18 [.ref 88, .int (iI x), .int (iI (asF S x j)), .int (iI (j : Int)), .int (iI (sumI (gsF S x j) t)), .int (iI t)] [] := by
        intro m
        induction m with
        | zero => intro t k4 k5 k6 kj; exfalso; omega
        | succ m ihm =>
          intro t k4 k5 k6 kj
          have hsk := zsk j (by omega) kj
          have hsum := sumI_bd (f := gsF S x j) (B := 9) (n := t) k5 (fun q _ _ => gsF_bd S x j q)
          refine go_iload (pc' := 20) h ⟨dZ_isAsSeen_18, rfl⟩ rfl ?_
          refine go_aload_n (pc' := 21) h ⟨dZ_isAsSeen_20, rfl⟩ rfl ?_
          refine gs_get (v := .ref 90) (pc' := 24) h ⟨dZ_isAsSeen_21, rfl⟩ fgZ_13 rfl (by decide) (rfl) ?_
          refine gi_iconst (pc' := 25) h ⟨dZ_isAsSeen_24, rfl⟩ ?_
          refine gs_iald (pc' := 26) h ⟨dZ_isAsSeen_25, rfl⟩ rfl (by have hln : (ln 90 : Int) = 8 := rfl; omega) ?_
          refine gi_icmp_ge (tgt := 70) (pc' := 29) h dZ_isAsSeen_26 rfl rfl (by omega) (fun c26 => ?_) (fun c26 => ?_)
          · refine go_iload_n (pc' := 71) h ⟨dZ_isAsSeen_70, rfl⟩ rfl ?_
            refine gi_if_eq (tgt := 89) (pc' := 74) h dZ_isAsSeen_71 rfl rfl (by omega) (fun c71 => ?_) (fun c71 => ?_)
            · refine gi_iconst (pc' := 90) h ⟨dZ_isAsSeen_89, rfl⟩ ?_
              refine go_istore_n (L' := [.ref 88, .int (iI (x)), .int (iI (0)), .int (iI ((j : Int))), .int (iI (sumI (gsF S x j) t)), .int (iI (t))]) (pc' := 91) h ⟨dZ_isAsSeen_90, rfl⟩ (by decide) rfl rfl ?_
              refine gi_iinc (L' := [.ref 88, .int (iI (x)), .int (iI (0)), .int (iI ((j : Int) + 1)), .int (iI (sumI (gsF S x j) t)), .int (iI (t))]) (pc' := 94) h ⟨dZ_isAsSeen_91, rfl⟩ rfl (by decide) rfl rfl ?_
              refine gi_goto (tgt := 4) h dZ_isAsSeen_94 rfl ?_
              have e_t : t = S.1 90 1 := by omega
              exact ih (j + 1) _ (by show [_, _, _, _] = _; rw [asF, if_neg (by rw [← e_t]; omega)]; rfl) (by omega) (by omega)
            · refine go_iload (pc' := 76) h ⟨dZ_isAsSeen_74, rfl⟩ rfl ?_
              refine go_aload_n (pc' := 77) h ⟨dZ_isAsSeen_76, rfl⟩ rfl ?_
              refine gs_get (v := .ref 100) (pc' := 80) h ⟨dZ_isAsSeen_77, rfl⟩ fgZ_44 rfl (by decide) (rfl) ?_
              refine go_iload_n (pc' := 81) h ⟨dZ_isAsSeen_80, rfl⟩ rfl ?_
              refine gs_iald (pc' := 82) h ⟨dZ_isAsSeen_81, rfl⟩ rfl (by have hln : (ln 100 : Int) = 6 := rfl; omega) ?_
              refine gi_icmp_ne (tgt := 89) (pc' := 85) h dZ_isAsSeen_82 rfl rfl (by omega) (fun c82 => ?_) (fun c82 => ?_)
              · refine gi_iconst (pc' := 90) h ⟨dZ_isAsSeen_89, rfl⟩ ?_
                refine go_istore_n (L' := [.ref 88, .int (iI (x)), .int (iI (0)), .int (iI ((j : Int))), .int (iI (sumI (gsF S x j) t)), .int (iI (t))]) (pc' := 91) h ⟨dZ_isAsSeen_90, rfl⟩ (by decide) rfl rfl ?_
                refine gi_iinc (L' := [.ref 88, .int (iI (x)), .int (iI (0)), .int (iI ((j : Int) + 1)), .int (iI (sumI (gsF S x j) t)), .int (iI (t))]) (pc' := 94) h ⟨dZ_isAsSeen_91, rfl⟩ rfl (by decide) rfl rfl ?_
                refine gi_goto (tgt := 4) h dZ_isAsSeen_94 rfl ?_
                have e_t : t = S.1 90 1 := by omega
                exact ih (j + 1) _ (by show [_, _, _, _] = _; rw [asF, if_neg (by rw [← e_t]; omega)]; rfl) (by omega) (by omega)
              · refine gi_iconst (pc' := 86) h ⟨dZ_isAsSeen_85, rfl⟩ ?_
                refine gi_goto (tgt := 90) h dZ_isAsSeen_86 rfl ?_
                refine go_istore_n (L' := [.ref 88, .int (iI (x)), .int (iI (1)), .int (iI ((j : Int))), .int (iI (sumI (gsF S x j) t)), .int (iI (t))]) (pc' := 91) h ⟨dZ_isAsSeen_90, rfl⟩ (by decide) rfl rfl ?_
                refine gi_iinc (L' := [.ref 88, .int (iI (x)), .int (iI (1)), .int (iI ((j : Int) + 1)), .int (iI (sumI (gsF S x j) t)), .int (iI (t))]) (pc' := 94) h ⟨dZ_isAsSeen_91, rfl⟩ rfl (by decide) rfl rfl ?_
                refine gi_goto (tgt := 4) h dZ_isAsSeen_94 rfl ?_
                have e_t : t = S.1 90 1 := by omega
                exact ih (j + 1) _ (by show [_, _, _, _] = _; rw [asF, if_pos (by rw [← e_t]; omega)]; rfl) (by omega) (by omega)
          · have htr := ztr t k5 (by omega)
            refine go_iload (pc' := 31) h ⟨dZ_isAsSeen_29, rfl⟩ rfl ?_
            refine go_aload_n (pc' := 32) h ⟨dZ_isAsSeen_31, rfl⟩ rfl ?_
            refine gs_get (v := .ref 94) (pc' := 35) h ⟨dZ_isAsSeen_32, rfl⟩ fgZ_25 rfl (by decide) (rfl) ?_
            refine go_iload (pc' := 37) h ⟨dZ_isAsSeen_35, rfl⟩ rfl ?_
            refine gs_iald (pc' := 38) h ⟨dZ_isAsSeen_37, rfl⟩ rfl (by have hln : (ln 94 : Int) = 8 := rfl; omega) ?_
            refine go_aload_n (pc' := 39) h ⟨dZ_isAsSeen_38, rfl⟩ rfl ?_
            refine gs_get (v := .ref 99) (pc' := 42) h ⟨dZ_isAsSeen_39, rfl⟩ fgZ_41 rfl (by decide) (rfl) ?_
            refine go_iload_n (pc' := 43) h ⟨dZ_isAsSeen_42, rfl⟩ rfl ?_
            refine gs_iald (pc' := 44) h ⟨dZ_isAsSeen_43, rfl⟩ rfl (by have hln : (ln 99 : Int) = 6 := rfl; omega) ?_
            refine gi_icmp_le (tgt := 60) (pc' := 47) h dZ_isAsSeen_44 rfl rfl (by omega) (fun c44 => ?_) (fun c44 => ?_)
            · refine gi_iconst (pc' := 61) h ⟨dZ_isAsSeen_60, rfl⟩ ?_
              refine gi_iadd (pc' := 62) h ⟨dZ_isAsSeen_61, rfl⟩ ?_
              refine go_istore (L' := [.ref 88, .int (iI (x)), .int (iI (asF S x j)), .int (iI ((j : Int))), .int (iI ((sumI (gsF S x j) t) + 0)), .int (iI (t))]) (pc' := 64) h ⟨dZ_isAsSeen_62, rfl⟩ (by decide) rfl rfl ?_
              refine gi_iinc (L' := [.ref 88, .int (iI (x)), .int (iI (asF S x j)), .int (iI ((j : Int))), .int (iI ((sumI (gsF S x j) t) + 0)), .int (iI (t + 1))]) (pc' := 67) h ⟨dZ_isAsSeen_64, rfl⟩ rfl (by decide) rfl rfl ?_
              refine gi_goto (tgt := 18) h dZ_isAsSeen_67 rfl ?_
              have g9 := ihm (t + 1) (by omega) (by omega) (by omega) kj
              rw [sumI_s _ k5, gsF_n (by omega)] at g9
              exact g9
            · refine go_iload_n (pc' := 48) h ⟨dZ_isAsSeen_47, rfl⟩ rfl ?_
              refine go_iload (pc' := 50) h ⟨dZ_isAsSeen_48, rfl⟩ rfl ?_
              refine gd_callSI (e := 10 ^ t.toNat) (E := S) (pc' := 53) (As := [.int (iI (t))]) (st := [.int (iI (x)), .int (iI (sumI (gsF S x j) t))]) h hF ⟨dZ_isAsSeen_50, rfl⟩ kvZ_178 (cZ_tens X (by omega)) (by omega) rfl (Nat.le_of_ble_eq_true rfl) rfl ?_
              have pt_50 := pow10le (k := t) (by omega)
              refine gi_idiv (pc' := 54) h ⟨dZ_isAsSeen_53, rfl⟩ (by omega) ?_
              have hq0 : 0 ≤ x / 10 ^ t.toNat := Int.ediv_nonneg (by omega) (by omega)
              have hq1 : x / 10 ^ t.toNat ≤ x := Int.ediv_le_self _ (by omega)
              refine gi_bipush (pc' := 56) h ⟨dZ_isAsSeen_54, rfl⟩ rfl ?_
              refine gi_irem (pc' := 57) h ⟨dZ_isAsSeen_56, rfl⟩ (by omega) ?_
              refine gi_goto (tgt := 61) h dZ_isAsSeen_57 rfl ?_
              refine gi_iadd (pc' := 62) h ⟨dZ_isAsSeen_61, rfl⟩ ?_
              refine go_istore (L' := [.ref 88, .int (iI (x)), .int (iI (asF S x j)), .int (iI ((j : Int))), .int (iI ((sumI (gsF S x j) t) + ((x / (10 ^ t.toNat)) % 10))), .int (iI (t))]) (pc' := 64) h ⟨dZ_isAsSeen_62, rfl⟩ (by decide) rfl rfl ?_
              refine gi_iinc (L' := [.ref 88, .int (iI (x)), .int (iI (asF S x j)), .int (iI ((j : Int))), .int (iI ((sumI (gsF S x j) t) + ((x / (10 ^ t.toNat)) % 10))), .int (iI (t + 1))]) (pc' := 67) h ⟨dZ_isAsSeen_64, rfl⟩ rfl (by decide) rfl rfl ?_
              refine gi_goto (tgt := 18) h dZ_isAsSeen_67 rfl ?_
              have g9 := ihm (t + 1) (by omega) (by omega) (by omega) kj
              rw [sumI_s _ k5, gsF_y (by omega)] at g9
              exact g9
      refine Go.cut [.ref 88, .int (iI x), .int (iI (asF S x j)), .int (iI (j : Int))] 4 hL ?_
      refine go_iload_n (pc' := 5) h ⟨dZ_isAsSeen_4, rfl⟩ rfl ?_
      refine go_aload_n (pc' := 6) h ⟨dZ_isAsSeen_5, rfl⟩ rfl ?_
      refine gs_get (v := .int (iI (S.1 88 22))) (pc' := 9) h ⟨dZ_isAsSeen_6, rfl⟩ fgZ_127 rfl (by decide) (rfl) ?_
      refine gi_icmp_ge (tgt := 97) (pc' := 12) h dZ_isAsSeen_9 rfl rfl (by omega) (fun c9 => ?_) (fun c9 => ?_)
      · refine go_iload_n (pc' := 98) h ⟨dZ_isAsSeen_97, rfl⟩ rfl ?_
        exact gs_zret h hE dZ_isAsSeen_98 (h01) (⟨by unfold asZ; rw [show (S.1 88 22).toNat = j by omega], rfl⟩)
      · refine gi_iconst (pc' := 13) h ⟨dZ_isAsSeen_12, rfl⟩ ?_
        refine go_istore (L' := [.ref 88, .int (iI (x)), .int (iI (asF S x j)), .int (iI ((j : Int))), .int (iI (0))]) (pc' := 15) h ⟨dZ_isAsSeen_13, rfl⟩ (by decide) rfl rfl ?_
        refine gi_iconst (pc' := 16) h ⟨dZ_isAsSeen_15, rfl⟩ ?_
        refine go_istore (L' := [.ref 88, .int (iI (x)), .int (iI (asF S x j)), .int (iI ((j : Int))), .int (iI (0)), .int (iI (0))]) (pc' := 18) h ⟨dZ_isAsSeen_16, rfl⟩ (by decide) rfl rfl ?_
        exact inner 5 0 (by omega) (by omega) (by omega) (by omega)
  refine gi_iconst (pc' := 1) h ⟨dZ_isAsSeen_0, rfl⟩ ?_
  refine go_istore_n (L' := [.ref 88, .int (iI (x)), .int (iI (1))]) (pc' := 2) h ⟨dZ_isAsSeen_1, rfl⟩ (by decide) rfl rfl ?_
  refine gi_iconst (pc' := 3) h ⟨dZ_isAsSeen_2, rfl⟩ ?_
  refine go_istore_n (L' := [.ref 88, .int (iI (x)), .int (iI (1)), .int (iI (0))]) (pc' := 4) h ⟨dZ_isAsSeen_3, rfl⟩ (by decide) rfl rfl ?_
  exact loop 7 0 _ rfl (by omega) (by omega)
def itV (x : Int) (r : Int) : Int := if x < 0 then 0 else dgZ r x
def zCan (S : Sg) (x r : Int) : Prop := ((x < -2 ∨ S.1 90 1 ≤ x) ∧ r = -1) ∨ ((-2 ≤ x ∧ x < S.1 90 1) ∧ ∃ nn c o, fwP (asZ S) goI (10 ^ (S.1 90 1).toNat) nn c ∧ ctP (asZ S) (itV x) 9 (10 ^ (S.1 90 1).toNat) nn o ∧ ((x = -1 ∧ r = nn) ∨ (x = -2 ∧ r = c) ∨ (0 ≤ x ∧ o < 0 ∧ r = -9) ∨ (0 ≤ x ∧ 0 ≤ o ∧ r = o)))
set_option maxRecDepth 4000 in
theorem cZ_can (X : XT) {S : Sg} (hZ : ZI S) {x : Int} (hx : -2147483648 ≤ x ∧ x ≤ 2147483647) : Ctr X 6 yZ_can bZ_can 7 (some .int) [.ref 88, .int (iI (x))] (mk S) (PI (fun r S' => zCan S x r ∧ S' = S)) 0 0 := by
  refine Ctr.ofS (by decide) rfl (Nat.le_of_ble_eq_true rfl) (fun F h hF hE => ?_)
  obtain ⟨z0, zt, ztx, zm0, zm1, zm2, zm3, zst, ztr, zat, zsy, zth, ztg, zwr, zun, zkp, zse, zsk, zme, zmk, zl5, zl6, zl7⟩ := id hZ
  have hp := pow10le (k := S.1 90 1) zm1
  have loop : (-2 ≤ x ∧ x < S.1 90 1) → ∀ (n : Nat) (j nn c o : Int) (LL : List Value), LL.take 6 = [.ref 88, .int (iI x), .int (iI nn), .int (iI c), .int (iI o), .int (iI j)] → 10000 < j + n → 0 ≤ j → j ≤ 10 ^ (S.1 90 1).toNat → fwP (asZ S) goI j nn c → ctP (asZ S) (itV x) 9 j nn o → Go F 7 (mk S) 0 0 36 LL [] := by
    intro hx n
    induction n with
    | zero => intro j nn c o LL hL g4 g5 g6; exfalso; omega
    | succ n ih =>
      intro j nn c o LL hL g4 g5 g6 g7 g8
      have h01 := as01 S j (S.1 88 22).toNat
      have hnn : 0 ≤ nn ∧ nn ≤ j := by rcases g8.2 with k | k <;> omega
      have hcc : -9 ≤ c ∧ c ≤ 100 := by rcases g7 with k | k <;> omega
      have hoo : -9 ≤ o ∧ o ≤ 9 := by rcases g8.2 with k | ⟨k, k2 | k2⟩ <;> omega
      refine Go.cut [.ref 88, .int (iI x), .int (iI nn), .int (iI c), .int (iI o), .int (iI j)] 6 hL ?_
      refine go_iload (pc' := 38) h ⟨dZ_can_36, rfl⟩ rfl ?_
      refine go_aload_n (pc' := 39) h ⟨dZ_can_38, rfl⟩ rfl ?_
      refine gs_get (v := .ref 90) (pc' := 42) h ⟨dZ_can_39, rfl⟩ fgZ_13 rfl (by decide) (rfl) ?_
      refine gi_iconst (pc' := 43) h ⟨dZ_can_42, rfl⟩ ?_
      refine gs_iald (pc' := 44) h ⟨dZ_can_43, rfl⟩ rfl (by have hln : (ln 90 : Int) = 8 := rfl; omega) ?_
      refine gd_callSI (e := 10 ^ (S.1 90 1).toNat) (E := S) (pc' := 47) (As := [.int (iI (S.1 90 1))]) (st := [.int (iI (j))]) h hF ⟨dZ_can_44, rfl⟩ kvZ_178 (cZ_tens X (by omega)) (by omega) rfl (Nat.le_of_ble_eq_true rfl) rfl ?_
      have pt_44 := pow10le (k := S.1 90 1) (by omega)
      refine gi_icmp_ge (tgt := 130) (pc' := 50) h dZ_can_47 rfl rfl (by omega) (fun c47 => ?_) (fun c47 => ?_)
      · refine go_iload_n (pc' := 131) h ⟨dZ_can_130, rfl⟩ rfl ?_
        refine gi_iconst (pc' := 132) h ⟨dZ_can_131, rfl⟩ ?_
        refine gi_icmp_ne (tgt := 139) (pc' := 135) h dZ_can_132 rfl rfl (by omega) (fun c132 => ?_) (fun c132 => ?_)
        · refine go_iload_n (pc' := 140) h ⟨dZ_can_139, rfl⟩ rfl ?_
          refine gi_bipush (pc' := 142) h ⟨dZ_can_140, rfl⟩ rfl ?_
          refine gi_icmp_ne (tgt := 149) (pc' := 145) h dZ_can_142 rfl rfl (by omega) (fun c142 => ?_) (fun c142 => ?_)
          · refine go_iload (pc' := 151) h ⟨dZ_can_149, rfl⟩ rfl ?_
            refine gi_if_ge (tgt := 159) (pc' := 154) h dZ_can_151 rfl rfl (by omega) (fun c151 => ?_) (fun c151 => ?_)
            · refine go_iload (pc' := 161) h ⟨dZ_can_159, rfl⟩ rfl ?_
              exact gs_iret h hE dZ_can_161 (⟨Or.inr ⟨hx, nn, c, o, by rw [show (10 : Int) ^ (S.1 90 1).toNat = j by omega]; exact g7, by rw [show (10 : Int) ^ (S.1 90 1).toNat = j by omega]; exact g8, Or.inr (Or.inr (Or.inr ⟨by omega, by omega, rfl⟩))⟩, rfl⟩)
            · refine gi_bipush (pc' := 156) h ⟨dZ_can_154, rfl⟩ rfl ?_
              refine gi_goto (tgt := 161) h dZ_can_156 rfl ?_
              exact gs_iret h hE dZ_can_161 (⟨Or.inr ⟨hx, nn, c, o, by rw [show (10 : Int) ^ (S.1 90 1).toNat = j by omega]; exact g7, by rw [show (10 : Int) ^ (S.1 90 1).toNat = j by omega]; exact g8, Or.inr (Or.inr (Or.inl ⟨by omega, by omega, rfl⟩))⟩, rfl⟩)
          · refine go_iload_n (pc' := 146) h ⟨dZ_can_145, rfl⟩ rfl ?_
            refine gi_goto (tgt := 161) h dZ_can_146 rfl ?_
            exact gs_iret h hE dZ_can_161 (⟨Or.inr ⟨hx, nn, c, o, by rw [show (10 : Int) ^ (S.1 90 1).toNat = j by omega]; exact g7, by rw [show (10 : Int) ^ (S.1 90 1).toNat = j by omega]; exact g8, Or.inr (Or.inl ⟨by omega, rfl⟩)⟩, rfl⟩)
        · refine go_iload_n (pc' := 136) h ⟨dZ_can_135, rfl⟩ rfl ?_
          refine gi_goto (tgt := 161) h dZ_can_136 rfl ?_
          exact gs_iret h hE dZ_can_161 (⟨Or.inr ⟨hx, nn, c, o, by rw [show (10 : Int) ^ (S.1 90 1).toNat = j by omega]; exact g7, by rw [show (10 : Int) ^ (S.1 90 1).toNat = j by omega]; exact g8, Or.inl ⟨by omega, rfl⟩⟩, rfl⟩)
      · refine go_aload_n (pc' := 51) h ⟨dZ_can_50, rfl⟩ rfl ?_
        refine go_iload (pc' := 53) h ⟨dZ_can_51, rfl⟩ rfl ?_
        refine gd_callVI (e := asZ S j) (E := S) (pc' := 56) (As := [.int (iI (j))]) (st := []) h hF ⟨dZ_can_53, rfl⟩ kvZ_181 (cZ_asSeen X hZ (by omega)) (by omega) rfl (by decide) ⟨_, _, rfl⟩ rfl (Nat.le_of_ble_eq_true rfl) rfl ?_
        have h01 : asZ S j = 0 ∨ asZ S j = 1 := h01
        refine gi_if_eq (tgt := 124) (pc' := 59) h dZ_can_56 rfl rfl (by omega) (fun c56 => ?_) (fun c56 => ?_)
        · refine gi_iinc (L' := [.ref 88, .int (iI (x)), .int (iI (nn)), .int (iI (c)), .int (iI (o)), .int (iI (j + 1))]) (pc' := 127) h ⟨dZ_can_124, rfl⟩ rfl (by decide) rfl rfl ?_
          refine gi_goto (tgt := 36) h dZ_can_127 rfl ?_
          have ea : asZ S j = 0 := by omega
          exact ih (j + 1) nn c o _ rfl (by omega) (by omega) (by omega) (fw_n g7 ea) (ct_n g5 g8 ea)
        · refine go_iload_n (pc' := 60) h ⟨dZ_can_59, rfl⟩ rfl ?_
          refine gi_if_ge (tgt := 67) (pc' := 63) h dZ_can_60 rfl rfl (by omega) (fun c60 => ?_) (fun c60 => ?_)
          · refine go_iload (pc' := 69) h ⟨dZ_can_67, rfl⟩ rfl ?_
            refine go_iload_n (pc' := 70) h ⟨dZ_can_69, rfl⟩ rfl ?_
            refine gd_callSI (e := 10 ^ x.toNat) (E := S) (pc' := 73) (As := [.int (iI (x))]) (st := [.int (iI (j))]) h hF ⟨dZ_can_70, rfl⟩ kvZ_178 (cZ_tens X (by omega)) (by omega) rfl (Nat.le_of_ble_eq_true rfl) rfl ?_
            have pt_70 := pow10le (k := x) (by omega)
            refine gi_idiv (pc' := 74) h ⟨dZ_can_73, rfl⟩ (by omega) ?_
            have hq0 : 0 ≤ j / 10 ^ x.toNat := Int.ediv_nonneg (by omega) (by omega)
            have hq1 : j / 10 ^ x.toNat ≤ j := Int.ediv_le_self _ (by omega)
            refine gi_bipush (pc' := 76) h ⟨dZ_can_74, rfl⟩ rfl ?_
            refine gi_irem (pc' := 77) h ⟨dZ_can_76, rfl⟩ (by omega) ?_
            refine gi_top (fun v e_v => ?_)
            refine go_istore (L' := [.ref 88, .int (iI (x)), .int (iI (nn)), .int (iI (c)), .int (iI (o)), .int (iI (j)), .int (iI (v))]) (pc' := 79) h ⟨dZ_can_77, rfl⟩ (by decide) rfl rfl ?_
            have hv : 0 ≤ v ∧ v ≤ 9 := by omega
            have hgo : 0 ≤ goI j ∧ goI j ≤ 100 := by unfold goI; omega
            refine go_iload_n (pc' := 80) h ⟨dZ_can_79, rfl⟩ rfl ?_
            refine gi_if_eq (tgt := 90) (pc' := 83) h dZ_can_80 rfl rfl (by omega) (fun c80 => ?_) (fun c80 => ?_)
            · refine go_iload (pc' := 92) h ⟨dZ_can_90, rfl⟩ rfl ?_
              refine gi_goto (tgt := 96) h dZ_can_92 rfl ?_
              refine go_istore (L' := [.ref 88, .int (iI (x)), .int (iI (nn)), .int (iI (c)), .int (iI (v)), .int (iI (j)), .int (iI (v))]) (pc' := 98) h ⟨dZ_can_96, rfl⟩ (by decide) rfl rfl ?_
              refine go_iload_n (pc' := 99) h ⟨dZ_can_98, rfl⟩ rfl ?_
              refine gi_if_eq (tgt := 111) (pc' := 102) h dZ_can_99 rfl rfl (by omega) (fun c99 => ?_) (fun c99 => ?_)
              · refine go_iload (pc' := 113) h ⟨dZ_can_111, rfl⟩ rfl ?_
                refine gd_callSI (e := goI j) (E := S) (pc' := 116) (As := [.int (iI (j))]) (st := []) h hF ⟨dZ_can_113, rfl⟩ kvZ_184 (cZ_goings X (by omega)) (by omega) rfl (Nat.le_of_ble_eq_true rfl) rfl ?_
                refine gi_goto (tgt := 120) h dZ_can_116 rfl ?_
                refine go_istore_n (L' := [.ref 88, .int (iI (x)), .int (iI (nn)), .int (iI (goI j)), .int (iI (v)), .int (iI (j)), .int (iI (v))]) (pc' := 121) h ⟨dZ_can_120, rfl⟩ (by decide) rfl rfl ?_
                refine gi_iinc (L' := [.ref 88, .int (iI (x)), .int (iI (nn + 1)), .int (iI (goI j)), .int (iI (v)), .int (iI (j)), .int (iI (v))]) (pc' := 124) h ⟨dZ_can_121, rfl⟩ rfl (by decide) rfl rfl ?_
                refine gi_iinc (L' := [.ref 88, .int (iI (x)), .int (iI (nn + 1)), .int (iI (goI j)), .int (iI (v)), .int (iI (j + 1)), .int (iI (v))]) (pc' := 127) h ⟨dZ_can_124, rfl⟩ rfl (by decide) rfl rfl ?_
                refine gi_goto (tgt := 36) h dZ_can_127 rfl ?_
                have ev : itV x j = v := by rw [e_v]; unfold itV; rw [if_neg (by omega)]; rfl
                exact ih (j + 1) (nn + 1) (goI j) v _ rfl (by omega) (by omega) (by omega) (fw_y g5 g7 (by omega) hgo (by omega)) (ct_y g5 g8 (by omega) (by omega) (by omega))
              · exfalso; omega
            · refine go_iload (pc' := 85) h ⟨dZ_can_83, rfl⟩ rfl ?_
              refine go_iload (pc' := 87) h ⟨dZ_can_85, rfl⟩ rfl ?_
              refine gi_icmp_ne (tgt := 95) (pc' := 90) h dZ_can_87 rfl rfl (by omega) (fun c87 => ?_) (fun c87 => ?_)
              · refine gi_iconst (pc' := 96) h ⟨dZ_can_95, rfl⟩ ?_
                refine go_istore (L' := [.ref 88, .int (iI (x)), .int (iI (nn)), .int (iI (c)), .int (iI (-1)), .int (iI (j)), .int (iI (v))]) (pc' := 98) h ⟨dZ_can_96, rfl⟩ (by decide) rfl rfl ?_
                refine go_iload_n (pc' := 99) h ⟨dZ_can_98, rfl⟩ rfl ?_
                refine gi_if_eq (tgt := 111) (pc' := 102) h dZ_can_99 rfl rfl (by omega) (fun c99 => ?_) (fun c99 => ?_)
                · exfalso; omega
                · refine go_iload (pc' := 104) h ⟨dZ_can_102, rfl⟩ rfl ?_
                  refine gd_callSI (e := goI j) (E := S) (pc' := 107) (As := [.int (iI (j))]) (st := []) h hF ⟨dZ_can_104, rfl⟩ kvZ_184 (cZ_goings X (by omega)) (by omega) rfl (Nat.le_of_ble_eq_true rfl) rfl ?_
                  refine go_iload_n (pc' := 108) h ⟨dZ_can_107, rfl⟩ rfl ?_
                  refine gi_icmp_ge (tgt := 119) (pc' := 111) h dZ_can_108 rfl rfl (by omega) (fun c108 => ?_) (fun c108 => ?_)
                  · refine go_iload_n (pc' := 120) h ⟨dZ_can_119, rfl⟩ rfl ?_
                    refine go_istore_n (L' := [.ref 88, .int (iI (x)), .int (iI (nn)), .int (iI (c)), .int (iI (-1)), .int (iI (j)), .int (iI (v))]) (pc' := 121) h ⟨dZ_can_120, rfl⟩ (by decide) rfl rfl ?_
                    refine gi_iinc (L' := [.ref 88, .int (iI (x)), .int (iI (nn + 1)), .int (iI (c)), .int (iI (-1)), .int (iI (j)), .int (iI (v))]) (pc' := 124) h ⟨dZ_can_121, rfl⟩ rfl (by decide) rfl rfl ?_
                    refine gi_iinc (L' := [.ref 88, .int (iI (x)), .int (iI (nn + 1)), .int (iI (c)), .int (iI (-1)), .int (iI (j + 1)), .int (iI (v))]) (pc' := 127) h ⟨dZ_can_124, rfl⟩ rfl (by decide) rfl rfl ?_
                    refine gi_goto (tgt := 36) h dZ_can_127 rfl ?_
                    have ev : itV x j = v := by rw [e_v]; unfold itV; rw [if_neg (by omega)]; rfl
                    exact ih (j + 1) (nn + 1) c (-1) _ rfl (by omega) (by omega) (by omega) (fw_y g5 g7 (by omega) hgo (by omega)) (ct_y g5 g8 (by omega) (by omega) (by omega))
                  · refine go_iload (pc' := 113) h ⟨dZ_can_111, rfl⟩ rfl ?_
                    refine gd_callSI (e := goI j) (E := S) (pc' := 116) (As := [.int (iI (j))]) (st := []) h hF ⟨dZ_can_113, rfl⟩ kvZ_184 (cZ_goings X (by omega)) (by omega) rfl (Nat.le_of_ble_eq_true rfl) rfl ?_
                    refine gi_goto (tgt := 120) h dZ_can_116 rfl ?_
                    refine go_istore_n (L' := [.ref 88, .int (iI (x)), .int (iI (nn)), .int (iI (goI j)), .int (iI (-1)), .int (iI (j)), .int (iI (v))]) (pc' := 121) h ⟨dZ_can_120, rfl⟩ (by decide) rfl rfl ?_
                    refine gi_iinc (L' := [.ref 88, .int (iI (x)), .int (iI (nn + 1)), .int (iI (goI j)), .int (iI (-1)), .int (iI (j)), .int (iI (v))]) (pc' := 124) h ⟨dZ_can_121, rfl⟩ rfl (by decide) rfl rfl ?_
                    refine gi_iinc (L' := [.ref 88, .int (iI (x)), .int (iI (nn + 1)), .int (iI (goI j)), .int (iI (-1)), .int (iI (j + 1)), .int (iI (v))]) (pc' := 127) h ⟨dZ_can_124, rfl⟩ rfl (by decide) rfl rfl ?_
                    refine gi_goto (tgt := 36) h dZ_can_127 rfl ?_
                    have ev : itV x j = v := by rw [e_v]; unfold itV; rw [if_neg (by omega)]; rfl
                    exact ih (j + 1) (nn + 1) (goI j) (-1) _ rfl (by omega) (by omega) (by omega) (fw_y g5 g7 (by omega) hgo (by omega)) (ct_y g5 g8 (by omega) (by omega) (by omega))
              · refine go_iload (pc' := 92) h ⟨dZ_can_90, rfl⟩ rfl ?_
                refine gi_goto (tgt := 96) h dZ_can_92 rfl ?_
                refine go_istore (L' := [.ref 88, .int (iI (x)), .int (iI (nn)), .int (iI (c)), .int (iI (v)), .int (iI (j)), .int (iI (v))]) (pc' := 98) h ⟨dZ_can_96, rfl⟩ (by decide) rfl rfl ?_
                refine go_iload_n (pc' := 99) h ⟨dZ_can_98, rfl⟩ rfl ?_
                refine gi_if_eq (tgt := 111) (pc' := 102) h dZ_can_99 rfl rfl (by omega) (fun c99 => ?_) (fun c99 => ?_)
                · exfalso; omega
                · refine go_iload (pc' := 104) h ⟨dZ_can_102, rfl⟩ rfl ?_
                  refine gd_callSI (e := goI j) (E := S) (pc' := 107) (As := [.int (iI (j))]) (st := []) h hF ⟨dZ_can_104, rfl⟩ kvZ_184 (cZ_goings X (by omega)) (by omega) rfl (Nat.le_of_ble_eq_true rfl) rfl ?_
                  refine go_iload_n (pc' := 108) h ⟨dZ_can_107, rfl⟩ rfl ?_
                  refine gi_icmp_ge (tgt := 119) (pc' := 111) h dZ_can_108 rfl rfl (by omega) (fun c108 => ?_) (fun c108 => ?_)
                  · refine go_iload_n (pc' := 120) h ⟨dZ_can_119, rfl⟩ rfl ?_
                    refine go_istore_n (L' := [.ref 88, .int (iI (x)), .int (iI (nn)), .int (iI (c)), .int (iI (v)), .int (iI (j)), .int (iI (v))]) (pc' := 121) h ⟨dZ_can_120, rfl⟩ (by decide) rfl rfl ?_
                    refine gi_iinc (L' := [.ref 88, .int (iI (x)), .int (iI (nn + 1)), .int (iI (c)), .int (iI (v)), .int (iI (j)), .int (iI (v))]) (pc' := 124) h ⟨dZ_can_121, rfl⟩ rfl (by decide) rfl rfl ?_
                    refine gi_iinc (L' := [.ref 88, .int (iI (x)), .int (iI (nn + 1)), .int (iI (c)), .int (iI (v)), .int (iI (j + 1)), .int (iI (v))]) (pc' := 127) h ⟨dZ_can_124, rfl⟩ rfl (by decide) rfl rfl ?_
                    refine gi_goto (tgt := 36) h dZ_can_127 rfl ?_
                    have ev : itV x j = v := by rw [e_v]; unfold itV; rw [if_neg (by omega)]; rfl
                    exact ih (j + 1) (nn + 1) c v _ rfl (by omega) (by omega) (by omega) (fw_y g5 g7 (by omega) hgo (by omega)) (ct_y g5 g8 (by omega) (by omega) (by omega))
                  · refine go_iload (pc' := 113) h ⟨dZ_can_111, rfl⟩ rfl ?_
                    refine gd_callSI (e := goI j) (E := S) (pc' := 116) (As := [.int (iI (j))]) (st := []) h hF ⟨dZ_can_113, rfl⟩ kvZ_184 (cZ_goings X (by omega)) (by omega) rfl (Nat.le_of_ble_eq_true rfl) rfl ?_
                    refine gi_goto (tgt := 120) h dZ_can_116 rfl ?_
                    refine go_istore_n (L' := [.ref 88, .int (iI (x)), .int (iI (nn)), .int (iI (goI j)), .int (iI (v)), .int (iI (j)), .int (iI (v))]) (pc' := 121) h ⟨dZ_can_120, rfl⟩ (by decide) rfl rfl ?_
                    refine gi_iinc (L' := [.ref 88, .int (iI (x)), .int (iI (nn + 1)), .int (iI (goI j)), .int (iI (v)), .int (iI (j)), .int (iI (v))]) (pc' := 124) h ⟨dZ_can_121, rfl⟩ rfl (by decide) rfl rfl ?_
                    refine gi_iinc (L' := [.ref 88, .int (iI (x)), .int (iI (nn + 1)), .int (iI (goI j)), .int (iI (v)), .int (iI (j + 1)), .int (iI (v))]) (pc' := 127) h ⟨dZ_can_124, rfl⟩ rfl (by decide) rfl rfl ?_
                    refine gi_goto (tgt := 36) h dZ_can_127 rfl ?_
                    have ev : itV x j = v := by rw [e_v]; unfold itV; rw [if_neg (by omega)]; rfl
                    exact ih (j + 1) (nn + 1) (goI j) v _ rfl (by omega) (by omega) (by omega) (fw_y g5 g7 (by omega) hgo (by omega)) (ct_y g5 g8 (by omega) (by omega) (by omega))
          · refine gi_iconst (pc' := 64) h ⟨dZ_can_63, rfl⟩ ?_
            refine gi_goto (tgt := 77) h dZ_can_64 rfl ?_
            refine gi_top (fun v e_v => ?_)
            refine go_istore (L' := [.ref 88, .int (iI (x)), .int (iI (nn)), .int (iI (c)), .int (iI (o)), .int (iI (j)), .int (iI (v))]) (pc' := 79) h ⟨dZ_can_77, rfl⟩ (by decide) rfl rfl ?_
            have hv : 0 ≤ v ∧ v ≤ 9 := by omega
            have hgo : 0 ≤ goI j ∧ goI j ≤ 100 := by unfold goI; omega
            refine go_iload_n (pc' := 80) h ⟨dZ_can_79, rfl⟩ rfl ?_
            refine gi_if_eq (tgt := 90) (pc' := 83) h dZ_can_80 rfl rfl (by omega) (fun c80 => ?_) (fun c80 => ?_)
            · refine go_iload (pc' := 92) h ⟨dZ_can_90, rfl⟩ rfl ?_
              refine gi_goto (tgt := 96) h dZ_can_92 rfl ?_
              refine go_istore (L' := [.ref 88, .int (iI (x)), .int (iI (nn)), .int (iI (c)), .int (iI (v)), .int (iI (j)), .int (iI (v))]) (pc' := 98) h ⟨dZ_can_96, rfl⟩ (by decide) rfl rfl ?_
              refine go_iload_n (pc' := 99) h ⟨dZ_can_98, rfl⟩ rfl ?_
              refine gi_if_eq (tgt := 111) (pc' := 102) h dZ_can_99 rfl rfl (by omega) (fun c99 => ?_) (fun c99 => ?_)
              · refine go_iload (pc' := 113) h ⟨dZ_can_111, rfl⟩ rfl ?_
                refine gd_callSI (e := goI j) (E := S) (pc' := 116) (As := [.int (iI (j))]) (st := []) h hF ⟨dZ_can_113, rfl⟩ kvZ_184 (cZ_goings X (by omega)) (by omega) rfl (Nat.le_of_ble_eq_true rfl) rfl ?_
                refine gi_goto (tgt := 120) h dZ_can_116 rfl ?_
                refine go_istore_n (L' := [.ref 88, .int (iI (x)), .int (iI (nn)), .int (iI (goI j)), .int (iI (v)), .int (iI (j)), .int (iI (v))]) (pc' := 121) h ⟨dZ_can_120, rfl⟩ (by decide) rfl rfl ?_
                refine gi_iinc (L' := [.ref 88, .int (iI (x)), .int (iI (nn + 1)), .int (iI (goI j)), .int (iI (v)), .int (iI (j)), .int (iI (v))]) (pc' := 124) h ⟨dZ_can_121, rfl⟩ rfl (by decide) rfl rfl ?_
                refine gi_iinc (L' := [.ref 88, .int (iI (x)), .int (iI (nn + 1)), .int (iI (goI j)), .int (iI (v)), .int (iI (j + 1)), .int (iI (v))]) (pc' := 127) h ⟨dZ_can_124, rfl⟩ rfl (by decide) rfl rfl ?_
                refine gi_goto (tgt := 36) h dZ_can_127 rfl ?_
                have ev : itV x j = v := by rw [e_v]; unfold itV; rw [if_pos (by omega)]
                exact ih (j + 1) (nn + 1) (goI j) v _ rfl (by omega) (by omega) (by omega) (fw_y g5 g7 (by omega) hgo (by omega)) (ct_y g5 g8 (by omega) (by omega) (by omega))
              · exfalso; omega
            · refine go_iload (pc' := 85) h ⟨dZ_can_83, rfl⟩ rfl ?_
              refine go_iload (pc' := 87) h ⟨dZ_can_85, rfl⟩ rfl ?_
              refine gi_icmp_ne (tgt := 95) (pc' := 90) h dZ_can_87 rfl rfl (by omega) (fun c87 => ?_) (fun c87 => ?_)
              · refine gi_iconst (pc' := 96) h ⟨dZ_can_95, rfl⟩ ?_
                refine go_istore (L' := [.ref 88, .int (iI (x)), .int (iI (nn)), .int (iI (c)), .int (iI (-1)), .int (iI (j)), .int (iI (v))]) (pc' := 98) h ⟨dZ_can_96, rfl⟩ (by decide) rfl rfl ?_
                refine go_iload_n (pc' := 99) h ⟨dZ_can_98, rfl⟩ rfl ?_
                refine gi_if_eq (tgt := 111) (pc' := 102) h dZ_can_99 rfl rfl (by omega) (fun c99 => ?_) (fun c99 => ?_)
                · exfalso; omega
                · refine go_iload (pc' := 104) h ⟨dZ_can_102, rfl⟩ rfl ?_
                  refine gd_callSI (e := goI j) (E := S) (pc' := 107) (As := [.int (iI (j))]) (st := []) h hF ⟨dZ_can_104, rfl⟩ kvZ_184 (cZ_goings X (by omega)) (by omega) rfl (Nat.le_of_ble_eq_true rfl) rfl ?_
                  refine go_iload_n (pc' := 108) h ⟨dZ_can_107, rfl⟩ rfl ?_
                  refine gi_icmp_ge (tgt := 119) (pc' := 111) h dZ_can_108 rfl rfl (by omega) (fun c108 => ?_) (fun c108 => ?_)
                  · refine go_iload_n (pc' := 120) h ⟨dZ_can_119, rfl⟩ rfl ?_
                    refine go_istore_n (L' := [.ref 88, .int (iI (x)), .int (iI (nn)), .int (iI (c)), .int (iI (-1)), .int (iI (j)), .int (iI (v))]) (pc' := 121) h ⟨dZ_can_120, rfl⟩ (by decide) rfl rfl ?_
                    refine gi_iinc (L' := [.ref 88, .int (iI (x)), .int (iI (nn + 1)), .int (iI (c)), .int (iI (-1)), .int (iI (j)), .int (iI (v))]) (pc' := 124) h ⟨dZ_can_121, rfl⟩ rfl (by decide) rfl rfl ?_
                    refine gi_iinc (L' := [.ref 88, .int (iI (x)), .int (iI (nn + 1)), .int (iI (c)), .int (iI (-1)), .int (iI (j + 1)), .int (iI (v))]) (pc' := 127) h ⟨dZ_can_124, rfl⟩ rfl (by decide) rfl rfl ?_
                    refine gi_goto (tgt := 36) h dZ_can_127 rfl ?_
                    have ev : itV x j = v := by rw [e_v]; unfold itV; rw [if_pos (by omega)]
                    exact ih (j + 1) (nn + 1) c (-1) _ rfl (by omega) (by omega) (by omega) (fw_y g5 g7 (by omega) hgo (by omega)) (ct_y g5 g8 (by omega) (by omega) (by omega))
                  · refine go_iload (pc' := 113) h ⟨dZ_can_111, rfl⟩ rfl ?_
                    refine gd_callSI (e := goI j) (E := S) (pc' := 116) (As := [.int (iI (j))]) (st := []) h hF ⟨dZ_can_113, rfl⟩ kvZ_184 (cZ_goings X (by omega)) (by omega) rfl (Nat.le_of_ble_eq_true rfl) rfl ?_
                    refine gi_goto (tgt := 120) h dZ_can_116 rfl ?_
                    refine go_istore_n (L' := [.ref 88, .int (iI (x)), .int (iI (nn)), .int (iI (goI j)), .int (iI (-1)), .int (iI (j)), .int (iI (v))]) (pc' := 121) h ⟨dZ_can_120, rfl⟩ (by decide) rfl rfl ?_
                    refine gi_iinc (L' := [.ref 88, .int (iI (x)), .int (iI (nn + 1)), .int (iI (goI j)), .int (iI (-1)), .int (iI (j)), .int (iI (v))]) (pc' := 124) h ⟨dZ_can_121, rfl⟩ rfl (by decide) rfl rfl ?_
                    refine gi_iinc (L' := [.ref 88, .int (iI (x)), .int (iI (nn + 1)), .int (iI (goI j)), .int (iI (-1)), .int (iI (j + 1)), .int (iI (v))]) (pc' := 127) h ⟨dZ_can_124, rfl⟩ rfl (by decide) rfl rfl ?_
                    refine gi_goto (tgt := 36) h dZ_can_127 rfl ?_
                    have ev : itV x j = v := by rw [e_v]; unfold itV; rw [if_pos (by omega)]
                    exact ih (j + 1) (nn + 1) (goI j) (-1) _ rfl (by omega) (by omega) (by omega) (fw_y g5 g7 (by omega) hgo (by omega)) (ct_y g5 g8 (by omega) (by omega) (by omega))
              · refine go_iload (pc' := 92) h ⟨dZ_can_90, rfl⟩ rfl ?_
                refine gi_goto (tgt := 96) h dZ_can_92 rfl ?_
                refine go_istore (L' := [.ref 88, .int (iI (x)), .int (iI (nn)), .int (iI (c)), .int (iI (v)), .int (iI (j)), .int (iI (v))]) (pc' := 98) h ⟨dZ_can_96, rfl⟩ (by decide) rfl rfl ?_
                refine go_iload_n (pc' := 99) h ⟨dZ_can_98, rfl⟩ rfl ?_
                refine gi_if_eq (tgt := 111) (pc' := 102) h dZ_can_99 rfl rfl (by omega) (fun c99 => ?_) (fun c99 => ?_)
                · exfalso; omega
                · refine go_iload (pc' := 104) h ⟨dZ_can_102, rfl⟩ rfl ?_
                  refine gd_callSI (e := goI j) (E := S) (pc' := 107) (As := [.int (iI (j))]) (st := []) h hF ⟨dZ_can_104, rfl⟩ kvZ_184 (cZ_goings X (by omega)) (by omega) rfl (Nat.le_of_ble_eq_true rfl) rfl ?_
                  refine go_iload_n (pc' := 108) h ⟨dZ_can_107, rfl⟩ rfl ?_
                  refine gi_icmp_ge (tgt := 119) (pc' := 111) h dZ_can_108 rfl rfl (by omega) (fun c108 => ?_) (fun c108 => ?_)
                  · refine go_iload_n (pc' := 120) h ⟨dZ_can_119, rfl⟩ rfl ?_
                    refine go_istore_n (L' := [.ref 88, .int (iI (x)), .int (iI (nn)), .int (iI (c)), .int (iI (v)), .int (iI (j)), .int (iI (v))]) (pc' := 121) h ⟨dZ_can_120, rfl⟩ (by decide) rfl rfl ?_
                    refine gi_iinc (L' := [.ref 88, .int (iI (x)), .int (iI (nn + 1)), .int (iI (c)), .int (iI (v)), .int (iI (j)), .int (iI (v))]) (pc' := 124) h ⟨dZ_can_121, rfl⟩ rfl (by decide) rfl rfl ?_
                    refine gi_iinc (L' := [.ref 88, .int (iI (x)), .int (iI (nn + 1)), .int (iI (c)), .int (iI (v)), .int (iI (j + 1)), .int (iI (v))]) (pc' := 127) h ⟨dZ_can_124, rfl⟩ rfl (by decide) rfl rfl ?_
                    refine gi_goto (tgt := 36) h dZ_can_127 rfl ?_
                    have ev : itV x j = v := by rw [e_v]; unfold itV; rw [if_pos (by omega)]
                    exact ih (j + 1) (nn + 1) c v _ rfl (by omega) (by omega) (by omega) (fw_y g5 g7 (by omega) hgo (by omega)) (ct_y g5 g8 (by omega) (by omega) (by omega))
                  · refine go_iload (pc' := 113) h ⟨dZ_can_111, rfl⟩ rfl ?_
                    refine gd_callSI (e := goI j) (E := S) (pc' := 116) (As := [.int (iI (j))]) (st := []) h hF ⟨dZ_can_113, rfl⟩ kvZ_184 (cZ_goings X (by omega)) (by omega) rfl (Nat.le_of_ble_eq_true rfl) rfl ?_
                    refine gi_goto (tgt := 120) h dZ_can_116 rfl ?_
                    refine go_istore_n (L' := [.ref 88, .int (iI (x)), .int (iI (nn)), .int (iI (goI j)), .int (iI (v)), .int (iI (j)), .int (iI (v))]) (pc' := 121) h ⟨dZ_can_120, rfl⟩ (by decide) rfl rfl ?_
                    refine gi_iinc (L' := [.ref 88, .int (iI (x)), .int (iI (nn + 1)), .int (iI (goI j)), .int (iI (v)), .int (iI (j)), .int (iI (v))]) (pc' := 124) h ⟨dZ_can_121, rfl⟩ rfl (by decide) rfl rfl ?_
                    refine gi_iinc (L' := [.ref 88, .int (iI (x)), .int (iI (nn + 1)), .int (iI (goI j)), .int (iI (v)), .int (iI (j + 1)), .int (iI (v))]) (pc' := 127) h ⟨dZ_can_124, rfl⟩ rfl (by decide) rfl rfl ?_
                    refine gi_goto (tgt := 36) h dZ_can_127 rfl ?_
                    have ev : itV x j = v := by rw [e_v]; unfold itV; rw [if_pos (by omega)]
                    exact ih (j + 1) (nn + 1) (goI j) v _ rfl (by omega) (by omega) (by omega) (fw_y g5 g7 (by omega) hgo (by omega)) (ct_y g5 g8 (by omega) (by omega) (by omega))
  refine go_aload_n (pc' := 1) h ⟨dZ_can_0, rfl⟩ rfl ?_
  refine gi_iconst (pc' := 2) h ⟨dZ_can_1, rfl⟩ ?_
  refine gd_putI (i := 0) (pc' := 5) h ⟨dZ_can_2, rfl⟩ fpZ_68 rfl (by decide) rfl rfl ?_
  rw [pt_z z0]
  refine go_iload_n (pc' := 6) h ⟨dZ_can_5, rfl⟩ rfl ?_
  refine gi_bipush (pc' := 8) h ⟨dZ_can_6, rfl⟩ rfl ?_
  refine go_aload_n (pc' := 9) h ⟨dZ_can_8, rfl⟩ rfl ?_
  refine gs_get (v := .ref 90) (pc' := 12) h ⟨dZ_can_9, rfl⟩ fgZ_13 rfl (by decide) (rfl) ?_
  refine gi_iconst (pc' := 13) h ⟨dZ_can_12, rfl⟩ ?_
  refine gs_iald (pc' := 14) h ⟨dZ_can_13, rfl⟩ rfl (by have hln : (ln 90 : Int) = 8 := rfl; omega) ?_
  refine gi_iconst (pc' := 15) h ⟨dZ_can_14, rfl⟩ ?_
  refine gi_isub (pc' := 16) h ⟨dZ_can_15, rfl⟩ ?_
  refine gd_callSI (e := if -2 ≤ x ∧ x ≤ (S.1 90 1) - 1 then 1 else 0) (E := S) (pc' := 19) (As := [.int (iI (x)), .int (iI (-2)), .int (iI ((S.1 90 1) - 1))]) (st := []) h hF ⟨dZ_can_16, rfl⟩ kvZ_72 (cZ_in X (by omega)) (by omega) rfl (Nat.le_of_ble_eq_true rfl) rfl ?_
  refine gi_if_ne (tgt := 24) (pc' := 22) h dZ_can_19 rfl rfl (by split <;> omega) (fun c19 => ?_) (fun c19 => ?_)
  · have c19 := b1 c19
    refine gi_iconst (pc' := 25) h ⟨dZ_can_24, rfl⟩ ?_
    refine go_istore_n (L' := [.ref 88, .int (iI (x)), .int (iI (0))]) (pc' := 26) h ⟨dZ_can_25, rfl⟩ (by decide) rfl rfl ?_
    refine gi_bipush (pc' := 28) h ⟨dZ_can_26, rfl⟩ rfl ?_
    refine go_istore_n (L' := [.ref 88, .int (iI (x)), .int (iI (0)), .int (iI (-9))]) (pc' := 29) h ⟨dZ_can_28, rfl⟩ (by decide) rfl rfl ?_
    refine gi_bipush (pc' := 31) h ⟨dZ_can_29, rfl⟩ rfl ?_
    refine go_istore (L' := [.ref 88, .int (iI (x)), .int (iI (0)), .int (iI (-9)), .int (iI (-9))]) (pc' := 33) h ⟨dZ_can_31, rfl⟩ (by decide) rfl rfl ?_
    refine gi_iconst (pc' := 34) h ⟨dZ_can_33, rfl⟩ ?_
    refine go_istore (L' := [.ref 88, .int (iI (x)), .int (iI (0)), .int (iI (-9)), .int (iI (-9)), .int (iI (0))]) (pc' := 36) h ⟨dZ_can_34, rfl⟩ (by decide) rfl rfl ?_
    exact loop (by omega) 10001 0 0 (-9) (-9) _ rfl (by omega) (by omega) (by omega) (fw_0 _ _) (ct_0 _ _ _)
  · have c19 := b0 c19
    refine gi_iconst (pc' := 23) h ⟨dZ_can_22, rfl⟩ ?_
    exact gs_iret h hE dZ_can_23 (⟨Or.inl ⟨by omega, rfl⟩, rfl⟩)
