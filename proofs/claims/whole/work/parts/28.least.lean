/-! the reference: the least changes -/
theorem shl_6 : ∀ k : Nat, k < 7 → iI 1 <<< (iI (k : Int) &&& 31) = iI (2 ^ k) := by decide +kernel
theorem shl6 {k : Int} (h : 0 ≤ k ∧ k ≤ 6) : iI 1 <<< (iI k &&& 31) = iI (2 ^ k.toNat) := by
  have := shl_6 k.toNat (by omega)
  rwa [Int.toNat_of_nonneg h.1] at this
theorem pow2_6 : ∀ k : Nat, k < 7 → (1 : Int) ≤ 2 ^ k ∧ (2 : Int) ^ k ≤ 64 := by decide +kernel
theorem pow26 {k : Int} (h : 0 ≤ k ∧ k ≤ 6) : (1 : Int) ≤ 2 ^ k.toNat ∧ (2 : Int) ^ k.toNat ≤ 64 := pow2_6 k.toNat (by omega)
def hgD : Nat → Int
  | 0 => 0
  | k + 1 => 2 * hgD k + 999999
theorem hgD_0 : ∀ k : Nat, 0 ≤ hgD k
  | 0 => Int.le_refl _
  | k + 1 => by have := hgD_0 k; show 0 ≤ 2 * hgD k + 999999; omega
theorem hgF_df {S : Sg} (h : frOk S) (set : Int) : ∀ k : Nat, (k : Int) ≤ S.1 88 26 → ∀ l m : Int, (hgF (S.1 101) (S.1 102) (S.1 103) set k).2.1 l = (hgF (S.1 101) (S.1 102) (S.1 103) set k).2.1 m → -hgD k ≤ (hgF (S.1 101) (S.1 102) (S.1 103) set k).1 l - (hgF (S.1 101) (S.1 102) (S.1 103) set k).1 m ∧ (hgF (S.1 101) (S.1 102) (S.1 103) set k).1 l - (hgF (S.1 101) (S.1 102) (S.1 103) set k).1 m ≤ hgD k
  | 0, _, l, m, _ => by show -0 ≤ (0 : Int) - 0 ∧ (0 : Int) - 0 ≤ 0; omega
  | k + 1, hk, l, m, hlm => by
    have ih := hgF_df h set k (by omega)
    have h3 := h.2 k (by omega) (by omega)
    have h0 := hgD_0 k
    rw [hgF] at hlm ⊢
    show -(2 * hgD k + 999999) ≤ _ ∧ _ ≤ 2 * hgD k + 999999
    by_cases hb : bitI set (k : Int) = 1
    · rw [if_pos hb] at hlm ⊢
      generalize hgF (S.1 101) (S.1 102) (S.1 103) set k = P at hlm ih ⊢
      obtain ⟨f, g, e⟩ := P
      change ∀ l m : Int, g l = g m → -hgD k ≤ f l - f m ∧ f l - f m ≤ hgD k at ih
      change hgG g (g (S.1 101 k)) (g (S.1 102 k)) l = hgG g (g (S.1 101 k)) (g (S.1 102 k)) m at hlm
      show -(2 * hgD k + 999999) ≤ hgL f g (g (S.1 101 k)) (g (S.1 102 k)) (f (S.1 101 k) + S.1 103 k - f (S.1 102 k)) l - hgL f g (g (S.1 101 k)) (g (S.1 102 k)) (f (S.1 101 k) + S.1 103 k - f (S.1 102 k)) m ∧ hgL f g (g (S.1 101 k)) (g (S.1 102 k)) (f (S.1 101 k) + S.1 103 k - f (S.1 102 k)) l - hgL f g (g (S.1 101 k)) (g (S.1 102 k)) (f (S.1 101 k) + S.1 103 k - f (S.1 102 k)) m ≤ 2 * hgD k + 999999
      unfold hgL
      unfold hgG at hlm
      by_cases hl : g l = g (S.1 102 k) ∧ g (S.1 101 k) ≠ g (S.1 102 k)
      · rw [if_pos hl] at hlm ⊢
        by_cases hm : g m = g (S.1 102 k) ∧ g (S.1 101 k) ≠ g (S.1 102 k)
        · rw [if_pos hm] at hlm ⊢
          have := ih l m (by omega)
          omega
        · rw [if_neg hm] at hlm ⊢
          have h4 := ih l _ hl.1
          have h5 := ih _ m hlm
          omega
      · rw [if_neg hl] at hlm ⊢
        by_cases hm : g m = g (S.1 102 k) ∧ g (S.1 101 k) ≠ g (S.1 102 k)
        · rw [if_pos hm] at hlm ⊢
          have h4 := ih _ m hm.1.symm
          have h5 := ih l _ hlm
          omega
        · rw [if_neg hm] at hlm ⊢
          have := ih l m hlm
          omega
    · rw [if_neg hb] at hlm ⊢
      have := ih l m hlm
      omega
theorem hgD_le : ∀ k : Nat, k < 7 → hgD k ≤ 63000000 := by decide +kernel
def csZ (S : Sg) (f : Int → Int) (k : Int) : Int := absI (f (S.1 102 k) - f (S.1 101 k) - S.1 103 k)
def cstZ (S : Sg) (set : Int) : Int := sumI (csZ S (hgZ S set).1) (S.1 88 26)
def lcZ (S : Sg) : Nat → Int
  | 0 => 1000000000
  | s + 1 => if hgO S (s : Int) = 1 ∧ cstZ S (s : Int) < lcZ S s then cstZ S (s : Int) else lcZ S s
theorem hgO01 (S : Sg) (set : Int) : hgO S set = 0 ∨ hgO S set = 1 := by unfold hgO; split <;> omega
theorem absI_c (x : Int) : (0 ≤ x ∧ absI x = x) ∨ (x < 0 ∧ absI x = -x) := by unfold absI; split <;> omega
theorem hgO_df {S : Sg} (h : frOk S) {set : Int} (ho : hgO S set = 1) {k : Int} (hk : 0 ≤ k ∧ k < S.1 88 26) : (-63000000 ≤ (hgZ S set).1 (S.1 102 k) - (hgZ S set).1 (S.1 101 k) ∧ (hgZ S set).1 (S.1 102 k) - (hgZ S set).1 (S.1 101 k) ≤ 63000000) := by
  have h0 := h.1
  unfold hgO at ho
  split at ho
  · rename_i hc
    have h1 := wh_all _ hc.2 k.toNat (by omega)
    rw [Int.toNat_of_nonneg hk.1] at h1
    have h2 := hgF_df h set (S.1 88 26).toNat (by omega) (S.1 102 k) (S.1 101 k) h1.symm
    have h3 := hgD_le (S.1 88 26).toNat (by omega)
    change -hgD (S.1 88 26).toNat ≤ (hgZ S set).1 (S.1 102 k) - (hgZ S set).1 (S.1 101 k) ∧ (hgZ S set).1 (S.1 102 k) - (hgZ S set).1 (S.1 101 k) ≤ hgD (S.1 88 26).toNat at h2
    omega
  · omega
theorem csZ_bd {S : Sg} (h : frOk S) {set : Int} (ho : hgO S set = 1) {k : Int} (hk : 0 ≤ k ∧ k < S.1 88 26) : 0 ≤ csZ S (hgZ S set).1 k ∧ csZ S (hgZ S set).1 k ≤ 64000000 := by
  have h1 := hgO_df h ho hk
  have h2 := h.2 k hk.1 hk.2
  have h3 := absI_c ((hgZ S set).1 (S.1 102 k) - (hgZ S set).1 (S.1 101 k) - S.1 103 k)
  unfold csZ
  omega
theorem lcZ_bd (S : Sg) (h : frOk S) : ∀ s : Nat, 0 ≤ lcZ S s ∧ lcZ S s ≤ 1000000000
  | 0 => by show (0 : Int) ≤ 1000000000 ∧ (1000000000 : Int) ≤ 1000000000; omega
  | s + 1 => by
    have ih := lcZ_bd S h s
    rw [lcZ]
    split
    · rename_i hc
      have := sumI_bd (f := csZ S (hgZ S s).1) (B := 64000000) (n := S.1 88 26) h.1.1 (fun i i1 i2 => csZ_bd h hc.1 ⟨i1, i2⟩)
      unfold cstZ at hc ⊢
      omega
    · exact ih
theorem mkZ_le {S : Sg} (h : ZS S) {l : Int} (hl : 0 ≤ l ∧ l ≤ S.1 90 0) : 0 ≤ mkZ S l ∧ mkZ S l ≤ tpZ S := by
  have h1 : ∀ n : Nat, l + n ≤ S.1 90 0 → mkZ S l ≤ mkZ S (l + n) := by
    intro n
    induction n with
    | zero => intro _; rw [show l + ((0 : Nat) : Int) = l by omega]; exact Int.le_refl _
    | succ n ih =>
      intro hn
      have h2 := ih (by omega)
      have h3 := (h.2 (l + n) (by omega) (by omega)).1
      unfold mkZ at h2 ⊢
      rw [show l + ((n + 1 : Nat) : Int) = l + n + 1 by omega, sumI_s _ (by omega)]
      omega
  have h2 := h1 (S.1 90 0 - l).toNat (by omega)
  rw [show l + ((S.1 90 0 - l).toNat : Int) = S.1 90 0 by omega] at h2
  have h3 := mkZ_bd h hl
  unfold tpZ
  omega
theorem alZ_bd {S : Sg} (h : ZS S) {m : Int} (hm : 0 ≤ m ∧ m ≤ tpZ S) : 0 ≤ alZ S (1000 * m) ∧ alZ S (1000 * m) ≤ 8000000 := by
  have h1 := hkZ_sm h m.toNat (by omega)
  have h2 := tpZ_bd h
  rw [Int.toNat_of_nonneg hm.1] at h1
  unfold alZ
  rw [if_pos (by omega), show 1000 * m / 1000 = m by omega]
  change 0 ≤ sumI (hkZ S) m ∧ sumI (hkZ S) m ≤ 8000000
  omega
set_option maxRecDepth 4000 in
theorem cZ_apart (X : XT) {S : Sg} {a b : Int} (hb : (-1000000000 ≤ a ∧ a ≤ 1000000000) ∧ (-1000000000 ≤ b ∧ b ≤ 1000000000)) : Ctr X 0 yZ_apart bZ_apart 2 (some .int) [.int (iI (a)), .int (iI (b))] (mk S) (PI (fun r S' => r = absI (a - b) ∧ S' = S)) 0 0 := by
  refine Ctr.ofS (by decide) rfl (Nat.le_of_ble_eq_true rfl) (fun F h hF hE => ?_)
  refine go_iload_n (pc' := 1) h ⟨dZ_apart_0, rfl⟩ rfl ?_
  refine go_iload_n (pc' := 2) h ⟨dZ_apart_1, rfl⟩ rfl ?_
  refine gi_icmp_le (tgt := 11) (pc' := 5) h dZ_apart_2 rfl rfl (by omega) (fun c2 => ?_) (fun c2 => ?_)
  · refine go_iload_n (pc' := 12) h ⟨dZ_apart_11, rfl⟩ rfl ?_
    refine go_iload_n (pc' := 13) h ⟨dZ_apart_12, rfl⟩ rfl ?_
    refine gi_isub (pc' := 14) h ⟨dZ_apart_13, rfl⟩ ?_
    exact gs_iret h hE dZ_apart_14 (⟨by have := absI_c (a - b); omega, rfl⟩)
  · refine go_iload_n (pc' := 6) h ⟨dZ_apart_5, rfl⟩ rfl ?_
    refine go_iload_n (pc' := 7) h ⟨dZ_apart_6, rfl⟩ rfl ?_
    refine gi_isub (pc' := 8) h ⟨dZ_apart_7, rfl⟩ ?_
    refine gi_goto (tgt := 14) h dZ_apart_8 rfl ?_
    exact gs_iret h hE dZ_apart_14 (⟨by have := absI_c (a - b); omega, rfl⟩)
set_option maxRecDepth 4000 in
theorem cZ_least (X : XT) {S : Sg} (hO : frOk S) : Ctr X 1 yZ_leastChanges bZ_leastChanges 5 (some .int) [.ref 88] (mk S) (PI (fun r S' => r = lcZ S (2 ^ (S.1 88 26).toNat) ∧ ∃ f g, S' = hst S f g)) 0 0 := by
  refine Ctr.ofS (by decide) rfl (Nat.le_of_ble_eq_true rfl) (fun F h hF hE => ?_)
  obtain ⟨zme, zmk⟩ := id hO
  have hp := pow26 (k := S.1 88 26) (by omega)
  have loop : ∀ (n j : Nat) (f g : Int → Int) (LL : List Value), LL.take 3 = [.ref 88, .int (iI (lcZ S j)), .int (iI (j : Int))] → 64 < j + n → (j : Int) ≤ 2 ^ (S.1 88 26).toNat → Go F 5 (mk (hst S f g)) 0 0 5 LL [] := by
    intro n
    induction n with
    | zero => intro j f g LL hL g4 g6; exfalso; omega
    | succ n ih =>
      intro j f g LL hL g4 g6
      have hl := lcZ_bd S hO j
      have h01 := hgO01 S j
      have inner : ∀ (f g : Int → Int), (j : Int) < 2 ^ (S.1 88 26).toNat → hgO S j = 1 → eq6 f (hgZ S j).1 → ∀ (m : Nat) (k : Int), 6 < k + m → 0 ≤ k → k ≤ S.1 88 26 → Go F 5 (mk (hst S f g)) 0 0 28 [.ref 88, .int (iI (lcZ S j)), .int (iI (j : Int)), .int (iI (sumI (csZ S (hgZ S j).1) k)), .int (iI k)] [] := by
        intro f g hj ho he m
        induction m with
        | zero => intro k k4 k5 k6; exfalso; omega
        | succ m ihm =>
          intro k k4 k5 k6
          have hsum := sumI_bd (f := csZ S (hgZ S j).1) (B := 64000000) (n := k) k5 (fun q q1 q2 => csZ_bd hO ho ⟨q1, by omega⟩)
          refine go_iload (pc' := 30) h ⟨dZ_leastChanges_28, rfl⟩ rfl ?_
          refine go_aload_n (pc' := 31) h ⟨dZ_leastChanges_30, rfl⟩ rfl ?_
          refine gs_get (v := .int (iI (S.1 88 26))) (pc' := 34) h ⟨dZ_leastChanges_31, rfl⟩ fgZ_130 rfl (by decide) (rfl) ?_
          refine gi_icmp_ge (tgt := 81) (pc' := 37) h dZ_leastChanges_34 rfl rfl (by omega) (fun c34 => ?_) (fun c34 => ?_)
          · refine go_iload_n (pc' := 82) h ⟨dZ_leastChanges_81, rfl⟩ rfl ?_
            refine go_iload_n (pc' := 83) h ⟨dZ_leastChanges_82, rfl⟩ rfl ?_
            refine gi_icmp_ge (tgt := 90) (pc' := 86) h dZ_leastChanges_83 rfl rfl (by omega) (fun c83 => ?_) (fun c83 => ?_)
            · refine go_iload_n (pc' := 91) h ⟨dZ_leastChanges_90, rfl⟩ rfl ?_
              refine go_istore_n (L' := [.ref 88, .int (iI (lcZ S j)), .int (iI ((j : Int))), .int (iI (sumI (csZ S (hgZ S j).1) k)), .int (iI (k))]) (pc' := 92) h ⟨dZ_leastChanges_91, rfl⟩ (by decide) rfl rfl ?_
              refine gi_iinc (L' := [.ref 88, .int (iI (lcZ S j)), .int (iI ((j : Int) + 1)), .int (iI (sumI (csZ S (hgZ S j).1) k)), .int (iI (k))]) (pc' := 95) h ⟨dZ_leastChanges_92, rfl⟩ rfl (by decide) rfl rfl ?_
              refine gi_goto (tgt := 5) h dZ_leastChanges_95 rfl ?_
              have e_k : k = S.1 88 26 := by omega
              subst e_k
              exact ih (j + 1) f g _ (by show [_, _, _] = _; rw [lcZ, if_neg (by unfold cstZ; omega)]; rfl) (by omega) (by omega)
            · refine go_iload_n (pc' := 87) h ⟨dZ_leastChanges_86, rfl⟩ rfl ?_
              refine gi_goto (tgt := 91) h dZ_leastChanges_87 rfl ?_
              refine go_istore_n (L' := [.ref 88, .int (iI (sumI (csZ S (hgZ S j).1) k)), .int (iI ((j : Int))), .int (iI (sumI (csZ S (hgZ S j).1) k)), .int (iI (k))]) (pc' := 92) h ⟨dZ_leastChanges_91, rfl⟩ (by decide) rfl rfl ?_
              refine gi_iinc (L' := [.ref 88, .int (iI (sumI (csZ S (hgZ S j).1) k)), .int (iI ((j : Int) + 1)), .int (iI (sumI (csZ S (hgZ S j).1) k)), .int (iI (k))]) (pc' := 95) h ⟨dZ_leastChanges_92, rfl⟩ rfl (by decide) rfl rfl ?_
              refine gi_goto (tgt := 5) h dZ_leastChanges_95 rfl ?_
              have e_k : k = S.1 88 26 := by omega
              subst e_k
              exact ih (j + 1) f g _ (by show [_, _, _] = _; rw [lcZ, if_pos (by unfold cstZ; omega)]; rfl) (by omega) (by omega)
          · have hk := zmk k k5 (by omega)
            have e1 := he (S.1 102 k) (by omega) (by omega)
            have e2 := he (S.1 101 k) (by omega) (by omega)
            have hdf := hgO_df hO ho (k := k) (by omega)
            refine go_iload_n (pc' := 38) h ⟨dZ_leastChanges_37, rfl⟩ rfl ?_
            refine go_aload_n (pc' := 39) h ⟨dZ_leastChanges_38, rfl⟩ rfl ?_
            refine gs_get (v := .ref 104) (pc' := 42) h ⟨dZ_leastChanges_39, rfl⟩ fgZ_56 rfl (by decide) (rfl) ?_
            refine go_aload_n (pc' := 43) h ⟨dZ_leastChanges_42, rfl⟩ rfl ?_
            refine gs_get (v := .ref 102) (pc' := 46) h ⟨dZ_leastChanges_43, rfl⟩ fgZ_50 rfl (by decide) (rfl) ?_
            refine go_iload (pc' := 48) h ⟨dZ_leastChanges_46, rfl⟩ rfl ?_
            refine gs_iald (pc' := 49) h ⟨dZ_leastChanges_48, rfl⟩ rfl (by have hln : (ln 102 : Int) = 6 := rfl; omega) ?_
            rw [show ((hst S f g).1 102 k : Int) = S.1 102 k from rfl]
            refine gs_iald (pc' := 50) h ⟨dZ_leastChanges_49, rfl⟩ rfl (by have hln : (ln 104 : Int) = 6 := rfl; omega) ?_
            rw [show ((hst S f g).1 104 (S.1 102 k) : Int) = f (S.1 102 k) from rfl]
            refine go_aload_n (pc' := 51) h ⟨dZ_leastChanges_50, rfl⟩ rfl ?_
            refine gs_get (v := .ref 104) (pc' := 54) h ⟨dZ_leastChanges_51, rfl⟩ fgZ_56 rfl (by decide) (rfl) ?_
            refine go_aload_n (pc' := 55) h ⟨dZ_leastChanges_54, rfl⟩ rfl ?_
            refine gs_get (v := .ref 101) (pc' := 58) h ⟨dZ_leastChanges_55, rfl⟩ fgZ_47 rfl (by decide) (rfl) ?_
            refine go_iload (pc' := 60) h ⟨dZ_leastChanges_58, rfl⟩ rfl ?_
            refine gs_iald (pc' := 61) h ⟨dZ_leastChanges_60, rfl⟩ rfl (by have hln : (ln 101 : Int) = 6 := rfl; omega) ?_
            rw [show ((hst S f g).1 101 k : Int) = S.1 101 k from rfl]
            refine gs_iald (pc' := 62) h ⟨dZ_leastChanges_61, rfl⟩ rfl (by have hln : (ln 104 : Int) = 6 := rfl; omega) ?_
            rw [show ((hst S f g).1 104 (S.1 101 k) : Int) = f (S.1 101 k) from rfl]
            refine gi_isub (pc' := 63) h ⟨dZ_leastChanges_62, rfl⟩ ?_
            refine go_aload_n (pc' := 64) h ⟨dZ_leastChanges_63, rfl⟩ rfl ?_
            refine gs_get (v := .ref 103) (pc' := 67) h ⟨dZ_leastChanges_64, rfl⟩ fgZ_53 rfl (by decide) (rfl) ?_
            refine go_iload (pc' := 69) h ⟨dZ_leastChanges_67, rfl⟩ rfl ?_
            refine gs_iald (pc' := 70) h ⟨dZ_leastChanges_69, rfl⟩ rfl (by have hln : (ln 103 : Int) = 6 := rfl; omega) ?_
            rw [show ((hst S f g).1 103 k : Int) = S.1 103 k from rfl]
            refine gd_callSI (e := absI (((f (S.1 102 k)) - (f (S.1 101 k))) - (S.1 103 k))) (E := hst S f g) (pc' := 73) (As := [.int (iI ((f (S.1 102 k)) - (f (S.1 101 k)))), .int (iI (S.1 103 k))]) (st := [.int (iI (sumI (csZ S (hgZ S j).1) k))]) h hF ⟨dZ_leastChanges_70, rfl⟩ kvZ_192 (cZ_apart X (by omega)) (by omega) rfl (Nat.le_of_ble_eq_true rfl) rfl ?_
            refine gi_iadd (pc' := 74) h ⟨dZ_leastChanges_73, rfl⟩ ?_
            refine go_istore_n (L' := [.ref 88, .int (iI (lcZ S j)), .int (iI ((j : Int))), .int (iI ((sumI (csZ S (hgZ S j).1) k) + (absI (((f (S.1 102 k)) - (f (S.1 101 k))) - (S.1 103 k))))), .int (iI (k))]) (pc' := 75) h ⟨dZ_leastChanges_74, rfl⟩ (by decide) rfl rfl ?_
            refine gi_iinc (L' := [.ref 88, .int (iI (lcZ S j)), .int (iI ((j : Int))), .int (iI ((sumI (csZ S (hgZ S j).1) k) + (absI (((f (S.1 102 k)) - (f (S.1 101 k))) - (S.1 103 k))))), .int (iI (k + 1))]) (pc' := 78) h ⟨dZ_leastChanges_75, rfl⟩ rfl (by decide) rfl rfl ?_
            refine gi_goto (tgt := 28) h dZ_leastChanges_78 rfl ?_
            have g9 := ihm (k + 1) (by omega) (by omega) (by omega)
            rw [sumI_s _ k5] at g9
            unfold csZ at g9
            rw [← e1, ← e2] at g9
            exact g9
      refine Go.cut [.ref 88, .int (iI (lcZ S j)), .int (iI (j : Int))] 3 hL ?_
      refine go_iload_n (pc' := 6) h ⟨dZ_leastChanges_5, rfl⟩ rfl ?_
      refine gi_iconst (pc' := 7) h ⟨dZ_leastChanges_6, rfl⟩ ?_
      refine go_aload_n (pc' := 8) h ⟨dZ_leastChanges_7, rfl⟩ rfl ?_
      refine gs_get (v := .int (iI (S.1 88 26))) (pc' := 11) h ⟨dZ_leastChanges_8, rfl⟩ fgZ_130 rfl (by decide) (rfl) ?_
      refine gi_ishl (c := 2 ^ (S.1 88 26).toNat) (pc' := 12) h ⟨dZ_leastChanges_11, rfl⟩ (shl6 zme) ?_
      refine gi_icmp_ge (tgt := 98) (pc' := 15) h dZ_leastChanges_12 rfl rfl (by omega) (fun c12 => ?_) (fun c12 => ?_)
      · refine go_iload_n (pc' := 99) h ⟨dZ_leastChanges_98, rfl⟩ rfl ?_
        exact gs_iret h hE dZ_leastChanges_99 (⟨by rw [show j = 2 ^ (S.1 88 26).toNat by have e := Int.natCast_pow 2 (S.1 88 26).toNat; have e2 : ((2 : Nat) : Int) = 2 := rfl; rw [e2] at e; omega], f, g, rfl⟩)
      · refine go_aload_n (pc' := 16) h ⟨dZ_leastChanges_15, rfl⟩ rfl ?_
        refine go_iload_n (pc' := 17) h ⟨dZ_leastChanges_16, rfl⟩ rfl ?_
        refine gs_callVI (pc' := 20) (As := [.int (iI ((j : Int)))]) (st := []) h hF ⟨dZ_leastChanges_17, rfl⟩ kvZ_189 (cZ_hangs X hO (by omega)) (by omega) rfl (by decide) ⟨_, _, rfl⟩ rfl (Nat.le_of_ble_eq_true rfl) rfl (fun r17 S17 h17 => ?_)
        obtain ⟨e17, f1, g1, e18, e19⟩ := h17
        subst e17
        subst e18
        refine gi_if_eq (tgt := 92) (pc' := 23) h dZ_leastChanges_20 rfl rfl (by omega) (fun c20 => ?_) (fun c20 => ?_)
        · refine gi_iinc (L' := [.ref 88, .int (iI (lcZ S j)), .int (iI ((j : Int) + 1))]) (pc' := 95) h ⟨dZ_leastChanges_92, rfl⟩ rfl (by decide) rfl rfl ?_
          refine gi_goto (tgt := 5) h dZ_leastChanges_95 rfl ?_
          exact ih (j + 1) f1 g1 _ (by show [_, _, _] = _; rw [lcZ, if_neg (by omega)]; rfl) (by omega) (by omega)
        · refine gi_iconst (pc' := 24) h ⟨dZ_leastChanges_23, rfl⟩ ?_
          refine go_istore_n (L' := [.ref 88, .int (iI (lcZ S j)), .int (iI ((j : Int))), .int (iI (0))]) (pc' := 25) h ⟨dZ_leastChanges_24, rfl⟩ (by decide) rfl rfl ?_
          refine gi_iconst (pc' := 26) h ⟨dZ_leastChanges_25, rfl⟩ ?_
          refine go_istore (L' := [.ref 88, .int (iI (lcZ S j)), .int (iI ((j : Int))), .int (iI (0)), .int (iI (0))]) (pc' := 28) h ⟨dZ_leastChanges_26, rfl⟩ (by decide) rfl rfl ?_
          exact inner f1 g1 (by omega) (by omega) e19 7 0 (by omega) (by omega) (by omega)
  rw [show mk S = mk (hst S (S.1 104) (S.1 105)) from by rw [hst_self]]
  refine gi_ldc (n := 1000000000) (pc' := 2) h ⟨dZ_leastChanges_0, rfl⟩ csZ_188 ?_
  refine go_istore_n (L' := [.ref 88, .int (iI (1000000000))]) (pc' := 3) h ⟨dZ_leastChanges_2, rfl⟩ (by decide) rfl rfl ?_
  refine gi_iconst (pc' := 4) h ⟨dZ_leastChanges_3, rfl⟩ ?_
  refine go_istore_n (L' := [.ref 88, .int (iI (1000000000)), .int (iI (0))]) (pc' := 5) h ⟨dZ_leastChanges_4, rfl⟩ (by decide) rfl rfl ?_
  exact loop 65 0 _ _ _ rfl (by omega) (by omega)
def ofZ (S : Sg) (k : Int) : Int := absI (alZ S (1000 * mkZ S (S.1 102 k)) - alZ S (1000 * mkZ S (S.1 101 k)) - S.1 103 k)
def zAgree (S : Sg) (x r : Int) (S' : Sg) : Prop := (x = 0 ∧ r = lcZ S (2 ^ (S.1 88 26).toNat) ∧ ∃ f g, S' = hst S f g) ∨ (x = 1 ∧ r = sumI (ofZ S) (S.1 88 26) ∧ S' = S) ∨ ((x ≠ 0 ∧ x ≠ 1) ∧ r = -1 ∧ S' = S)
set_option maxRecDepth 4000 in
theorem cZ_agree (X : XT) {S : Sg} (hZ : ZI S) (hml : ∀ k : Int, 0 ≤ k → k < S.1 88 26 → S.1 102 k ≤ S.1 90 0) {x : Int} (hx : -2147483648 ≤ x ∧ x ≤ 2147483647) : Ctr X 6 yZ_agree bZ_agree 4 (some .int) [.ref 88, .int (iI (x))] (mk S) (PI (fun r S' => zAgree S x r S')) 0 0 := by
  refine Ctr.ofS (by decide) rfl (Nat.le_of_ble_eq_true rfl) (fun F h hF hE => ?_)
  obtain ⟨z0, zt, ztx, zm0, zm1, zm2, zm3, zst, ztr, zat, zsy, zth, ztg, zwr, zun, zkp, zse, zsk, zme, zmk, zl5, zl6, zl7⟩ := id hZ
  have hZS : ZS S := ⟨zm0, zst⟩
  have htp := tpZ_bd hZS
  have loop : x = 1 → ∀ (n : Nat) (j : Int), 6 < j + n → 0 ≤ j → j ≤ S.1 88 26 → Go F 4 (mk S) 0 0 29 [.ref 88, .int (iI x), .int (iI (sumI (ofZ S) j)), .int (iI j)] [] := by
    intro hx1 n
    induction n with
    | zero => intro j g4 g5 g6; exfalso; omega
    | succ n ih =>
      intro j g4 g5 g6
      refine go_iload_n (pc' := 30) h ⟨dZ_agree_29, rfl⟩ rfl ?_
      refine go_aload_n (pc' := 31) h ⟨dZ_agree_30, rfl⟩ rfl ?_
      refine gs_get (v := .int (iI (S.1 88 26))) (pc' := 34) h ⟨dZ_agree_31, rfl⟩ fgZ_130 rfl (by decide) (rfl) ?_
      refine gi_icmp_ge (tgt := 92) (pc' := 37) h dZ_agree_34 rfl rfl (by omega) (fun c34 => ?_) (fun c34 => ?_)
      · refine go_iload_n (pc' := 93) h ⟨dZ_agree_92, rfl⟩ rfl ?_
        exact gs_iret h hE dZ_agree_93 (Or.inr (Or.inl ⟨hx1, by rw [show S.1 88 26 = j by omega], rfl⟩))
      · have hk := zmk j g5 (by omega)
        have hkl := hml j g5 (by omega)
        have hm1 := mkZ_le hZS (l := S.1 102 j) (by omega)
        have hm2 := mkZ_le hZS (l := S.1 101 j) (by omega)
        have ha1 := alZ_bd hZS hm1
        have ha2 := alZ_bd hZS hm2
        refine go_iload_n (pc' := 38) h ⟨dZ_agree_37, rfl⟩ rfl ?_
        refine go_aload_n (pc' := 39) h ⟨dZ_agree_38, rfl⟩ rfl ?_
        refine gi_sipush (pc' := 42) h ⟨dZ_agree_39, rfl⟩ rfl ?_
        refine go_aload_n (pc' := 43) h ⟨dZ_agree_42, rfl⟩ rfl ?_
        refine go_aload_n (pc' := 44) h ⟨dZ_agree_43, rfl⟩ rfl ?_
        refine gs_get (v := .ref 102) (pc' := 47) h ⟨dZ_agree_44, rfl⟩ fgZ_50 rfl (by decide) (rfl) ?_
        refine go_iload_n (pc' := 48) h ⟨dZ_agree_47, rfl⟩ rfl ?_
        refine gs_iald (pc' := 49) h ⟨dZ_agree_48, rfl⟩ rfl (by have hln : (ln 102 : Int) = 6 := rfl; omega) ?_
        refine gd_callVI (e := mkZ S (S.1 102 j)) (E := S) (pc' := 52) (As := [.int (iI (S.1 102 j))]) (st := [.int (iI (1000)), .ref 88, .int (iI (sumI (ofZ S) j))]) h hF ⟨dZ_agree_49, rfl⟩ kvZ_136 (cZ_markOf X (by omega)) (by omega) rfl (by decide) ⟨_, _, rfl⟩ rfl (Nat.le_of_ble_eq_true rfl) rfl ?_
        refine gi_imul (pc' := 53) h ⟨dZ_agree_52, rfl⟩ ?_
        refine gd_callVI (e := alZ S (1000 * (mkZ S (S.1 102 j)))) (E := S) (pc' := 56) (As := [.int (iI (1000 * (mkZ S (S.1 102 j))))]) (st := [.int (iI (sumI (ofZ S) j))]) h hF ⟨dZ_agree_53, rfl⟩ kvZ_174 (cZ_alt X hZS (by omega)) (by omega) rfl (by decide) ⟨_, _, rfl⟩ rfl (Nat.le_of_ble_eq_true rfl) rfl ?_
        refine go_aload_n (pc' := 57) h ⟨dZ_agree_56, rfl⟩ rfl ?_
        refine gi_sipush (pc' := 60) h ⟨dZ_agree_57, rfl⟩ rfl ?_
        refine go_aload_n (pc' := 61) h ⟨dZ_agree_60, rfl⟩ rfl ?_
        refine go_aload_n (pc' := 62) h ⟨dZ_agree_61, rfl⟩ rfl ?_
        refine gs_get (v := .ref 101) (pc' := 65) h ⟨dZ_agree_62, rfl⟩ fgZ_47 rfl (by decide) (rfl) ?_
        refine go_iload_n (pc' := 66) h ⟨dZ_agree_65, rfl⟩ rfl ?_
        refine gs_iald (pc' := 67) h ⟨dZ_agree_66, rfl⟩ rfl (by have hln : (ln 101 : Int) = 6 := rfl; omega) ?_
        refine gd_callVI (e := mkZ S (S.1 101 j)) (E := S) (pc' := 70) (As := [.int (iI (S.1 101 j))]) (st := [.int (iI (1000)), .ref 88, .int (iI (alZ S (1000 * (mkZ S (S.1 102 j))))), .int (iI (sumI (ofZ S) j))]) h hF ⟨dZ_agree_67, rfl⟩ kvZ_136 (cZ_markOf X (by omega)) (by omega) rfl (by decide) ⟨_, _, rfl⟩ rfl (Nat.le_of_ble_eq_true rfl) rfl ?_
        refine gi_imul (pc' := 71) h ⟨dZ_agree_70, rfl⟩ ?_
        refine gd_callVI (e := alZ S (1000 * (mkZ S (S.1 101 j)))) (E := S) (pc' := 74) (As := [.int (iI (1000 * (mkZ S (S.1 101 j))))]) (st := [.int (iI (alZ S (1000 * (mkZ S (S.1 102 j))))), .int (iI (sumI (ofZ S) j))]) h hF ⟨dZ_agree_71, rfl⟩ kvZ_174 (cZ_alt X hZS (by omega)) (by omega) rfl (by decide) ⟨_, _, rfl⟩ rfl (Nat.le_of_ble_eq_true rfl) rfl ?_
        refine gi_isub (pc' := 75) h ⟨dZ_agree_74, rfl⟩ ?_
        refine go_aload_n (pc' := 76) h ⟨dZ_agree_75, rfl⟩ rfl ?_
        refine gs_get (v := .ref 103) (pc' := 79) h ⟨dZ_agree_76, rfl⟩ fgZ_53 rfl (by decide) (rfl) ?_
        refine go_iload_n (pc' := 80) h ⟨dZ_agree_79, rfl⟩ rfl ?_
        refine gs_iald (pc' := 81) h ⟨dZ_agree_80, rfl⟩ rfl (by have hln : (ln 103 : Int) = 6 := rfl; omega) ?_
        refine gd_callSI (e := absI (((alZ S (1000 * (mkZ S (S.1 102 j)))) - (alZ S (1000 * (mkZ S (S.1 101 j))))) - (S.1 103 j))) (E := S) (pc' := 84) (As := [.int (iI ((alZ S (1000 * (mkZ S (S.1 102 j)))) - (alZ S (1000 * (mkZ S (S.1 101 j)))))), .int (iI (S.1 103 j))]) (st := [.int (iI (sumI (ofZ S) j))]) h hF ⟨dZ_agree_81, rfl⟩ kvZ_192 (cZ_apart X (by omega)) (by omega) rfl (Nat.le_of_ble_eq_true rfl) rfl ?_
        refine gi_iadd (pc' := 85) h ⟨dZ_agree_84, rfl⟩ ?_
        refine go_istore_n (L' := [.ref 88, .int (iI (x)), .int (iI ((sumI (ofZ S) j) + (absI (((alZ S (1000 * (mkZ S (S.1 102 j)))) - (alZ S (1000 * (mkZ S (S.1 101 j))))) - (S.1 103 j))))), .int (iI (j))]) (pc' := 86) h ⟨dZ_agree_85, rfl⟩ (by decide) rfl rfl ?_
        refine gi_iinc (L' := [.ref 88, .int (iI (x)), .int (iI ((sumI (ofZ S) j) + (absI (((alZ S (1000 * (mkZ S (S.1 102 j)))) - (alZ S (1000 * (mkZ S (S.1 101 j))))) - (S.1 103 j))))), .int (iI (j + 1))]) (pc' := 89) h ⟨dZ_agree_86, rfl⟩ rfl (by decide) rfl rfl ?_
        refine gi_goto (tgt := 29) h dZ_agree_89 rfl ?_
        have g7 := ih (j + 1) (by omega) (by omega) (by omega)
        rw [sumI_s _ g5] at g7
        exact g7
  refine go_aload_n (pc' := 1) h ⟨dZ_agree_0, rfl⟩ rfl ?_
  refine gi_iconst (pc' := 2) h ⟨dZ_agree_1, rfl⟩ ?_
  refine gd_putI (i := 0) (pc' := 5) h ⟨dZ_agree_2, rfl⟩ fpZ_68 rfl (by decide) rfl rfl ?_
  rw [pt_z z0]
  refine go_iload_n (pc' := 6) h ⟨dZ_agree_5, rfl⟩ rfl ?_
  refine gi_iconst (pc' := 7) h ⟨dZ_agree_6, rfl⟩ ?_
  refine gi_iconst (pc' := 8) h ⟨dZ_agree_7, rfl⟩ ?_
  refine gd_callSI (e := if 0 ≤ x ∧ x ≤ 1 then 1 else 0) (E := S) (pc' := 11) (As := [.int (iI (x)), .int (iI (0)), .int (iI (1))]) (st := []) h hF ⟨dZ_agree_8, rfl⟩ kvZ_72 (cZ_in X (by omega)) (by omega) rfl (Nat.le_of_ble_eq_true rfl) rfl ?_
  refine gi_if_ne (tgt := 16) (pc' := 14) h dZ_agree_11 rfl rfl (by split <;> omega) (fun c11 => ?_) (fun c11 => ?_)
  · have c11 := b1 c11
    refine go_iload_n (pc' := 17) h ⟨dZ_agree_16, rfl⟩ rfl ?_
    refine gi_if_ne (tgt := 25) (pc' := 20) h dZ_agree_17 rfl rfl (by omega) (fun c17 => ?_) (fun c17 => ?_)
    · refine gi_iconst (pc' := 26) h ⟨dZ_agree_25, rfl⟩ ?_
      refine go_istore_n (L' := [.ref 88, .int (iI (x)), .int (iI (0))]) (pc' := 27) h ⟨dZ_agree_26, rfl⟩ (by decide) rfl rfl ?_
      refine gi_iconst (pc' := 28) h ⟨dZ_agree_27, rfl⟩ ?_
      refine go_istore_n (L' := [.ref 88, .int (iI (x)), .int (iI (0)), .int (iI (0))]) (pc' := 29) h ⟨dZ_agree_28, rfl⟩ (by decide) rfl rfl ?_
      exact loop (by omega) 7 0 (by omega) (by omega) (by omega)
    · refine go_aload_n (pc' := 21) h ⟨dZ_agree_20, rfl⟩ rfl ?_
      refine gs_callVI (pc' := 24) (As := []) (st := []) h hF ⟨dZ_agree_21, rfl⟩ kvZ_195 (cZ_least X ⟨zme, zmk⟩) (by omega) rfl (by decide) ⟨_, _, rfl⟩ rfl (Nat.le_of_ble_eq_true rfl) rfl (fun r21 S21 h21 => ?_)
      obtain ⟨e21, f1, g1, e22⟩ := h21
      subst e21
      exact gs_iret h hE dZ_agree_24 (Or.inl ⟨by omega, rfl, f1, g1, e22⟩)
  · have c11 := b0 c11
    refine gi_iconst (pc' := 15) h ⟨dZ_agree_14, rfl⟩ ?_
    exact gs_iret h hE dZ_agree_15 (Or.inr (Or.inr ⟨by omega, rfl, rfl⟩))
