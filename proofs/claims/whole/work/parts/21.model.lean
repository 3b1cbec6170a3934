/-! the reference: numbers, bits -/
theorem sh_k : ∀ k : Nat, k < 32 → ((iI (k : Int) &&& 31).toBitVec.smod 32).toNat = k := by decide +kernel
theorem shrI {a k : Int} (ha : 0 ≤ a ∧ a ≤ 2147483647) (hk : 0 ≤ k ∧ k < 32) : iI a >>> (iI k &&& 31) = iI (a / 2 ^ k.toNat) := by
  apply Int32.toInt_inj.mp
  have h1 := sh_k k.toNat (by omega)
  rw [Int.toNat_of_nonneg hk.1] at h1
  have h2 : (iI a >>> (iI k &&& 31)).toInt = (iI a).toInt >>> ((iI k &&& 31).toBitVec.smod 32).toNat := BitVec.toInt_sshiftRight'
  have hp : (0 : Int) < 2 ^ k.toNat := Int.pow_pos (by decide)
  have h3 : 0 ≤ a / 2 ^ k.toNat := Int.ediv_nonneg ha.1 (by omega)
  have h4 : a / 2 ^ k.toNat ≤ a := Int.ediv_le_self _ ha.1
  rw [h2, h1, iI_toInt (by omega) (by omega), iI_toInt (by omega) (by omega), Int.shiftRight_eq_div_pow]
  norm_cast
theorem iI_tn {a : Int} (ha : 0 ≤ a ∧ a ≤ 2147483647) : (iI a).toBitVec.toNat = a.toNat := by
  have h1 : (iI a).toInt = (iI a).toBitVec.toInt := rfl
  have h2 := iI_toInt (a := a) (by omega) (by omega)
  have h3 := BitVec.toInt_eq_toNat_cond (iI a).toBitVec
  have h4 := (iI a).toBitVec.isLt
  rw [h1] at h2
  rw [h2] at h3
  split at h3 <;> omega
theorem andI {a : Int} (m : Nat) (ha : 0 ≤ a ∧ a ≤ 2147483647) (hm : m ≤ 4) : iI a &&& iI (2 ^ m - 1) = iI (a % 2 ^ m) := by
  apply Int32.toInt_inj.mp
  have hp := pow2_le m (by omega)
  have h1 : (iI a &&& iI (2 ^ m - 1)).toInt = ((iI a).toBitVec &&& (iI (2 ^ m - 1)).toBitVec).toInt := rfl
  have h5 : 0 ≤ a % 2 ^ m := Int.emod_nonneg _ (by omega)
  have h6 : a % 2 ^ m < 2 ^ m := Int.emod_lt_of_pos _ (by omega)
  rw [h1, BitVec.toInt_and, iI_tn ha, iI_tn (by omega), iI_toInt (by omega) (by omega)]
  have h2 : ((2 : Int) ^ m - 1).toNat = 2 ^ m - 1 := by
    have : ((2 : Int) ^ m) = ((2 ^ m : Nat) : Int) := by norm_cast
    omega
  rw [h2, Nat.and_two_pow_sub_one_eq_mod]
  have h3 : ((a.toNat % 2 ^ m : Nat) : Int) = a % 2 ^ m := by
    rw [Int.natCast_emod, Int.toNat_of_nonneg ha.1]
    norm_cast
  rw [h3]
  exact Int.bmod_eq_of_le (by omega) (by omega)
theorem bitI_1 {a k : Int} (ha : 0 ≤ a ∧ a ≤ 2147483647) : iI (a / 2 ^ k.toNat) &&& iI 1 = iI (bitI a k) := by
  have hp : (0 : Int) < 2 ^ k.toNat := Int.pow_pos (by decide)
  have h3 : 0 ≤ a / 2 ^ k.toNat := Int.ediv_nonneg ha.1 (by omega)
  have h4 : a / 2 ^ k.toNat ≤ a := Int.ediv_le_self _ ha.1
  exact andI (a := a / 2 ^ k.toNat) 1 (by omega) (by omega)
/-! the reference's half of the world -/
def ZI (S : Sg) : Prop := S.1 88 0 = 0 ∧ (0 ≤ S.1 88 3 ∧ S.1 88 3 ≤ 120) ∧ (∀ j : Int, 0 ≤ j → j < S.1 88 3 → 0 ≤ S.1 89 j ∧ S.1 89 j ≤ 255) ∧ (0 ≤ S.1 90 0 ∧ S.1 90 0 ≤ 5) ∧ (0 ≤ S.1 90 1 ∧ S.1 90 1 ≤ 4) ∧ (1 ≤ S.1 90 2 ∧ S.1 90 2 ≤ 9) ∧ (2 ≤ S.1 90 3 ∧ S.1 90 3 ≤ 9) ∧ (∀ k : Int, 0 ≤ k → k < S.1 90 0 → (1 ≤ S.1 91 k ∧ S.1 91 k ≤ 20) ∧ (1 ≤ S.1 92 k ∧ S.1 92 k ≤ 20) ∧ (-3 ≤ S.1 93 k ∧ S.1 93 k ≤ 3)) ∧ (∀ t : Int, 0 ≤ t → t < S.1 90 1 → 1 ≤ S.1 94 t ∧ S.1 94 t ≤ 99) ∧ (∀ t : Int, 0 ≤ t → t < 4 → 0 ≤ S.1 95 t ∧ S.1 95 t ≤ 100) ∧ (0 ≤ S.1 95 4 ∧ S.1 95 4 ≤ 15) ∧ (0 ≤ S.1 95 5 ∧ S.1 95 5 ≤ 6) ∧ (∀ i : Int, 6 ≤ i → i < 6 + S.1 95 5 → 0 ≤ S.1 95 i ∧ S.1 95 i ≤ 100) ∧ (∀ k : Int, 12 ≤ k → k < 212 → 0 ≤ S.1 95 k ∧ S.1 95 k ≤ 9999) ∧ (0 ≤ S.1 88 19 ∧ S.1 88 19 ≤ 10) ∧ (∀ k : Int, 0 ≤ k → k < 2 → S.1 97 k = 0 ∨ S.1 97 k = 1) ∧ (0 ≤ S.1 88 22 ∧ S.1 88 22 ≤ 6) ∧ (∀ k : Int, 0 ≤ k → k < S.1 88 22 → (0 ≤ S.1 99 k ∧ S.1 99 k ≤ 99) ∧ (0 ≤ S.1 100 k ∧ S.1 100 k ≤ 40)) ∧ (0 ≤ S.1 88 26 ∧ S.1 88 26 ≤ 6) ∧ (∀ k : Int, 0 ≤ k → k < S.1 88 26 → 0 ≤ S.1 101 k ∧ S.1 101 k < S.1 102 k ∧ S.1 102 k ≤ 5 ∧ 0 ≤ S.1 103 k ∧ S.1 103 k ≤ 999999) ∧ (0 ≤ S.1 88 5 ∧ S.1 88 5 ≤ 4) ∧ (0 ≤ S.1 88 6 ∧ S.1 88 6 ≤ 120) ∧ (-1 ≤ S.1 88 7 ∧ S.1 88 7 ≤ 999)
theorem pt_z {S : Sg} (h : S.1 88 0 = 0) : pt S 88 0 0 = S := by
  have e : uF (S.1 88) 0 0 = S.1 88 := by
    funext q
    unfold uF
    by_cases q1 : q = 0
    · rw [if_pos q1, q1, h]
    · rw [if_neg q1]
  rw [pt_aset, e, aset_self]
set_option maxRecDepth 4000 in
theorem cZ_in (X : XT) {S : Sg} {v a b : Int} (hb : (-2147483648 ≤ v ∧ v ≤ 2147483647) ∧ (-2147483648 ≤ a ∧ a ≤ 2147483647) ∧ (-2147483648 ≤ b ∧ b ≤ 2147483647)) : Ctr X 0 yZ_in bZ_in 3 (some .boolean) [.int (iI (v)), .int (iI (a)), .int (iI (b))] (mk S) (PI (fun r S' => r = (if a ≤ v ∧ v ≤ b then 1 else 0) ∧ S' = S)) 0 0 := by
  refine Ctr.ofS (by decide) rfl (Nat.le_of_ble_eq_true rfl) (fun F h hF hE => ?_)
  refine go_iload_n (pc' := 1) h ⟨dZ_in_0, rfl⟩ rfl ?_
  refine go_iload_n (pc' := 2) h ⟨dZ_in_1, rfl⟩ rfl ?_
  refine gi_icmp_lt (tgt := 14) (pc' := 5) h dZ_in_2 rfl rfl (by omega) (fun c2 => ?_) (fun c2 => ?_)
  · refine gi_iconst (pc' := 15) h ⟨dZ_in_14, rfl⟩ ?_
    exact gs_zret h hE dZ_in_15 (by omega) (⟨by rw [if_neg (by omega)], rfl⟩)
  · refine go_iload_n (pc' := 6) h ⟨dZ_in_5, rfl⟩ rfl ?_
    refine go_iload_n (pc' := 7) h ⟨dZ_in_6, rfl⟩ rfl ?_
    refine gi_icmp_gt (tgt := 14) (pc' := 10) h dZ_in_7 rfl rfl (by omega) (fun c7 => ?_) (fun c7 => ?_)
    · refine gi_iconst (pc' := 15) h ⟨dZ_in_14, rfl⟩ ?_
      exact gs_zret h hE dZ_in_15 (by omega) (⟨by rw [if_neg (by omega)], rfl⟩)
    · refine gi_iconst (pc' := 11) h ⟨dZ_in_10, rfl⟩ ?_
      refine gi_goto (tgt := 15) h dZ_in_11 rfl ?_
      exact gs_zret h hE dZ_in_15 (by omega) (⟨by rw [if_pos (by omega)], rfl⟩)
set_option maxRecDepth 4000 in
theorem cZ_ones (X : XT) {S : Sg} {a : Int} (ha : 0 ≤ a ∧ a ≤ 2147483647) : Ctr X 0 yZ_ones bZ_ones 3 (some .int) [.int (iI (a))] (mk S) (PI (fun r S' => r = onesI a ∧ S' = S)) 0 0 := by
  refine Ctr.ofS (by decide) rfl (Nat.le_of_ble_eq_true rfl) (fun F h hF hE => ?_)
  have loop : ∀ (n : Nat) (j : Int), 6 < j + n → 0 ≤ j → j ≤ 6 → Go F 3 (mk S) 0 0 4 [.int (iI a), .int (iI (sumI (bitI a) j)), .int (iI j)] [] := by
    intro n
    induction n with
    | zero => intro j g4 g5 g6; exfalso; omega
    | succ n ih =>
      intro j g4 g5 g6
      refine go_iload_n (pc' := 5) h ⟨dZ_ones_4, rfl⟩ rfl ?_
      refine gi_bipush (pc' := 7) h ⟨dZ_ones_5, rfl⟩ rfl ?_
      refine gi_icmp_ge (tgt := 24) (pc' := 10) h dZ_ones_7 rfl rfl (by omega) (fun c7 => ?_) (fun c7 => ?_)
      · refine go_iload_n (pc' := 25) h ⟨dZ_ones_24, rfl⟩ rfl ?_
        exact gs_iret h hE dZ_ones_25 (⟨by unfold onesI; rw [show (6 : Int) = j by omega], rfl⟩)
      · refine go_iload_n (pc' := 11) h ⟨dZ_ones_10, rfl⟩ rfl ?_
        refine go_iload_n (pc' := 12) h ⟨dZ_ones_11, rfl⟩ rfl ?_
        refine go_iload_n (pc' := 13) h ⟨dZ_ones_12, rfl⟩ rfl ?_
        refine gi_ishr (c := a / 2 ^ j.toNat) (pc' := 14) h ⟨dZ_ones_13, rfl⟩ (shrI ha (by omega)) ?_
        refine gi_iconst (pc' := 15) h ⟨dZ_ones_14, rfl⟩ ?_
        refine gi_iand (c := bitI a j) (pc' := 16) h ⟨dZ_ones_15, rfl⟩ (bitI_1 ha) ?_
        refine gi_iadd (pc' := 17) h ⟨dZ_ones_16, rfl⟩ ?_
        refine go_istore_n (L' := [.int (iI (a)), .int (iI ((sumI (bitI a) j) + (bitI a j))), .int (iI (j))]) (pc' := 18) h ⟨dZ_ones_17, rfl⟩ (by decide) rfl rfl ?_
        refine gi_iinc (L' := [.int (iI (a)), .int (iI ((sumI (bitI a) j) + (bitI a j))), .int (iI (j + 1))]) (pc' := 21) h ⟨dZ_ones_18, rfl⟩ rfl (by decide) rfl rfl ?_
        refine gi_goto (tgt := 4) h dZ_ones_21 rfl ?_
        have g7 := ih (j + 1) (by omega) (by omega) (by omega)
        rw [sumI_s _ g5] at g7
        exact g7
  refine gi_iconst (pc' := 1) h ⟨dZ_ones_0, rfl⟩ ?_
  refine go_istore_n (L' := [.int (iI (a)), .int (iI (0))]) (pc' := 2) h ⟨dZ_ones_1, rfl⟩ (by decide) rfl rfl ?_
  refine gi_iconst (pc' := 3) h ⟨dZ_ones_2, rfl⟩ ?_
  refine go_istore_n (L' := [.int (iI (a)), .int (iI (0)), .int (iI (0))]) (pc' := 4) h ⟨dZ_ones_3, rfl⟩ (by decide) rfl rfl ?_
  exact loop 7 0 (by omega) (by omega) (by omega)
def zType (S : Sg) (x : Int) : Int × Sg := if x < 0 ∨ 255 < x then (-1, S) else if S.1 88 3 = 120 then (-3, S) else (S.1 88 3 + 1, pt (pt S 89 (S.1 88 3) x) 88 3 (S.1 88 3 + 1))
def zClear (S : Sg) : Int × Sg := (S.1 88 3, pt S 88 3 0)
set_option maxRecDepth 4000 in
theorem cZ_type (X : XT) {S : Sg} (hZ : ZI S) {x : Int} (hx : -2147483648 ≤ x ∧ x ≤ 2147483647) : Ctr X 6 yZ_type bZ_type 2 (some .int) [.ref 88, .int (iI (x))] (mk S) (PI (fun r S' => r = (zType S x).1 ∧ S' = (zType S x).2)) 0 0 := by
  refine Ctr.ofS (by decide) rfl (Nat.le_of_ble_eq_true rfl) (fun F h hF hE => ?_)
  obtain ⟨z0, zt, ztx, zm0, zm1, zm2, zm3, zst, ztr, zat, zsy, zth, ztg, zwr, zun, zkp, zse, zsk, zme, zmk, zl5, zl6, zl7⟩ := id hZ
  refine go_aload_n (pc' := 1) h ⟨dZ_type_0, rfl⟩ rfl ?_
  refine gi_iconst (pc' := 2) h ⟨dZ_type_1, rfl⟩ ?_
  refine gd_putI (i := 0) (pc' := 5) h ⟨dZ_type_2, rfl⟩ fpZ_68 rfl (by decide) rfl rfl ?_
  rw [pt_z z0]
  refine go_iload_n (pc' := 6) h ⟨dZ_type_5, rfl⟩ rfl ?_
  refine gi_iconst (pc' := 7) h ⟨dZ_type_6, rfl⟩ ?_
  refine gi_sipush (pc' := 10) h ⟨dZ_type_7, rfl⟩ rfl ?_
  refine gd_callSI (e := if 0 ≤ x ∧ x ≤ 255 then 1 else 0) (E := S) (pc' := 13) (As := [.int (iI (x)), .int (iI (0)), .int (iI (255))]) (st := []) h hF ⟨dZ_type_10, rfl⟩ kvZ_72 (cZ_in X (by omega)) (by omega) rfl (Nat.le_of_ble_eq_true rfl) rfl ?_
  refine gi_if_ne (tgt := 18) (pc' := 16) h dZ_type_13 rfl rfl (by split <;> omega) (fun c13 => ?_) (fun c13 => ?_)
  · have c13 := b1 c13
    refine go_aload_n (pc' := 19) h ⟨dZ_type_18, rfl⟩ rfl ?_
    refine gs_get (v := .int (iI (S.1 88 3))) (pc' := 22) h ⟨dZ_type_19, rfl⟩ fgZ_76 rfl (by decide) (rfl) ?_
    refine gi_bipush (pc' := 24) h ⟨dZ_type_22, rfl⟩ rfl ?_
    refine gi_icmp_ne (tgt := 30) (pc' := 27) h dZ_type_24 rfl rfl (by omega) (fun c24 => ?_) (fun c24 => ?_)
    · refine go_aload_n (pc' := 31) h ⟨dZ_type_30, rfl⟩ rfl ?_
      refine gs_get (v := .ref 89) (pc' := 34) h ⟨dZ_type_31, rfl⟩ fgZ_7 rfl (by decide) (rfl) ?_
      refine go_aload_n (pc' := 35) h ⟨dZ_type_34, rfl⟩ rfl ?_
      refine gs_get (v := .int (iI (S.1 88 3))) (pc' := 38) h ⟨dZ_type_35, rfl⟩ fgZ_76 rfl (by decide) (rfl) ?_
      refine go_iload_n (pc' := 39) h ⟨dZ_type_38, rfl⟩ rfl ?_
      refine gs_iast (pc' := 40) h ⟨dZ_type_39, rfl⟩ rfl (by have hln : (ln 89 : Int) = 120 := rfl; omega) ?_
      refine go_aload_n (pc' := 41) h ⟨dZ_type_40, rfl⟩ rfl ?_
      refine go_dup (pc' := 42) h ⟨dZ_type_41, rfl⟩ rfl ?_
      refine gs_get (v := .int (iI (S.1 88 3))) (pc' := 45) h ⟨dZ_type_42, rfl⟩ fgZ_76 rfl (by decide) (rfl) ?_
      refine gi_iconst (pc' := 46) h ⟨dZ_type_45, rfl⟩ ?_
      refine gi_iadd (pc' := 47) h ⟨dZ_type_46, rfl⟩ ?_
      refine gd_putI (i := 3) (pc' := 50) h ⟨dZ_type_47, rfl⟩ fpZ_76 rfl (by decide) rfl rfl ?_
      refine go_aload_n (pc' := 51) h ⟨dZ_type_50, rfl⟩ rfl ?_
      refine gs_get (v := .int (iI ((S.1 88 3) + 1))) (pc' := 54) h ⟨dZ_type_51, rfl⟩ fgZ_76 rfl (by decide) (rfl) ?_
      exact gs_iret h hE dZ_type_54 (by unfold zType; rw [if_neg (by omega), if_neg (by omega)]; exact ⟨rfl, rfl⟩)
    · refine gi_bipush (pc' := 29) h ⟨dZ_type_27, rfl⟩ rfl ?_
      exact gs_iret h hE dZ_type_29 (by unfold zType; rw [if_neg (by omega), if_pos (by omega)]; exact ⟨rfl, rfl⟩)
  · have c13 := b0 c13
    refine gi_iconst (pc' := 17) h ⟨dZ_type_16, rfl⟩ ?_
    exact gs_iret h hE dZ_type_17 (by unfold zType; rw [if_pos (by omega)]; exact ⟨rfl, rfl⟩)
set_option maxRecDepth 4000 in
theorem cZ_clear (X : XT) {S : Sg} (hZ : ZI S) : Ctr X 6 yZ_clear bZ_clear 2 (some .int) [.ref 88] (mk S) (PI (fun r S' => r = (zClear S).1 ∧ S' = (zClear S).2)) 0 0 := by
  refine Ctr.ofS (by decide) rfl (Nat.le_of_ble_eq_true rfl) (fun F h hF hE => ?_)
  obtain ⟨z0, zt, ztx, zm0, zm1, zm2, zm3, zst, ztr, zat, zsy, zth, ztg, zwr, zun, zkp, zse, zsk, zme, zmk, zl5, zl6, zl7⟩ := id hZ
  refine go_aload_n (pc' := 1) h ⟨dZ_clear_0, rfl⟩ rfl ?_
  refine gi_iconst (pc' := 2) h ⟨dZ_clear_1, rfl⟩ ?_
  refine gd_putI (i := 0) (pc' := 5) h ⟨dZ_clear_2, rfl⟩ fpZ_68 rfl (by decide) rfl rfl ?_
  rw [pt_z z0]
  refine go_aload_n (pc' := 6) h ⟨dZ_clear_5, rfl⟩ rfl ?_
  refine gs_get (v := .int (iI (S.1 88 3))) (pc' := 9) h ⟨dZ_clear_6, rfl⟩ fgZ_76 rfl (by decide) (rfl) ?_
  refine go_istore_n (L' := [.ref 88, .int (iI (S.1 88 3))]) (pc' := 10) h ⟨dZ_clear_9, rfl⟩ (by decide) rfl rfl ?_
  refine go_aload_n (pc' := 11) h ⟨dZ_clear_10, rfl⟩ rfl ?_
  refine gi_iconst (pc' := 12) h ⟨dZ_clear_11, rfl⟩ ?_
  refine gd_putI (i := 3) (pc' := 15) h ⟨dZ_clear_12, rfl⟩ fpZ_76 rfl (by decide) rfl rfl ?_
  refine go_iload_n (pc' := 16) h ⟨dZ_clear_15, rfl⟩ rfl ?_
  exact gs_iret h hE dZ_clear_16 (⟨rfl, rfl⟩)
def laF (f : Int → Int) (z k : Int) : Int := if k < z then f k else -1
theorem laF_c {f : Int → Int} {z : Int} (hf : ∀ j : Int, 0 ≤ j → j < z → 0 ≤ f j ∧ f j ≤ 255) {k : Int} (h : 0 ≤ k) : (k < z ∧ laF f z k = f k ∧ 0 ≤ f k ∧ f k ≤ 255) ∨ (z ≤ k ∧ laF f z k = -1) := by
  unfold laF
  by_cases hk : k < z
  · rw [if_pos hk]
    have := hf k h hk
    omega
  · rw [if_neg hk]
    omega
set_option maxRecDepth 4000 in
theorem cZ_letterAt (X : XT) {S : Sg} (zt : 0 ≤ S.1 88 3 ∧ S.1 88 3 ≤ 120) {x : Int} (hx : 0 ≤ x ∧ x ≤ 200) : Ctr X 0 yZ_letterAt bZ_letterAt 2 (some .int) [.ref 88, .int (iI (x))] (mk S) (PI (fun r S' => r = laF (S.1 89) (S.1 88 3) x ∧ S' = S)) 0 0 := by
  refine Ctr.ofS (by decide) rfl (Nat.le_of_ble_eq_true rfl) (fun F h hF hE => ?_)
  refine go_iload_n (pc' := 1) h ⟨dZ_letterAt_0, rfl⟩ rfl ?_
  refine go_aload_n (pc' := 2) h ⟨dZ_letterAt_1, rfl⟩ rfl ?_
  refine gs_get (v := .int (iI (S.1 88 3))) (pc' := 5) h ⟨dZ_letterAt_2, rfl⟩ fgZ_76 rfl (by decide) (rfl) ?_
  refine gi_icmp_ge (tgt := 17) (pc' := 8) h dZ_letterAt_5 rfl rfl (by omega) (fun c5 => ?_) (fun c5 => ?_)
  · refine gi_iconst (pc' := 18) h ⟨dZ_letterAt_17, rfl⟩ ?_
    exact gs_iret h hE dZ_letterAt_18 (⟨by unfold laF; rw [if_neg (by omega)], rfl⟩)
  · refine go_aload_n (pc' := 9) h ⟨dZ_letterAt_8, rfl⟩ rfl ?_
    refine gs_get (v := .ref 89) (pc' := 12) h ⟨dZ_letterAt_9, rfl⟩ fgZ_7 rfl (by decide) (rfl) ?_
    refine go_iload_n (pc' := 13) h ⟨dZ_letterAt_12, rfl⟩ rfl ?_
    refine gs_iald (pc' := 14) h ⟨dZ_letterAt_13, rfl⟩ rfl (by have hln : (ln 89 : Int) = 120 := rfl; omega) ?_
    refine gi_goto (tgt := 18) h dZ_letterAt_14 rfl ?_
    exact gs_iret h hE dZ_letterAt_18 (⟨by unfold laF; rw [if_pos (by omega)], rfl⟩)
abbrev isK (c : Int) : Prop := c = 115 ∨ c = 116 ∨ c = 114 ∨ c = 98
set_option maxRecDepth 4000 in
theorem cZ_isLetter (X : XT) {S : Sg} {x : Int} (hx : -1 ≤ x ∧ x ≤ 300) : Ctr X 0 yZ_isLetter bZ_isLetter 1 (some .boolean) [.int (iI (x))] (mk S) (PI (fun r S' => r = (if isK x then 1 else 0) ∧ S' = S)) 0 0 := by
  refine Ctr.ofS (by decide) rfl (Nat.le_of_ble_eq_true rfl) (fun F h hF hE => ?_)
  refine go_iload_n (pc' := 1) h ⟨dZ_isLetter_0, rfl⟩ rfl ?_
  refine gi_bipush (pc' := 3) h ⟨dZ_isLetter_1, rfl⟩ rfl ?_
  refine gi_icmp_eq (tgt := 24) (pc' := 6) h dZ_isLetter_3 rfl rfl (by omega) (fun c3 => ?_) (fun c3 => ?_)
  · refine gi_iconst (pc' := 25) h ⟨dZ_isLetter_24, rfl⟩ ?_
    refine gi_goto (tgt := 29) h dZ_isLetter_25 rfl ?_
    exact gs_zret h hE dZ_isLetter_29 (by omega) (⟨by rw [if_pos (by unfold isK; omega)], rfl⟩)
  · refine go_iload_n (pc' := 7) h ⟨dZ_isLetter_6, rfl⟩ rfl ?_
    refine gi_bipush (pc' := 9) h ⟨dZ_isLetter_7, rfl⟩ rfl ?_
    refine gi_icmp_eq (tgt := 24) (pc' := 12) h dZ_isLetter_9 rfl rfl (by omega) (fun c9 => ?_) (fun c9 => ?_)
    · refine gi_iconst (pc' := 25) h ⟨dZ_isLetter_24, rfl⟩ ?_
      refine gi_goto (tgt := 29) h dZ_isLetter_25 rfl ?_
      exact gs_zret h hE dZ_isLetter_29 (by omega) (⟨by rw [if_pos (by unfold isK; omega)], rfl⟩)
    · refine go_iload_n (pc' := 13) h ⟨dZ_isLetter_12, rfl⟩ rfl ?_
      refine gi_bipush (pc' := 15) h ⟨dZ_isLetter_13, rfl⟩ rfl ?_
      refine gi_icmp_eq (tgt := 24) (pc' := 18) h dZ_isLetter_15 rfl rfl (by omega) (fun c15 => ?_) (fun c15 => ?_)
      · refine gi_iconst (pc' := 25) h ⟨dZ_isLetter_24, rfl⟩ ?_
        refine gi_goto (tgt := 29) h dZ_isLetter_25 rfl ?_
        exact gs_zret h hE dZ_isLetter_29 (by omega) (⟨by rw [if_pos (by unfold isK; omega)], rfl⟩)
      · refine go_iload_n (pc' := 19) h ⟨dZ_isLetter_18, rfl⟩ rfl ?_
        refine gi_bipush (pc' := 21) h ⟨dZ_isLetter_19, rfl⟩ rfl ?_
        refine gi_icmp_ne (tgt := 28) (pc' := 24) h dZ_isLetter_21 rfl rfl (by omega) (fun c21 => ?_) (fun c21 => ?_)
        · refine gi_iconst (pc' := 29) h ⟨dZ_isLetter_28, rfl⟩ ?_
          exact gs_zret h hE dZ_isLetter_29 (by omega) (⟨by rw [if_neg (by unfold isK; omega)], rfl⟩)
        · refine gi_iconst (pc' := 25) h ⟨dZ_isLetter_24, rfl⟩ ?_
          refine gi_goto (tgt := 29) h dZ_isLetter_25 rfl ?_
          exact gs_zret h hE dZ_isLetter_29 (by omega) (⟨by rw [if_pos (by unfold isK; omega)], rfl⟩)
set_option maxRecDepth 4000 in
theorem cZ_isWell (X : XT) {S : Sg} (hf : -1 ≤ S.1 88 8 ∧ S.1 88 8 ≤ 200) : Ctr X 0 yZ_isWell bZ_isWell 1 (some .boolean) [.ref 88] (mk S) (PI (fun r S' => r = (if S.1 88 8 < 0 then 1 else 0) ∧ S' = S)) 0 0 := by
  refine Ctr.ofS (by decide) rfl (Nat.le_of_ble_eq_true rfl) (fun F h hF hE => ?_)
  refine go_aload_n (pc' := 1) h ⟨dZ_isWell_0, rfl⟩ rfl ?_
  refine gs_get (v := .int (iI (S.1 88 8))) (pc' := 4) h ⟨dZ_isWell_1, rfl⟩ fgZ_99 rfl (by decide) (rfl) ?_
  refine gi_if_ge (tgt := 11) (pc' := 7) h dZ_isWell_4 rfl rfl (by omega) (fun c4 => ?_) (fun c4 => ?_)
  · refine gi_iconst (pc' := 12) h ⟨dZ_isWell_11, rfl⟩ ?_
    exact gs_zret h hE dZ_isWell_12 (by omega) (⟨by rw [if_neg (by omega)], rfl⟩)
  · refine gi_iconst (pc' := 8) h ⟨dZ_isWell_7, rfl⟩ ?_
    refine gi_goto (tgt := 12) h dZ_isWell_8 rfl ?_
    exact gs_zret h hE dZ_isWell_12 (by omega) (⟨by rw [if_pos (by omega)], rfl⟩)
/-! the reference's tokens -/
def zvF (f : Int → Int) (z : Int) : Nat → Int → Int → Int
  | 0, _, v => v
  | n + 1, i, v => if i < z ∧ isD (f i) then zvF f z n (i + 1) (if 99 < v then v else 10 * v + f i - 48) else v
def zvR (v u : Int) : Prop := (v = u ∧ 0 ≤ v ∧ v ≤ 99) ∨ (99 < v ∧ v ≤ 999 ∧ u = 100)
theorem zv_nv (f : Int → Int) (z : Int) : ∀ (n : Nat) (i v u : Int), zvR v u → zvR (zvF f z n i v) (nvF f z n i u)
  | 0, i, v, u, h => h
  | n + 1, i, v, u, h => by
    rw [zvF, nvF]
    by_cases hc : i < z ∧ isD (f i)
    · rw [if_pos hc, if_pos hc]
      refine zv_nv f z n (i + 1) _ _ ?_
      obtain ⟨_, h2, h3⟩ := hc
      unfold zvR at h ⊢
      by_cases hv : 99 < v
      · rw [if_pos hv]; omega
      · rw [if_neg hv]; omega
    · rw [if_neg hc, if_neg hc]
      exact h
def zTok (f : Int → Int) (z i : Int) : Int := if lK f z i = 0 then 0 else if lK f z i = 2 then (if lV f z i = -1 then 4 else 2) else if f (lS f z i) = 59 then 3 else if isK (f (lS f z i)) then 1 else 4
def zVal (f : Int → Int) (z i w : Int) : Int := if lK f z i = 0 then w else if lK f z i = 2 then zvF f z 121 (lS f z i) 0 else f (lS f z i)
def avW (f : Int → Int) (z : Int) (W : Int → Int) : Int → Int := fun j => if j = 4 then lE f z (W 4) else if j = 5 then zTok f z (W 4) else if j = 6 then lS f z (W 4) else if j = 7 then zVal f z (W 4) (W 7) else W j
def avS (S : Sg) : Sg := aset S 88 (avW (S.1 89) (S.1 88 3) (S.1 88))
theorem pt_nmz (S : Sg) (s j v v' b : Int) : pt (pt (pt (pt (pt S 88 6 s) 88 4 j) 88 7 v) 88 7 v') 88 4 b = pt (pt (pt S 88 6 s) 88 4 b) 88 7 v' := by
  simp only [pt_aset, aset_eq, aset_aset]
  refine congrArg (aset S 88) (funext fun q => ?_)
  simp only [uF]
  by_cases h1 : q = 4
  · subst h1; simp
  · by_cases h4 : q = 7
    · subst h4; simp
    · simp [h1, h4]
theorem pt_ptz (S : Sg) (k : Nat) (i x y : Int) : pt (pt S k i x) k i y = pt S k i y := by
  rw [pt_aset, pt_aset, pt_aset, aset_eq, aset_aset, uF_uF]
set_option maxRecDepth 4000 in
theorem cZ_adv (X : XT) {S : Sg} (zt : 0 ≤ S.1 88 3 ∧ S.1 88 3 ≤ 120) (ztx : ∀ j : Int, 0 ≤ j → j < S.1 88 3 → 0 ≤ S.1 89 j ∧ S.1 89 j ≤ 255) (hi : 0 ≤ S.1 88 4 ∧ S.1 88 4 ≤ S.1 88 3) : Ctr X 1 yZ_advances bZ_advances 2 none [.ref 88] (mk S) (PV (fun S' => S' = avS S)) 0 0 := by
  refine Ctr.ofS (by decide) rfl (Nat.le_of_ble_eq_true rfl) (fun F h hF hE => ?_)
  have digits : ∀ (s0 : Int), s0 = lS (S.1 89) (S.1 88 3) (S.1 88 4) → 0 ≤ s0 → s0 < S.1 88 3 → isD (S.1 89 s0) → ∀ (n : Nat) (j v : Int), S.1 88 3 - j < n → s0 ≤ j → j ≤ S.1 88 3 → 0 ≤ v ∧ v ≤ 999 → dgF (S.1 89) (S.1 88 3) 121 s0 = dgF (S.1 89) (S.1 88 3) n j → zvF (S.1 89) (S.1 88 3) 121 s0 0 = zvF (S.1 89) (S.1 88 3) n j v → Go F 2 (mk (pt (pt (pt S 88 6 s0) 88 4 j) 88 7 v)) 0 0 71 [.ref 88, .int (iI (laF (S.1 89) (S.1 88 3) s0))] [] := by
    intro s0 e_S g1 g2 g3 n
    have la_c := laF_c ztx (k := s0) (by omega)
    have e_N := zv_nv (S.1 89) (S.1 88 3) 121 s0 0 0 (Or.inl (by omega))
    unfold zvR at e_N
    induction n with
    | zero => intro j v g4 g5 g6; exfalso; omega
    | succ n ih =>
      intro j v g4 g5 g6 g7 g8 g9
      refine go_aload_n (pc' := 72) h ⟨dZ_advances_71, rfl⟩ rfl ?_
      refine go_aload_n (pc' := 73) h ⟨dZ_advances_72, rfl⟩ rfl ?_
      refine gs_get (v := .int (iI (j))) (pc' := 76) h ⟨dZ_advances_73, rfl⟩ fgZ_79 rfl (by decide) (rfl) ?_
      refine gd_callVI (e := laF (S.1 89) (S.1 88 3) j) (E := pt (pt (pt S 88 6 s0) 88 4 j) 88 7 v) (pc' := 79) (As := [.int (iI (j))]) (st := []) h hF ⟨dZ_advances_76, rfl⟩ kvZ_82 (cZ_letterAt X (S := pt (pt (pt S 88 6 s0) 88 4 j) 88 7 v) (x := j) zt (by omega)) (by omega) rfl (by decide) ⟨_, _, rfl⟩ rfl (Nat.le_of_ble_eq_true rfl) rfl ?_
      have la_76 := laF_c ztx (k := j) (by omega)
      refine gi_bipush (pc' := 81) h ⟨dZ_advances_79, rfl⟩ rfl ?_
      refine gi_bipush (pc' := 83) h ⟨dZ_advances_81, rfl⟩ rfl ?_
      refine gd_callSI (e := if 48 ≤ laF (S.1 89) (S.1 88 3) j ∧ laF (S.1 89) (S.1 88 3) j ≤ 57 then 1 else 0) (E := pt (pt (pt S 88 6 s0) 88 4 j) 88 7 v) (pc' := 86) (As := [.int (iI (laF (S.1 89) (S.1 88 3) j)), .int (iI (48)), .int (iI (57))]) (st := []) h hF ⟨dZ_advances_83, rfl⟩ kvZ_72 (cZ_in X (by omega)) (by omega) rfl (Nat.le_of_ble_eq_true rfl) rfl ?_
      refine gi_if_eq (tgt := 141) (pc' := 89) h dZ_advances_86 rfl rfl (by split <;> omega) (fun c86 => ?_) (fun c86 => ?_)
      · have c86 := b0 c86
        have e_d : dgF (S.1 89) (S.1 88 3) 121 s0 = j := by rw [g8, dgF, if_neg (by omega)]
        have e_v : zvF (S.1 89) (S.1 88 3) 121 s0 0 = v := by rw [g9, zvF, if_neg (by omega)]
        have e_K : lK (S.1 89) (S.1 88 3) (S.1 88 4) = 2 := by unfold lK; rw [← e_S, if_neg (by omega), if_pos g3]
        have e_E : lE (S.1 89) (S.1 88 3) (S.1 88 4) = j := by unfold lE; rw [← e_S, if_neg (by omega), if_pos g3, e_d]
        have e_V : zVal (S.1 89) (S.1 88 3) (S.1 88 4) (S.1 88 7) = v := by unfold zVal; rw [if_neg (by omega), if_pos e_K, ← e_S, e_v]
        refine go_aload_n (pc' := 142) h ⟨dZ_advances_141, rfl⟩ rfl ?_
        refine go_aload_n (pc' := 143) h ⟨dZ_advances_142, rfl⟩ rfl ?_
        refine gs_get (v := .int (iI (v))) (pc' := 146) h ⟨dZ_advances_143, rfl⟩ fgZ_92 rfl (by decide) (rfl) ?_
        refine gi_bipush (pc' := 148) h ⟨dZ_advances_146, rfl⟩ rfl ?_
        refine gi_icmp_gt (tgt := 170) (pc' := 151) h dZ_advances_148 rfl rfl (by omega) (fun c148 => ?_) (fun c148 => ?_)
        · refine gi_iconst (pc' := 171) h ⟨dZ_advances_170, rfl⟩ ?_
          refine gi_goto (tgt := 175) h dZ_advances_171 rfl ?_
          refine gd_putI (i := 5) (pc' := 178) h ⟨dZ_advances_175, rfl⟩ fpZ_89 rfl (by decide) rfl rfl ?_
          refine gi_goto (tgt := 222) h dZ_advances_178 rfl ?_
          have e_L : lV (S.1 89) (S.1 88 3) (S.1 88 4) = -1 := by unfold lV; rw [← e_S, if_pos g3, e_d]; rw [if_pos (by omega)]
          have e_T : zTok (S.1 89) (S.1 88 3) (S.1 88 4) = 4 := by unfold zTok; rw [if_neg (by omega), if_pos e_K, if_pos e_L]
          exact gs_vret h hE dZ_advances_222 (by simp only [avS, pt_aset, aset_eq, aset_aset]; refine congrArg (aset S 88) (funext fun q => ?_); simp only [avW, uF, ← e_S, e_E, e_T, e_V]; by_cases q4 : q = 4 <;> by_cases q5 : q = 5 <;> by_cases q6 : q = 6 <;> by_cases q7 : q = 7 <;> simp [q4, q5, q6, q7] <;> omega)
        · refine go_iload_n (pc' := 152) h ⟨dZ_advances_151, rfl⟩ rfl ?_
          refine gi_bipush (pc' := 154) h ⟨dZ_advances_152, rfl⟩ rfl ?_
          refine gi_icmp_ne (tgt := 174) (pc' := 157) h dZ_advances_154 rfl rfl (by omega) (fun c154 => ?_) (fun c154 => ?_)
          · refine gi_iconst (pc' := 175) h ⟨dZ_advances_174, rfl⟩ ?_
            refine gd_putI (i := 5) (pc' := 178) h ⟨dZ_advances_175, rfl⟩ fpZ_89 rfl (by decide) rfl rfl ?_
            refine gi_goto (tgt := 222) h dZ_advances_178 rfl ?_
            have e_L : lV (S.1 89) (S.1 88 3) (S.1 88 4) ≠ -1 := by unfold lV; rw [← e_S, if_pos g3, e_d]; rw [if_neg (by omega)]; omega
            have e_T : zTok (S.1 89) (S.1 88 3) (S.1 88 4) = 2 := by unfold zTok; rw [if_neg (by omega), if_pos e_K, if_neg e_L]
            exact gs_vret h hE dZ_advances_222 (by simp only [avS, pt_aset, aset_eq, aset_aset]; refine congrArg (aset S 88) (funext fun q => ?_); simp only [avW, uF, ← e_S, e_E, e_T, e_V]; by_cases q4 : q = 4 <;> by_cases q5 : q = 5 <;> by_cases q6 : q = 6 <;> by_cases q7 : q = 7 <;> simp [q4, q5, q6, q7] <;> omega)
          · refine go_aload_n (pc' := 158) h ⟨dZ_advances_157, rfl⟩ rfl ?_
            refine gs_get (v := .int (iI (j))) (pc' := 161) h ⟨dZ_advances_158, rfl⟩ fgZ_79 rfl (by decide) (rfl) ?_
            refine go_aload_n (pc' := 162) h ⟨dZ_advances_161, rfl⟩ rfl ?_
            refine gs_get (v := .int (iI (s0))) (pc' := 165) h ⟨dZ_advances_162, rfl⟩ fgZ_86 rfl (by decide) (rfl) ?_
            refine gi_isub (pc' := 166) h ⟨dZ_advances_165, rfl⟩ ?_
            refine gi_iconst (pc' := 167) h ⟨dZ_advances_166, rfl⟩ ?_
            refine gi_icmp_le (tgt := 174) (pc' := 170) h dZ_advances_167 rfl rfl (by omega) (fun c167 => ?_) (fun c167 => ?_)
            · refine gi_iconst (pc' := 175) h ⟨dZ_advances_174, rfl⟩ ?_
              refine gd_putI (i := 5) (pc' := 178) h ⟨dZ_advances_175, rfl⟩ fpZ_89 rfl (by decide) rfl rfl ?_
              refine gi_goto (tgt := 222) h dZ_advances_178 rfl ?_
              have e_L : lV (S.1 89) (S.1 88 3) (S.1 88 4) ≠ -1 := by unfold lV; rw [← e_S, if_pos g3, e_d]; rw [if_neg (by omega)]; omega
              have e_T : zTok (S.1 89) (S.1 88 3) (S.1 88 4) = 2 := by unfold zTok; rw [if_neg (by omega), if_pos e_K, if_neg e_L]
              exact gs_vret h hE dZ_advances_222 (by simp only [avS, pt_aset, aset_eq, aset_aset]; refine congrArg (aset S 88) (funext fun q => ?_); simp only [avW, uF, ← e_S, e_E, e_T, e_V]; by_cases q4 : q = 4 <;> by_cases q5 : q = 5 <;> by_cases q6 : q = 6 <;> by_cases q7 : q = 7 <;> simp [q4, q5, q6, q7] <;> omega)
            · refine gi_iconst (pc' := 171) h ⟨dZ_advances_170, rfl⟩ ?_
              refine gi_goto (tgt := 175) h dZ_advances_171 rfl ?_
              refine gd_putI (i := 5) (pc' := 178) h ⟨dZ_advances_175, rfl⟩ fpZ_89 rfl (by decide) rfl rfl ?_
              refine gi_goto (tgt := 222) h dZ_advances_178 rfl ?_
              have e_L : lV (S.1 89) (S.1 88 3) (S.1 88 4) = -1 := by unfold lV; rw [← e_S, if_pos g3, e_d]; rw [if_pos (by omega)]
              have e_T : zTok (S.1 89) (S.1 88 3) (S.1 88 4) = 4 := by unfold zTok; rw [if_neg (by omega), if_pos e_K, if_pos e_L]
              exact gs_vret h hE dZ_advances_222 (by simp only [avS, pt_aset, aset_eq, aset_aset]; refine congrArg (aset S 88) (funext fun q => ?_); simp only [avW, uF, ← e_S, e_E, e_T, e_V]; by_cases q4 : q = 4 <;> by_cases q5 : q = 5 <;> by_cases q6 : q = 6 <;> by_cases q7 : q = 7 <;> simp [q4, q5, q6, q7] <;> omega)
      · have c86 := b1 c86
        refine go_aload_n (pc' := 90) h ⟨dZ_advances_89, rfl⟩ rfl ?_
        refine go_aload_n (pc' := 91) h ⟨dZ_advances_90, rfl⟩ rfl ?_
        refine gs_get (v := .int (iI (v))) (pc' := 94) h ⟨dZ_advances_91, rfl⟩ fgZ_92 rfl (by decide) (rfl) ?_
        refine gi_bipush (pc' := 96) h ⟨dZ_advances_94, rfl⟩ rfl ?_
        refine gi_icmp_le (tgt := 106) (pc' := 99) h dZ_advances_96 rfl rfl (by omega) (fun c96 => ?_) (fun c96 => ?_)
        · refine gi_bipush (pc' := 108) h ⟨dZ_advances_106, rfl⟩ rfl ?_
          refine go_aload_n (pc' := 109) h ⟨dZ_advances_108, rfl⟩ rfl ?_
          refine gs_get (v := .int (iI (v))) (pc' := 112) h ⟨dZ_advances_109, rfl⟩ fgZ_92 rfl (by decide) (rfl) ?_
          refine gi_imul (pc' := 113) h ⟨dZ_advances_112, rfl⟩ ?_
          refine go_aload_n (pc' := 114) h ⟨dZ_advances_113, rfl⟩ rfl ?_
          refine go_aload_n (pc' := 115) h ⟨dZ_advances_114, rfl⟩ rfl ?_
          refine gs_get (v := .int (iI (j))) (pc' := 118) h ⟨dZ_advances_115, rfl⟩ fgZ_79 rfl (by decide) (rfl) ?_
          refine gd_callVI (e := laF (S.1 89) (S.1 88 3) j) (E := pt (pt (pt S 88 6 s0) 88 4 j) 88 7 v) (pc' := 121) (As := [.int (iI (j))]) (st := [.int (iI (10 * v)), .ref 88]) h hF ⟨dZ_advances_118, rfl⟩ kvZ_82 (cZ_letterAt X (S := pt (pt (pt S 88 6 s0) 88 4 j) 88 7 v) (x := j) zt (by omega)) (by omega) rfl (by decide) ⟨_, _, rfl⟩ rfl (Nat.le_of_ble_eq_true rfl) rfl ?_
          have la_118 := laF_c ztx (k := j) (by omega)
          refine gi_iadd (pc' := 122) h ⟨dZ_advances_121, rfl⟩ ?_
          refine gi_bipush (pc' := 124) h ⟨dZ_advances_122, rfl⟩ rfl ?_
          refine gi_isub (pc' := 125) h ⟨dZ_advances_124, rfl⟩ ?_
          refine gd_putI (i := 7) (pc' := 128) h ⟨dZ_advances_125, rfl⟩ fpZ_92 rfl (by decide) rfl rfl ?_
          refine go_aload_n (pc' := 129) h ⟨dZ_advances_128, rfl⟩ rfl ?_
          refine go_dup (pc' := 130) h ⟨dZ_advances_129, rfl⟩ rfl ?_
          refine gs_get (v := .int (iI (j))) (pc' := 133) h ⟨dZ_advances_130, rfl⟩ fgZ_79 rfl (by decide) (rfl) ?_
          refine gi_iconst (pc' := 134) h ⟨dZ_advances_133, rfl⟩ ?_
          refine gi_iadd (pc' := 135) h ⟨dZ_advances_134, rfl⟩ ?_
          refine gd_putI (i := 4) (pc' := 138) h ⟨dZ_advances_135, rfl⟩ fpZ_79 rfl (by decide) rfl rfl ?_
          refine gi_goto (tgt := 71) h dZ_advances_138 rfl ?_
          rw [pt_nmz]
          exact ih (j + 1) _ (by omega) (by omega) (by omega) (by omega) (by rw [g8, dgF, if_pos (by omega)]) (by rw [g9, zvF, if_pos (by omega), if_neg (by omega)]; congr 1; omega)
        · refine go_aload_n (pc' := 100) h ⟨dZ_advances_99, rfl⟩ rfl ?_
          refine gs_get (v := .int (iI (v))) (pc' := 103) h ⟨dZ_advances_100, rfl⟩ fgZ_92 rfl (by decide) (rfl) ?_
          refine gi_goto (tgt := 125) h dZ_advances_103 rfl ?_
          refine gd_putI (i := 7) (pc' := 128) h ⟨dZ_advances_125, rfl⟩ fpZ_92 rfl (by decide) rfl rfl ?_
          refine go_aload_n (pc' := 129) h ⟨dZ_advances_128, rfl⟩ rfl ?_
          refine go_dup (pc' := 130) h ⟨dZ_advances_129, rfl⟩ rfl ?_
          refine gs_get (v := .int (iI (j))) (pc' := 133) h ⟨dZ_advances_130, rfl⟩ fgZ_79 rfl (by decide) (rfl) ?_
          refine gi_iconst (pc' := 134) h ⟨dZ_advances_133, rfl⟩ ?_
          refine gi_iadd (pc' := 135) h ⟨dZ_advances_134, rfl⟩ ?_
          refine gd_putI (i := 4) (pc' := 138) h ⟨dZ_advances_135, rfl⟩ fpZ_79 rfl (by decide) rfl rfl ?_
          refine gi_goto (tgt := 71) h dZ_advances_138 rfl ?_
          rw [pt_nmz]
          exact ih (j + 1) _ (by omega) (by omega) (by omega) (by omega) (by rw [g8, dgF, if_pos (by omega)]) (by rw [g9, zvF, if_pos (by omega), if_pos (by omega)])
  have blanks : ∀ (n : Nat) (j : Int), S.1 88 3 - j < n → 0 ≤ j → j ≤ S.1 88 3 → skF (S.1 89) (S.1 88 3) 121 (S.1 88 4) = skF (S.1 89) (S.1 88 3) n j → Go F 2 (mk (pt S 88 4 j)) 0 0 0 [.ref 88] [] := by
    intro n
    induction n with
    | zero => intro j g4 g5 g6; exfalso; omega
    | succ n ih =>
      intro j g4 g5 g6 g7
      refine go_aload_n (pc' := 1) h ⟨dZ_advances_0, rfl⟩ rfl ?_
      refine go_aload_n (pc' := 2) h ⟨dZ_advances_1, rfl⟩ rfl ?_
      refine gs_get (v := .int (iI (j))) (pc' := 5) h ⟨dZ_advances_2, rfl⟩ fgZ_79 rfl (by decide) (rfl) ?_
      refine gd_callVI (e := laF (S.1 89) (S.1 88 3) j) (E := pt S 88 4 j) (pc' := 8) (As := [.int (iI (j))]) (st := []) h hF ⟨dZ_advances_5, rfl⟩ kvZ_82 (cZ_letterAt X (S := pt S 88 4 j) (x := j) zt (by omega)) (by omega) rfl (by decide) ⟨_, _, rfl⟩ rfl (Nat.le_of_ble_eq_true rfl) rfl ?_
      have la_5 := laF_c ztx (k := j) (by omega)
      refine gi_bipush (pc' := 10) h ⟨dZ_advances_8, rfl⟩ rfl ?_
      refine gi_icmp_ne (tgt := 26) (pc' := 13) h dZ_advances_10 rfl rfl (by omega) (fun c10 => ?_) (fun c10 => ?_)
      · have e_S : j = lS (S.1 89) (S.1 88 3) (S.1 88 4) := by unfold lS; rw [g7, skF, if_neg (by omega)]
        refine go_aload_n (pc' := 27) h ⟨dZ_advances_26, rfl⟩ rfl ?_
        refine go_aload_n (pc' := 28) h ⟨dZ_advances_27, rfl⟩ rfl ?_
        refine gs_get (v := .int (iI (j))) (pc' := 31) h ⟨dZ_advances_28, rfl⟩ fgZ_79 rfl (by decide) (rfl) ?_
        refine gd_putI (i := 6) (pc' := 34) h ⟨dZ_advances_31, rfl⟩ fpZ_86 rfl (by decide) rfl rfl ?_
        refine go_aload_n (pc' := 35) h ⟨dZ_advances_34, rfl⟩ rfl ?_
        refine go_aload_n (pc' := 36) h ⟨dZ_advances_35, rfl⟩ rfl ?_
        refine gs_get (v := .int (iI (j))) (pc' := 39) h ⟨dZ_advances_36, rfl⟩ fgZ_79 rfl (by decide) (rfl) ?_
        refine gd_callVI (e := laF (S.1 89) (S.1 88 3) j) (E := pt (pt S 88 4 j) 88 6 j) (pc' := 42) (As := [.int (iI (j))]) (st := []) h hF ⟨dZ_advances_39, rfl⟩ kvZ_82 (cZ_letterAt X (S := pt (pt S 88 4 j) 88 6 j) (x := j) zt (by omega)) (by omega) rfl (by decide) ⟨_, _, rfl⟩ rfl (Nat.le_of_ble_eq_true rfl) rfl ?_
        have la_39 := laF_c ztx (k := j) (by omega)
        refine go_istore_n (L' := [.ref 88, .int (iI (laF (S.1 89) (S.1 88 3) j))]) (pc' := 43) h ⟨dZ_advances_42, rfl⟩ (by decide) rfl rfl ?_
        refine go_iload_n (pc' := 44) h ⟨dZ_advances_43, rfl⟩ rfl ?_
        refine gi_if_ge (tgt := 55) (pc' := 47) h dZ_advances_44 rfl rfl (by omega) (fun c44 => ?_) (fun c44 => ?_)
        · refine go_iload_n (pc' := 56) h ⟨dZ_advances_55, rfl⟩ rfl ?_
          refine gi_bipush (pc' := 58) h ⟨dZ_advances_56, rfl⟩ rfl ?_
          refine gi_bipush (pc' := 60) h ⟨dZ_advances_58, rfl⟩ rfl ?_
          refine gd_callSI (e := if 48 ≤ laF (S.1 89) (S.1 88 3) j ∧ laF (S.1 89) (S.1 88 3) j ≤ 57 then 1 else 0) (E := pt (pt S 88 4 j) 88 6 j) (pc' := 63) (As := [.int (iI (laF (S.1 89) (S.1 88 3) j)), .int (iI (48)), .int (iI (57))]) (st := []) h hF ⟨dZ_advances_60, rfl⟩ kvZ_72 (cZ_in X (by omega)) (by omega) rfl (Nat.le_of_ble_eq_true rfl) rfl ?_
          refine gi_if_eq (tgt := 181) (pc' := 66) h dZ_advances_63 rfl rfl (by split <;> omega) (fun c63 => ?_) (fun c63 => ?_)
          · have c63 := b0 c63
            refine go_aload_n (pc' := 182) h ⟨dZ_advances_181, rfl⟩ rfl ?_
            refine go_dup (pc' := 183) h ⟨dZ_advances_182, rfl⟩ rfl ?_
            refine gs_get (v := .int (iI (j))) (pc' := 186) h ⟨dZ_advances_183, rfl⟩ fgZ_79 rfl (by decide) (rfl) ?_
            refine gi_iconst (pc' := 187) h ⟨dZ_advances_186, rfl⟩ ?_
            refine gi_iadd (pc' := 188) h ⟨dZ_advances_187, rfl⟩ ?_
            refine gd_putI (i := 4) (pc' := 191) h ⟨dZ_advances_188, rfl⟩ fpZ_79 rfl (by decide) rfl rfl ?_
            refine go_aload_n (pc' := 192) h ⟨dZ_advances_191, rfl⟩ rfl ?_
            refine go_iload_n (pc' := 193) h ⟨dZ_advances_192, rfl⟩ rfl ?_
            refine gd_putI (i := 7) (pc' := 196) h ⟨dZ_advances_193, rfl⟩ fpZ_92 rfl (by decide) rfl rfl ?_
            refine go_aload_n (pc' := 197) h ⟨dZ_advances_196, rfl⟩ rfl ?_
            refine go_iload_n (pc' := 198) h ⟨dZ_advances_197, rfl⟩ rfl ?_
            refine gi_bipush (pc' := 200) h ⟨dZ_advances_198, rfl⟩ rfl ?_
            refine gi_icmp_ne (tgt := 207) (pc' := 203) h dZ_advances_200 rfl rfl (by omega) (fun c200 => ?_) (fun c200 => ?_)
            · refine go_iload_n (pc' := 208) h ⟨dZ_advances_207, rfl⟩ rfl ?_
              refine gd_callSI (e := if isK (laF (S.1 89) (S.1 88 3) j) then 1 else 0) (E := pt (pt (pt (pt S 88 4 j) 88 6 j) 88 4 (j + 1)) 88 7 (laF (S.1 89) (S.1 88 3) j)) (pc' := 211) (As := [.int (iI (laF (S.1 89) (S.1 88 3) j))]) (st := [.ref 88]) h hF ⟨dZ_advances_208, rfl⟩ kvZ_95 (cZ_isLetter X (by omega)) (by omega) rfl (Nat.le_of_ble_eq_true rfl) rfl ?_
              refine gi_if_eq (tgt := 218) (pc' := 214) h dZ_advances_211 rfl rfl (by split <;> omega) (fun c211 => ?_) (fun c211 => ?_)
              · have c211 := b0 c211
                refine gi_iconst (pc' := 219) h ⟨dZ_advances_218, rfl⟩ ?_
                refine gd_putI (i := 5) (pc' := 222) h ⟨dZ_advances_219, rfl⟩ fpZ_89 rfl (by decide) rfl rfl ?_
                have n_D : ¬ isD (S.1 89 j) := by omega
                have e_K : lK (S.1 89) (S.1 88 3) (S.1 88 4) = 1 := by unfold lK; rw [← e_S, if_neg (by omega), if_neg n_D]
                have e_E : lE (S.1 89) (S.1 88 3) (S.1 88 4) = j + 1 := by unfold lE; rw [← e_S, if_neg (by omega), if_neg n_D]
                have e_T : zTok (S.1 89) (S.1 88 3) (S.1 88 4) = 4 := by unfold zTok; rw [if_neg (by omega), if_neg (by omega), ← e_S, if_neg (by omega), if_neg (by omega)]
                have e_V : zVal (S.1 89) (S.1 88 3) (S.1 88 4) (S.1 88 7) = S.1 89 j := by unfold zVal; rw [if_neg (by omega), if_neg (by omega), ← e_S]
                exact gs_vret h hE dZ_advances_222 (by simp only [avS, pt_aset, aset_eq, aset_aset]; refine congrArg (aset S 88) (funext fun q => ?_); simp only [avW, uF, ← e_S, e_E, e_T, e_V]; by_cases q4 : q = 4 <;> by_cases q5 : q = 5 <;> by_cases q6 : q = 6 <;> by_cases q7 : q = 7 <;> simp [q4, q5, q6, q7] <;> omega)
              · have c211 := b1 c211
                refine gi_iconst (pc' := 215) h ⟨dZ_advances_214, rfl⟩ ?_
                refine gi_goto (tgt := 219) h dZ_advances_215 rfl ?_
                refine gd_putI (i := 5) (pc' := 222) h ⟨dZ_advances_219, rfl⟩ fpZ_89 rfl (by decide) rfl rfl ?_
                have n_D : ¬ isD (S.1 89 j) := by omega
                have e_K : lK (S.1 89) (S.1 88 3) (S.1 88 4) = 1 := by unfold lK; rw [← e_S, if_neg (by omega), if_neg n_D]
                have e_E : lE (S.1 89) (S.1 88 3) (S.1 88 4) = j + 1 := by unfold lE; rw [← e_S, if_neg (by omega), if_neg n_D]
                have e_T : zTok (S.1 89) (S.1 88 3) (S.1 88 4) = 1 := by unfold zTok; rw [if_neg (by omega), if_neg (by omega), ← e_S, if_neg (by omega), if_pos (by omega)]
                have e_V : zVal (S.1 89) (S.1 88 3) (S.1 88 4) (S.1 88 7) = S.1 89 j := by unfold zVal; rw [if_neg (by omega), if_neg (by omega), ← e_S]
                exact gs_vret h hE dZ_advances_222 (by simp only [avS, pt_aset, aset_eq, aset_aset]; refine congrArg (aset S 88) (funext fun q => ?_); simp only [avW, uF, ← e_S, e_E, e_T, e_V]; by_cases q4 : q = 4 <;> by_cases q5 : q = 5 <;> by_cases q6 : q = 6 <;> by_cases q7 : q = 7 <;> simp [q4, q5, q6, q7] <;> omega)
            · refine gi_iconst (pc' := 204) h ⟨dZ_advances_203, rfl⟩ ?_
              refine gi_goto (tgt := 219) h dZ_advances_204 rfl ?_
              refine gd_putI (i := 5) (pc' := 222) h ⟨dZ_advances_219, rfl⟩ fpZ_89 rfl (by decide) rfl rfl ?_
              have n_D : ¬ isD (S.1 89 j) := by omega
              have e_K : lK (S.1 89) (S.1 88 3) (S.1 88 4) = 1 := by unfold lK; rw [← e_S, if_neg (by omega), if_neg n_D]
              have e_E : lE (S.1 89) (S.1 88 3) (S.1 88 4) = j + 1 := by unfold lE; rw [← e_S, if_neg (by omega), if_neg n_D]
              have e_T : zTok (S.1 89) (S.1 88 3) (S.1 88 4) = 3 := by unfold zTok; rw [if_neg (by omega), if_neg (by omega), ← e_S, if_pos (by omega)]
              have e_V : zVal (S.1 89) (S.1 88 3) (S.1 88 4) (S.1 88 7) = S.1 89 j := by unfold zVal; rw [if_neg (by omega), if_neg (by omega), ← e_S]
              exact gs_vret h hE dZ_advances_222 (by simp only [avS, pt_aset, aset_eq, aset_aset]; refine congrArg (aset S 88) (funext fun q => ?_); simp only [avW, uF, ← e_S, e_E, e_T, e_V]; by_cases q4 : q = 4 <;> by_cases q5 : q = 5 <;> by_cases q6 : q = 6 <;> by_cases q7 : q = 7 <;> simp [q4, q5, q6, q7] <;> omega)
          · have c63 := b1 c63
            refine go_aload_n (pc' := 67) h ⟨dZ_advances_66, rfl⟩ rfl ?_
            refine gi_iconst (pc' := 68) h ⟨dZ_advances_67, rfl⟩ ?_
            refine gd_putI (i := 7) (pc' := 71) h ⟨dZ_advances_68, rfl⟩ fpZ_92 rfl (by decide) rfl rfl ?_
            have h0 := digits j e_S g5 (by omega) (by omega) 121 j 0 (by omega) (by omega) (by omega) (by omega) rfl rfl
            rw [show pt (pt (pt S 88 6 j) 88 4 j) 88 7 0 = pt (pt (pt S 88 4 j) 88 6 j) 88 7 0 from by
              simp only [pt_aset, aset_eq, aset_aset]
              refine congrArg (aset S 88) (funext fun q => ?_)
              simp only [uF]
              by_cases q4 : q = 4 <;> by_cases q6 : q = 6 <;> by_cases q7 : q = 7 <;> simp [q4, q6, q7] <;> omega] at h0
            exact h0
        · refine go_aload_n (pc' := 48) h ⟨dZ_advances_47, rfl⟩ rfl ?_
          refine gi_iconst (pc' := 49) h ⟨dZ_advances_48, rfl⟩ ?_
          refine gd_putI (i := 5) (pc' := 52) h ⟨dZ_advances_49, rfl⟩ fpZ_89 rfl (by decide) rfl rfl ?_
          refine gi_goto (tgt := 222) h dZ_advances_52 rfl ?_
          have e_K : lK (S.1 89) (S.1 88 3) (S.1 88 4) = 0 := by unfold lK; rw [← e_S, if_pos (by omega)]
          have e_E : lE (S.1 89) (S.1 88 3) (S.1 88 4) = j := by unfold lE; rw [← e_S, if_pos (by omega)]
          have e_T : zTok (S.1 89) (S.1 88 3) (S.1 88 4) = 0 := by unfold zTok; rw [if_pos e_K]
          have e_V : zVal (S.1 89) (S.1 88 3) (S.1 88 4) (S.1 88 7) = S.1 88 7 := by unfold zVal; rw [if_pos e_K]
          exact gs_vret h hE dZ_advances_222 (by simp only [avS, pt_aset, aset_eq, aset_aset]; refine congrArg (aset S 88) (funext fun q => ?_); simp only [avW, uF, ← e_S, e_E, e_T, e_V]; by_cases q4 : q = 4 <;> by_cases q5 : q = 5 <;> by_cases q6 : q = 6 <;> by_cases q7 : q = 7 <;> simp [q4, q5, q6, q7] <;> omega)
      · refine go_aload_n (pc' := 14) h ⟨dZ_advances_13, rfl⟩ rfl ?_
        refine go_dup (pc' := 15) h ⟨dZ_advances_14, rfl⟩ rfl ?_
        refine gs_get (v := .int (iI (j))) (pc' := 18) h ⟨dZ_advances_15, rfl⟩ fgZ_79 rfl (by decide) (rfl) ?_
        refine gi_iconst (pc' := 19) h ⟨dZ_advances_18, rfl⟩ ?_
        refine gi_iadd (pc' := 20) h ⟨dZ_advances_19, rfl⟩ ?_
        refine gd_putI (i := 4) (pc' := 23) h ⟨dZ_advances_20, rfl⟩ fpZ_79 rfl (by decide) rfl rfl ?_
        refine gi_goto (tgt := 0) h dZ_advances_23 rfl ?_
        rw [pt_ptz]
        exact ih (j + 1) (by omega) (by omega) (by omega) (by rw [g7, skF, if_pos (by omega)])
  have h0 := blanks 121 (S.1 88 4) (by omega) (by omega) (by omega) rfl
  rw [pt_aset, show uF (S.1 88) 4 (S.1 88 4) = S.1 88 from by funext q; unfold uF; by_cases q1 : q = 4 <;> simp [q1], aset_self] at h0
  exact h0
/-! reading in the reference -/
def TZ (S : Sg) : Prop := (0 ≤ S.1 88 3 ∧ S.1 88 3 ≤ 120) ∧ (∀ j : Int, 0 ≤ j → j < S.1 88 3 → 0 ≤ S.1 89 j ∧ S.1 89 j ≤ 255) ∧ (0 ≤ S.1 88 4 ∧ S.1 88 4 ≤ S.1 88 3) ∧ (-1 ≤ S.1 88 8 ∧ S.1 88 8 ≤ 120) ∧ (0 ≤ S.1 88 6 ∧ S.1 88 6 ≤ 120) ∧ (0 ≤ S.1 88 5 ∧ S.1 88 5 ≤ 4) ∧ (-1 ≤ S.1 88 7 ∧ S.1 88 7 ≤ 999)
def tkZ (S : Sg) (b : Int) : Int × Sg := if 0 ≤ S.1 88 8 then (0, S) else if b = 0 then (0, pt S 88 8 (S.1 88 6)) else (S.1 88 7, avS S)
def nmZ (S : Sg) (l m : Int) : Int × Sg := if S.1 88 5 = 2 ∧ l ≤ S.1 88 7 ∧ S.1 88 7 ≤ m then tkZ S 1 else tkZ S 0
theorem avS_ne (S : Sg) {a : Nat} (h : a ≠ 88) : (avS S).1 a = S.1 a := aset_ne _ _ h
theorem avS_88 (S : Sg) : (avS S).1 88 = avW (S.1 89) (S.1 88 3) (S.1 88) := aset_eq _ _ _
theorem avS_hi (S : Sg) {j : Int} (h : j < 4 ∨ 7 < j) : (avS S).1 88 j = S.1 88 j := by
  rw [avS_88]
  unfold avW
  rw [if_neg (by omega), if_neg (by omega), if_neg (by omega), if_neg (by omega)]
theorem avS_4 (S : Sg) : (avS S).1 88 4 = lE (S.1 89) (S.1 88 3) (S.1 88 4) := by rw [avS_88]; rfl
theorem avS_5 (S : Sg) : (avS S).1 88 5 = zTok (S.1 89) (S.1 88 3) (S.1 88 4) := by rw [avS_88]; rfl
theorem avS_6 (S : Sg) : (avS S).1 88 6 = lS (S.1 89) (S.1 88 3) (S.1 88 4) := by rw [avS_88]; rfl
theorem avS_7 (S : Sg) : (avS S).1 88 7 = zVal (S.1 89) (S.1 88 3) (S.1 88 4) (S.1 88 7) := by rw [avS_88]; rfl
theorem zTok_bd (f : Int → Int) (z i : Int) : (0 ≤ zTok f z i ∧ zTok f z i ≤ 4) ∧ (zTok f z i = 0 → lK f z i = 0) := by
  unfold zTok
  split
  · rename_i h; exact ⟨by omega, fun _ => h⟩
  · split
    · split
      · exact ⟨by omega, fun h => by omega⟩
      · exact ⟨by omega, fun h => by omega⟩
    · split
      · exact ⟨by omega, fun h => by omega⟩
      · split
        · exact ⟨by omega, fun h => by omega⟩
        · exact ⟨by omega, fun h => by omega⟩
theorem zVal_bd {f : Int → Int} {z i w : Int} (hf : ∀ j : Int, 0 ≤ j → j < z → 0 ≤ f j ∧ f j ≤ 255) (h0 : 0 ≤ i) (h : i ≤ z) (hw : -1 ≤ w ∧ w ≤ 999) : -1 ≤ zVal f z i w ∧ zVal f z i w ≤ 999 := by
  have h1 := skF_bd f z 121 i h
  have h2 := zv_nv f z 121 (lS f z i) 0 0 (Or.inl (by omega))
  unfold zvR at h2
  unfold zVal
  split
  · exact hw
  · rename_i hk
    split
    · omega
    · have hz : ¬ z ≤ lS f z i := fun e => hk (by unfold lK; rw [if_pos e])
      have h4 := hf (lS f z i) (by unfold lS; omega) (by omega)
      omega
theorem TZ.av {S : Sg} (h : TZ S) : TZ (avS S) ∧ S.1 88 4 ≤ (avS S).1 88 6 ∧ ((avS S).1 88 5 = 0 ∨ (avS S).1 88 6 < (avS S).1 88 4) := by
  obtain ⟨h1, h2, h3, h4, h5, h6, h7⟩ := h
  have e1 := lE_bd (S.1 89) h3.2
  have e2 := zTok_bd (S.1 89) (S.1 88 3) (S.1 88 4)
  have e3 := zVal_bd h2 h3.1 h3.2 h7
  unfold TZ
  rw [avS_hi S (j := 3) (by omega), avS_hi S (j := 8) (by omega), avS_ne S (a := 89) (by decide), avS_4, avS_5, avS_6, avS_7]
  refine ⟨⟨h1, h2, by omega, h4, by omega, e2.1, e3⟩, by omega, ?_⟩
  by_cases hk : lK (S.1 89) (S.1 88 3) (S.1 88 4) = 0
  · left; unfold zTok; rw [if_pos hk]
  · right; exact e1.2.2.2 hk
theorem TZ.ft {S : Sg} (h : TZ S) : TZ (pt S 88 8 (S.1 88 6)) := by
  obtain ⟨h1, h2, h3, h4, h5, h6, h7⟩ := h
  exact ⟨h1, h2, h3, by show -1 ≤ S.1 88 6 ∧ S.1 88 6 ≤ 120; omega, h5, h6, h7⟩
theorem TZ.tk {S : Sg} (h : TZ S) (b : Int) : TZ (tkZ S b).2 := by
  unfold tkZ
  split
  · exact h
  · split
    · exact h.ft
    · exact h.av.1
theorem TZ.nm {S : Sg} (h : TZ S) (l m : Int) : TZ (nmZ S l m).2 := by
  unfold nmZ
  split
  · exact h.tk 1
  · exact h.tk 0
theorem TZ.pt {S : Sg} (h : TZ S) {a : Nat} (ha : a ≠ 88 ∧ a ≠ 89) (i x : Int) : TZ (pt S a i x) := by
  unfold TZ
  rw [pt_ne _ _ _ (Ne.symm ha.1), pt_ne _ _ _ (Ne.symm ha.2)]
  exact h
set_option maxRecDepth 4000 in
theorem cZ_takes (X : XT) {S : Sg} {b : Int} (hb : b = 0 ∨ b = 1) (hT : TZ S) : Ctr X 2 yZ_takes bZ_takes 3 (some .int) [.ref 88, .int (iI (b))] (mk S) (PI (fun r S' => r = (tkZ S b).1 ∧ S' = (tkZ S b).2)) 0 0 := by
  refine Ctr.ofS (by decide) rfl (Nat.le_of_ble_eq_true rfl) (fun F h hF hE => ?_)
  obtain ⟨h1, h2, h3, h4, h5, h6, h7⟩ := id hT
  refine go_aload_n (pc' := 1) h ⟨dZ_takes_0, rfl⟩ rfl ?_
  refine gd_callVI (e := if S.1 88 8 < 0 then 1 else 0) (E := S) (pc' := 4) (As := []) (st := []) h hF ⟨dZ_takes_1, rfl⟩ kvZ_102 (cZ_isWell X (by omega)) (by omega) rfl (by decide) ⟨_, _, rfl⟩ rfl (Nat.le_of_ble_eq_true rfl) rfl ?_
  refine gi_if_ne (tgt := 9) (pc' := 7) h dZ_takes_4 rfl rfl (by split <;> omega) (fun c4 => ?_) (fun c4 => ?_)
  · have c4 := b1 c4
    refine go_iload_n (pc' := 10) h ⟨dZ_takes_9, rfl⟩ rfl ?_
    refine gi_if_ne (tgt := 23) (pc' := 13) h dZ_takes_10 rfl rfl (by omega) (fun c10 => ?_) (fun c10 => ?_)
    · refine go_aload_n (pc' := 24) h ⟨dZ_takes_23, rfl⟩ rfl ?_
      refine gs_get (v := .int (iI (S.1 88 7))) (pc' := 27) h ⟨dZ_takes_24, rfl⟩ fgZ_92 rfl (by decide) (rfl) ?_
      refine go_istore_n (L' := [.ref 88, .int (iI (b)), .int (iI (S.1 88 7))]) (pc' := 28) h ⟨dZ_takes_27, rfl⟩ (by decide) rfl rfl ?_
      refine go_aload_n (pc' := 29) h ⟨dZ_takes_28, rfl⟩ rfl ?_
      refine gd_callVV (E := avS S) (pc' := 32) (As := []) (st := []) h hF ⟨dZ_takes_29, rfl⟩ kvZ_106 (cZ_adv X h1 h2 h3) (by omega) rfl (by decide) ⟨_, _, rfl⟩ rfl (Nat.le_of_ble_eq_true rfl) rfl ?_
      refine go_iload_n (pc' := 33) h ⟨dZ_takes_32, rfl⟩ rfl ?_
      exact gs_iret h hE dZ_takes_33 (by unfold tkZ; rw [if_neg (by omega), if_neg (by omega)]; exact ⟨rfl, rfl⟩)
    · refine go_aload_n (pc' := 14) h ⟨dZ_takes_13, rfl⟩ rfl ?_
      refine go_aload_n (pc' := 15) h ⟨dZ_takes_14, rfl⟩ rfl ?_
      refine gs_get (v := .int (iI (S.1 88 6))) (pc' := 18) h ⟨dZ_takes_15, rfl⟩ fgZ_86 rfl (by decide) (rfl) ?_
      refine gd_putI (i := 8) (pc' := 21) h ⟨dZ_takes_18, rfl⟩ fpZ_99 rfl (by decide) rfl rfl ?_
      refine gi_iconst (pc' := 22) h ⟨dZ_takes_21, rfl⟩ ?_
      exact gs_iret h hE dZ_takes_22 (by unfold tkZ; rw [if_neg (by omega), if_pos (by omega)]; exact ⟨rfl, rfl⟩)
  · have c4 := b0 c4
    refine gi_iconst (pc' := 8) h ⟨dZ_takes_7, rfl⟩ ?_
    exact gs_iret h hE dZ_takes_8 (by unfold tkZ; rw [if_pos (by omega)]; exact ⟨rfl, rfl⟩)
set_option maxRecDepth 4000 in
theorem cZ_number (X : XT) {S : Sg} {l m : Int} (hl : (-100 ≤ l ∧ l ≤ 1000) ∧ (-100 ≤ m ∧ m ≤ 1000)) (hT : TZ S) : Ctr X 3 yZ_number bZ_number 3 (some .int) [.ref 88, .int (iI (l)), .int (iI (m))] (mk S) (PI (fun r S' => r = (nmZ S l m).1 ∧ S' = (nmZ S l m).2)) 0 0 := by
  refine Ctr.ofS (by decide) rfl (Nat.le_of_ble_eq_true rfl) (fun F h hF hE => ?_)
  obtain ⟨h1, h2, h3, h4, h5, h6, h7⟩ := id hT
  refine go_aload_n (pc' := 1) h ⟨dZ_number_0, rfl⟩ rfl ?_
  refine go_aload_n (pc' := 2) h ⟨dZ_number_1, rfl⟩ rfl ?_
  refine gs_get (v := .int (iI (S.1 88 5))) (pc' := 5) h ⟨dZ_number_2, rfl⟩ fgZ_89 rfl (by decide) (rfl) ?_
  refine gi_iconst (pc' := 6) h ⟨dZ_number_5, rfl⟩ ?_
  refine gi_icmp_ne (tgt := 25) (pc' := 9) h dZ_number_6 rfl rfl (by omega) (fun c6 => ?_) (fun c6 => ?_)
  · refine gi_iconst (pc' := 26) h ⟨dZ_number_25, rfl⟩ ?_
    refine gd_callVI (e := (tkZ S 0).1) (E := (tkZ S 0).2) (pc' := 29) (As := [.int (iI (0))]) (st := []) h hF ⟨dZ_number_26, rfl⟩ kvZ_109 (cZ_takes X (b := 0) (by omega) hT) (by omega) rfl (by decide) ⟨_, _, rfl⟩ rfl (Nat.le_of_ble_eq_true rfl) rfl ?_
    exact gs_iret h hE dZ_number_29 (by unfold nmZ; rw [if_neg (by omega)]; exact ⟨rfl, rfl⟩)
  · refine go_aload_n (pc' := 10) h ⟨dZ_number_9, rfl⟩ rfl ?_
    refine gs_get (v := .int (iI (S.1 88 7))) (pc' := 13) h ⟨dZ_number_10, rfl⟩ fgZ_92 rfl (by decide) (rfl) ?_
    refine go_iload_n (pc' := 14) h ⟨dZ_number_13, rfl⟩ rfl ?_
    refine go_iload_n (pc' := 15) h ⟨dZ_number_14, rfl⟩ rfl ?_
    refine gd_callSI (e := if l ≤ S.1 88 7 ∧ S.1 88 7 ≤ m then 1 else 0) (E := S) (pc' := 18) (As := [.int (iI (S.1 88 7)), .int (iI (l)), .int (iI (m))]) (st := [.ref 88]) h hF ⟨dZ_number_15, rfl⟩ kvZ_72 (cZ_in X (by omega)) (by omega) rfl (Nat.le_of_ble_eq_true rfl) rfl ?_
    refine gi_if_eq (tgt := 25) (pc' := 21) h dZ_number_18 rfl rfl (by split <;> omega) (fun c18 => ?_) (fun c18 => ?_)
    · have c18 := b0 c18
      refine gi_iconst (pc' := 26) h ⟨dZ_number_25, rfl⟩ ?_
      refine gd_callVI (e := (tkZ S 0).1) (E := (tkZ S 0).2) (pc' := 29) (As := [.int (iI (0))]) (st := []) h hF ⟨dZ_number_26, rfl⟩ kvZ_109 (cZ_takes X (b := 0) (by omega) hT) (by omega) rfl (by decide) ⟨_, _, rfl⟩ rfl (Nat.le_of_ble_eq_true rfl) rfl ?_
      exact gs_iret h hE dZ_number_29 (by unfold nmZ; rw [if_neg (by omega)]; exact ⟨rfl, rfl⟩)
    · have c18 := b1 c18
      refine gi_iconst (pc' := 22) h ⟨dZ_number_21, rfl⟩ ?_
      refine gi_goto (tgt := 26) h dZ_number_22 rfl ?_
      refine gd_callVI (e := (tkZ S 1).1) (E := (tkZ S 1).2) (pc' := 29) (As := [.int (iI (1))]) (st := []) h hF ⟨dZ_number_26, rfl⟩ kvZ_109 (cZ_takes X (b := 1) (by omega) hT) (by omega) rfl (by decide) ⟨_, _, rfl⟩ rfl (Nat.le_of_ble_eq_true rfl) rfl ?_
      exact gs_iret h hE dZ_number_29 (by unfold nmZ; rw [if_pos (by omega)]; exact ⟨rfl, rfl⟩)
def zBeg (S : Sg) : Sg := pt (pt (pt (pt (pt S 88 10 0) 90 4 0) 90 5 0) 90 6 3) 90 7 3
set_option maxRecDepth 4000 in
theorem cZ_begins (X : XT) {S : Sg} : Ctr X 0 yZ_begins bZ_begins 1 none [.ref 88] (mk S) (PV (fun S' => S' = zBeg S)) 0 0 := by
  refine Ctr.ofS (by decide) rfl (Nat.le_of_ble_eq_true rfl) (fun F h hF hE => ?_)
  refine go_aload_n (pc' := 1) h ⟨dZ_begins_0, rfl⟩ rfl ?_
  refine gi_iconst (pc' := 2) h ⟨dZ_begins_1, rfl⟩ ?_
  refine gd_putI (i := 10) (pc' := 5) h ⟨dZ_begins_2, rfl⟩ fpZ_113 rfl (by decide) rfl rfl ?_
  refine go_aload_n (pc' := 6) h ⟨dZ_begins_5, rfl⟩ rfl ?_
  refine gs_get (v := .ref 90) (pc' := 9) h ⟨dZ_begins_6, rfl⟩ fgZ_13 rfl (by decide) (rfl) ?_
  refine gi_iconst (pc' := 10) h ⟨dZ_begins_9, rfl⟩ ?_
  refine gi_iconst (pc' := 11) h ⟨dZ_begins_10, rfl⟩ ?_
  refine gs_iast (pc' := 12) h ⟨dZ_begins_11, rfl⟩ rfl (by have hln : (ln 90 : Int) = 8 := rfl; omega) ?_
  refine go_aload_n (pc' := 13) h ⟨dZ_begins_12, rfl⟩ rfl ?_
  refine gs_get (v := .ref 90) (pc' := 16) h ⟨dZ_begins_13, rfl⟩ fgZ_13 rfl (by decide) (rfl) ?_
  refine gi_iconst (pc' := 17) h ⟨dZ_begins_16, rfl⟩ ?_
  refine gi_iconst (pc' := 18) h ⟨dZ_begins_17, rfl⟩ ?_
  refine gs_iast (pc' := 19) h ⟨dZ_begins_18, rfl⟩ rfl (by have hln : (ln 90 : Int) = 8 := rfl; omega) ?_
  refine go_aload_n (pc' := 20) h ⟨dZ_begins_19, rfl⟩ rfl ?_
  refine gs_get (v := .ref 90) (pc' := 23) h ⟨dZ_begins_20, rfl⟩ fgZ_13 rfl (by decide) (rfl) ?_
  refine gi_bipush (pc' := 25) h ⟨dZ_begins_23, rfl⟩ rfl ?_
  refine gi_iconst (pc' := 26) h ⟨dZ_begins_25, rfl⟩ ?_
  refine gs_iast (pc' := 27) h ⟨dZ_begins_26, rfl⟩ rfl (by have hln : (ln 90 : Int) = 8 := rfl; omega) ?_
  refine go_aload_n (pc' := 28) h ⟨dZ_begins_27, rfl⟩ rfl ?_
  refine gs_get (v := .ref 90) (pc' := 31) h ⟨dZ_begins_28, rfl⟩ fgZ_13 rfl (by decide) (rfl) ?_
  refine gi_bipush (pc' := 33) h ⟨dZ_begins_31, rfl⟩ rfl ?_
  refine gi_iconst (pc' := 34) h ⟨dZ_begins_33, rfl⟩ ?_
  refine gs_iast (pc' := 35) h ⟨dZ_begins_34, rfl⟩ rfl (by have hln : (ln 90 : Int) = 8 := rfl; omega) ?_
  exact gs_vret h hE dZ_begins_35 (rfl)
abbrev mayB (S : Sg) : Prop := (S.1 88 7 = 115 ∧ S.1 90 4 < 5) ∨ (S.1 88 7 = 116 ∧ S.1 90 5 < 4) ∨ (S.1 88 7 = 114 ∧ S.1 88 10 % 2 = 0) ∨ ((S.1 88 7 ≠ 115 ∧ S.1 88 7 ≠ 116 ∧ S.1 88 7 ≠ 114) ∧ S.1 88 10 / 2 % 2 = 0)
theorem td_1 : ∀ a : Nat, a < 4 → iI (a : Int) &&& iI 1 = iI ((a : Int) % 2) ∧ iI (a : Int) &&& iI 2 = iI ((a : Int) / 2 % 2 * 2) ∧ iI (a : Int) ||| iI 1 = iI ((a : Int) - (a : Int) % 2 + 1) ∧ iI (a : Int) ||| iI 2 = iI ((a : Int) - (a : Int) / 2 % 2 * 2 + 2) := by decide +kernel
theorem td1 {a : Int} (h : 0 ≤ a ∧ a ≤ 3) : iI a &&& iI 1 = iI (a % 2) ∧ iI a &&& iI 2 = iI (a / 2 % 2 * 2) ∧ iI a ||| iI 1 = iI (a - a % 2 + 1) ∧ iI a ||| iI 2 = iI (a - a / 2 % 2 * 2 + 2) := by
  have := td_1 a.toNat (by omega)
  rwa [Int.toNat_of_nonneg h.1] at this
def MB (S : Sg) : Prop := (0 ≤ S.1 90 4 ∧ S.1 90 4 ≤ 5) ∧ (0 ≤ S.1 90 5 ∧ S.1 90 5 ≤ 4) ∧ (0 ≤ S.1 88 10 ∧ S.1 88 10 ≤ 3)
set_option maxRecDepth 4000 in
theorem cZ_mayBegin (X : XT) {S : Sg} (hT : TZ S) (hM : MB S) : Ctr X 1 yZ_mayBegin bZ_mayBegin 1 (some .boolean) [.ref 88] (mk S) (PI (fun r S' => r = (if mayB S then 1 else 0) ∧ S' = S)) 0 0 := by
  refine Ctr.ofS (by decide) rfl (Nat.le_of_ble_eq_true rfl) (fun F h hF hE => ?_)
  obtain ⟨h1, h2, h3, h4, h5, h6, h7⟩ := id hT
  obtain ⟨m4, m5, mt⟩ := id hM
  refine go_aload_n (pc' := 1) h ⟨dZ_mayBegin_0, rfl⟩ rfl ?_
  refine gs_get (v := .int (iI (S.1 88 7))) (pc' := 4) h ⟨dZ_mayBegin_1, rfl⟩ fgZ_92 rfl (by decide) (rfl) ?_
  refine gi_bipush (pc' := 6) h ⟨dZ_mayBegin_4, rfl⟩ rfl ?_
  refine gi_icmp_eq (tgt := 18) (pc' := 9) h dZ_mayBegin_6 rfl rfl (by omega) (fun c6 => ?_) (fun c6 => ?_)
  · refine go_aload_n (pc' := 19) h ⟨dZ_mayBegin_18, rfl⟩ rfl ?_
    refine gs_get (v := .int (iI (S.1 88 7))) (pc' := 22) h ⟨dZ_mayBegin_19, rfl⟩ fgZ_92 rfl (by decide) (rfl) ?_
    refine gi_bipush (pc' := 24) h ⟨dZ_mayBegin_22, rfl⟩ rfl ?_
    refine gi_icmp_ne (tgt := 45) (pc' := 27) h dZ_mayBegin_24 rfl rfl (by omega) (fun c24 => ?_) (fun c24 => ?_)
    · exfalso; omega
    · refine go_aload_n (pc' := 28) h ⟨dZ_mayBegin_27, rfl⟩ rfl ?_
      refine gs_get (v := .ref 90) (pc' := 31) h ⟨dZ_mayBegin_28, rfl⟩ fgZ_13 rfl (by decide) (rfl) ?_
      refine gi_iconst (pc' := 32) h ⟨dZ_mayBegin_31, rfl⟩ ?_
      refine gs_iald (pc' := 33) h ⟨dZ_mayBegin_32, rfl⟩ rfl (by have hln : (ln 90 : Int) = 8 := rfl; omega) ?_
      refine gi_iconst (pc' := 34) h ⟨dZ_mayBegin_33, rfl⟩ ?_
      refine gi_icmp_ge (tgt := 41) (pc' := 37) h dZ_mayBegin_34 rfl rfl (by omega) (fun c34 => ?_) (fun c34 => ?_)
      · refine gi_iconst (pc' := 42) h ⟨dZ_mayBegin_41, rfl⟩ ?_
        refine gi_goto (tgt := 60) h dZ_mayBegin_42 rfl ?_
        exact gs_zret h hE dZ_mayBegin_60 (by omega) (⟨by rw [if_neg (by unfold mayB; omega)], rfl⟩)
      · refine gi_iconst (pc' := 38) h ⟨dZ_mayBegin_37, rfl⟩ ?_
        refine gi_goto (tgt := 60) h dZ_mayBegin_38 rfl ?_
        exact gs_zret h hE dZ_mayBegin_60 (by omega) (⟨by rw [if_pos (by unfold mayB; omega)], rfl⟩)
  · refine go_aload_n (pc' := 10) h ⟨dZ_mayBegin_9, rfl⟩ rfl ?_
    refine gs_get (v := .int (iI (S.1 88 7))) (pc' := 13) h ⟨dZ_mayBegin_10, rfl⟩ fgZ_92 rfl (by decide) (rfl) ?_
    refine gi_bipush (pc' := 15) h ⟨dZ_mayBegin_13, rfl⟩ rfl ?_
    refine gi_icmp_ne (tgt := 61) (pc' := 18) h dZ_mayBegin_15 rfl rfl (by omega) (fun c15 => ?_) (fun c15 => ?_)
    · refine go_aload_n (pc' := 62) h ⟨dZ_mayBegin_61, rfl⟩ rfl ?_
      refine gs_get (v := .int (iI (S.1 88 10))) (pc' := 65) h ⟨dZ_mayBegin_62, rfl⟩ fgZ_113 rfl (by decide) (rfl) ?_
      refine go_aload_n (pc' := 66) h ⟨dZ_mayBegin_65, rfl⟩ rfl ?_
      refine gs_get (v := .int (iI (S.1 88 7))) (pc' := 69) h ⟨dZ_mayBegin_66, rfl⟩ fgZ_92 rfl (by decide) (rfl) ?_
      refine gi_bipush (pc' := 71) h ⟨dZ_mayBegin_69, rfl⟩ rfl ?_
      refine gi_icmp_ne (tgt := 78) (pc' := 74) h dZ_mayBegin_71 rfl rfl (by omega) (fun c71 => ?_) (fun c71 => ?_)
      · refine gi_iconst (pc' := 79) h ⟨dZ_mayBegin_78, rfl⟩ ?_
        refine gi_iand (c := S.1 88 10 / 2 % 2 * 2) (pc' := 80) h ⟨dZ_mayBegin_79, rfl⟩ ((td1 mt).2.1) ?_
        refine gi_if_ne (tgt := 87) (pc' := 83) h dZ_mayBegin_80 rfl rfl (by omega) (fun c80 => ?_) (fun c80 => ?_)
        · refine gi_iconst (pc' := 88) h ⟨dZ_mayBegin_87, rfl⟩ ?_
          exact gs_zret h hE dZ_mayBegin_88 (by omega) (⟨by rw [if_neg (by unfold mayB; omega)], rfl⟩)
        · refine gi_iconst (pc' := 84) h ⟨dZ_mayBegin_83, rfl⟩ ?_
          refine gi_goto (tgt := 88) h dZ_mayBegin_84 rfl ?_
          exact gs_zret h hE dZ_mayBegin_88 (by omega) (⟨by rw [if_pos (by unfold mayB; omega)], rfl⟩)
      · refine gi_iconst (pc' := 75) h ⟨dZ_mayBegin_74, rfl⟩ ?_
        refine gi_goto (tgt := 79) h dZ_mayBegin_75 rfl ?_
        refine gi_iand (c := S.1 88 10 % 2) (pc' := 80) h ⟨dZ_mayBegin_79, rfl⟩ ((td1 mt).1) ?_
        refine gi_if_ne (tgt := 87) (pc' := 83) h dZ_mayBegin_80 rfl rfl (by omega) (fun c80 => ?_) (fun c80 => ?_)
        · refine gi_iconst (pc' := 88) h ⟨dZ_mayBegin_87, rfl⟩ ?_
          exact gs_zret h hE dZ_mayBegin_88 (by omega) (⟨by rw [if_neg (by unfold mayB; omega)], rfl⟩)
        · refine gi_iconst (pc' := 84) h ⟨dZ_mayBegin_83, rfl⟩ ?_
          refine gi_goto (tgt := 88) h dZ_mayBegin_84 rfl ?_
          exact gs_zret h hE dZ_mayBegin_88 (by omega) (⟨by rw [if_pos (by unfold mayB; omega)], rfl⟩)
    · refine go_aload_n (pc' := 19) h ⟨dZ_mayBegin_18, rfl⟩ rfl ?_
      refine gs_get (v := .int (iI (S.1 88 7))) (pc' := 22) h ⟨dZ_mayBegin_19, rfl⟩ fgZ_92 rfl (by decide) (rfl) ?_
      refine gi_bipush (pc' := 24) h ⟨dZ_mayBegin_22, rfl⟩ rfl ?_
      refine gi_icmp_ne (tgt := 45) (pc' := 27) h dZ_mayBegin_24 rfl rfl (by omega) (fun c24 => ?_) (fun c24 => ?_)
      · refine go_aload_n (pc' := 46) h ⟨dZ_mayBegin_45, rfl⟩ rfl ?_
        refine gs_get (v := .ref 90) (pc' := 49) h ⟨dZ_mayBegin_46, rfl⟩ fgZ_13 rfl (by decide) (rfl) ?_
        refine gi_iconst (pc' := 50) h ⟨dZ_mayBegin_49, rfl⟩ ?_
        refine gs_iald (pc' := 51) h ⟨dZ_mayBegin_50, rfl⟩ rfl (by have hln : (ln 90 : Int) = 8 := rfl; omega) ?_
        refine gi_iconst (pc' := 52) h ⟨dZ_mayBegin_51, rfl⟩ ?_
        refine gi_icmp_ge (tgt := 59) (pc' := 55) h dZ_mayBegin_52 rfl rfl (by omega) (fun c52 => ?_) (fun c52 => ?_)
        · refine gi_iconst (pc' := 60) h ⟨dZ_mayBegin_59, rfl⟩ ?_
          exact gs_zret h hE dZ_mayBegin_60 (by omega) (⟨by rw [if_neg (by unfold mayB; omega)], rfl⟩)
        · refine gi_iconst (pc' := 56) h ⟨dZ_mayBegin_55, rfl⟩ ?_
          refine gi_goto (tgt := 60) h dZ_mayBegin_56 rfl ?_
          exact gs_zret h hE dZ_mayBegin_60 (by omega) (⟨by rw [if_pos (by unfold mayB; omega)], rfl⟩)
      · exfalso; omega
/-! what settles -/
def sftF (g : Int → Int) (o j : Int) : Int → Int := fun k => if 0 ≤ k ∧ k < j then g (o + k) else g k
def zrF (g : Int → Int) (j : Int) : Int → Int := fun k => if 0 ≤ k ∧ k < j then 0 else g k
def sft (S : Sg) (a : Nat) (o j : Int) : Sg := aset S a (sftF (S.1 a) o j)
def zrS (S : Sg) (a : Nat) (j : Int) : Sg := aset S a (zrF (S.1 a) j)
theorem sft_0 (S : Sg) (a : Nat) (o : Int) : sft S a o 0 = S := by
  unfold sft
  rw [show sftF (S.1 a) o 0 = S.1 a from funext fun k => if_neg (by omega), aset_self]
theorem zrS_0 (S : Sg) (a : Nat) : zrS S a 0 = S := by
  unfold zrS
  rw [show zrF (S.1 a) 0 = S.1 a from funext fun k => if_neg (by omega), aset_self]
theorem sft_ne (S : Sg) {a b : Nat} (o j : Int) (h : b ≠ a) : (sft S a o j).1 b = S.1 b := aset_ne _ _ h
theorem sft_s (S : Sg) (a : Nat) {o j : Int} (h : 0 ≤ o ∧ 0 ≤ j) : pt (sft S a o j) a j ((sft S a o j).1 a (o + j)) = sft S a o (j + 1) := by
  unfold sft
  rw [aset_eq, pt_aset, aset_eq, aset_aset]
  refine congrArg (aset S a) (funext fun k => ?_)
  unfold uF sftF
  rw [if_neg (show ¬ (0 ≤ o + j ∧ o + j < j) by omega)]
  by_cases h1 : k = j
  · rw [if_pos h1, if_pos (by omega), h1]
  · rw [if_neg h1]
    by_cases h2 : 0 ≤ k ∧ k < j
    · rw [if_pos h2, if_pos (by omega)]
    · rw [if_neg h2, if_neg (by omega)]
theorem zrS_s (S : Sg) (a : Nat) {j : Int} (h : 0 ≤ j) : pt (zrS S a j) a j 0 = zrS S a (j + 1) := by
  unfold zrS
  rw [pt_aset, aset_eq, aset_aset]
  refine congrArg (aset S a) (funext fun k => ?_)
  unfold uF zrF
  by_cases h1 : k = j
  · rw [if_pos h1, if_pos (by omega)]
  · rw [if_neg h1]
    by_cases h2 : 0 ≤ k ∧ k < j
    · rw [if_pos h2, if_pos (by omega)]
    · rw [if_neg h2, if_neg (by omega)]
def shS (S : Sg) (j : Int) : Sg := sft (sft (sft S 91 5 j) 92 5 j) 93 5 j
theorem sft_pt (S : Sg) {a b : Nat} (o j i x : Int) (h : a ≠ b) : pt (sft S b o j) a i x = sft (pt S a i x) b o j := by
  unfold sft
  rw [pt_ne _ _ _ (Ne.symm h), pt_aset, aset_ne _ _ h, pt_aset]
  unfold aset
  refine Prod.ext (funext fun q => ?_) rfl
  show uA (uA S.1 b _) a _ q = uA (uA S.1 a _) b _ q
  by_cases h1 : q = a
  · subst h1; rw [uA_eq, uA_ne _ _ h, uA_eq]
  · rw [uA_ne _ _ h1]
    by_cases h2 : q = b
    · subst h2; rw [uA_eq, uA_eq]
    · rw [uA_ne _ _ h2, uA_ne _ _ h2, uA_ne _ _ h1]
theorem shS_s (S : Sg) {j : Int} (h : 0 ≤ j) : pt (pt (pt (shS S j) 91 j ((shS S j).1 91 (5 + j))) 92 j ((shS S j).1 92 (5 + j))) 93 j ((shS S j).1 93 (5 + j)) = shS S (j + 1) := by
  unfold shS
  rw [sft_ne _ _ _ (show (91 : Nat) ≠ 93 by decide), sft_ne _ _ _ (show (91 : Nat) ≠ 92 by decide), sft_ne _ _ _ (show (92 : Nat) ≠ 93 by decide)]
  rw [sft_pt _ _ _ _ _ (show (91 : Nat) ≠ 93 by decide), sft_pt _ _ _ _ _ (show (91 : Nat) ≠ 92 by decide), sft_s S 91 (by omega), sft_pt _ _ _ _ _ (show (92 : Nat) ≠ 93 by decide)]
  have e : (sft (sft S 91 5 j) 92 5 j).1 92 (5 + j) = (sft (sft S 91 5 (j + 1)) 92 5 j).1 92 (5 + j) := by
    unfold sft
    rw [aset_eq, aset_eq, aset_ne _ _ (by decide), aset_ne _ _ (by decide)]
  rw [e, sft_s _ 92 (by omega)]
  have e2 : (sft (sft (sft S 91 5 j) 92 5 j) 93 5 j).1 93 (5 + j) = (sft (sft (sft S 91 5 (j + 1)) 92 5 (j + 1)) 93 5 j).1 93 (5 + j) := by
    unfold sft
    rw [aset_eq, aset_eq, aset_ne _ _ (by decide), aset_ne _ _ (by decide), aset_ne _ _ (by decide), aset_ne _ _ (by decide)]
  rw [e2, sft_s _ 93 (by omega)]
def zSet (S : Sg) : Sg := pt (pt (pt (pt (pt (pt (zrS (sft (shS (sft S 90 4 4) 5) 94 4 4) 95 212) 88 3 0) 88 22 0) 88 26 0) 88 19 0) 97 0 0) 97 1 0
set_option maxRecDepth 4000 in
theorem cZ_settles (X : XT) {S : Sg} : Ctr X 0 yZ_settles bZ_settles 2 none [.ref 88] (mk S) (PV (fun S' => S' = zSet S)) 0 0 := by
  refine Ctr.ofS (by decide) rfl (Nat.le_of_ble_eq_true rfl) (fun F h hF hE => ?_)
  have l4 : ∀ (n : Nat) (j : Int), 212 < j + n → 0 ≤ j → j ≤ 212 → Go F 2 (mk (zrS (sft (shS (sft S 90 4 4) 5) 94 4 4) 95 j)) 0 0 111 [.ref 88, .int (iI j)] [] := by
    intro n
    induction n with
    | zero => intro j g4 g5 g6; exfalso; omega
    | succ n ih =>
      intro j g4 g5 g6
      refine go_iload_n (pc' := 112) h ⟨dZ_settles_111, rfl⟩ rfl ?_
      refine gi_sipush (pc' := 115) h ⟨dZ_settles_112, rfl⟩ rfl ?_
      refine gi_icmp_ge (tgt := 131) (pc' := 118) h dZ_settles_115 rfl rfl (by omega) (fun c115 => ?_) (fun c115 => ?_)
      · refine go_aload_n (pc' := 132) h ⟨dZ_settles_131, rfl⟩ rfl ?_
        refine gi_iconst (pc' := 133) h ⟨dZ_settles_132, rfl⟩ ?_
        refine gd_putI (i := 3) (pc' := 136) h ⟨dZ_settles_133, rfl⟩ fpZ_76 rfl (by decide) rfl rfl ?_
        refine go_aload_n (pc' := 137) h ⟨dZ_settles_136, rfl⟩ rfl ?_
        refine gi_iconst (pc' := 138) h ⟨dZ_settles_137, rfl⟩ ?_
        refine gd_putI (i := 22) (pc' := 141) h ⟨dZ_settles_138, rfl⟩ fpZ_127 rfl (by decide) rfl rfl ?_
        refine go_aload_n (pc' := 142) h ⟨dZ_settles_141, rfl⟩ rfl ?_
        refine gi_iconst (pc' := 143) h ⟨dZ_settles_142, rfl⟩ ?_
        refine gd_putI (i := 26) (pc' := 146) h ⟨dZ_settles_143, rfl⟩ fpZ_130 rfl (by decide) rfl rfl ?_
        refine go_aload_n (pc' := 147) h ⟨dZ_settles_146, rfl⟩ rfl ?_
        refine gi_iconst (pc' := 148) h ⟨dZ_settles_147, rfl⟩ ?_
        refine gd_putI (i := 19) (pc' := 151) h ⟨dZ_settles_148, rfl⟩ fpZ_133 rfl (by decide) rfl rfl ?_
        refine go_aload_n (pc' := 152) h ⟨dZ_settles_151, rfl⟩ rfl ?_
        refine gs_get (v := .ref 97) (pc' := 155) h ⟨dZ_settles_152, rfl⟩ fgZ_34 rfl (by decide) (rfl) ?_
        refine gi_iconst (pc' := 156) h ⟨dZ_settles_155, rfl⟩ ?_
        refine gi_iconst (pc' := 157) h ⟨dZ_settles_156, rfl⟩ ?_
        refine gs_zast (pc' := 158) h ⟨dZ_settles_157, rfl⟩ rfl (by have hln : (ln 97 : Int) = 2 := rfl; omega) (by omega) ?_
        refine go_aload_n (pc' := 159) h ⟨dZ_settles_158, rfl⟩ rfl ?_
        refine gs_get (v := .ref 97) (pc' := 162) h ⟨dZ_settles_159, rfl⟩ fgZ_34 rfl (by decide) (rfl) ?_
        refine gi_iconst (pc' := 163) h ⟨dZ_settles_162, rfl⟩ ?_
        refine gi_iconst (pc' := 164) h ⟨dZ_settles_163, rfl⟩ ?_
        refine gs_zast (pc' := 165) h ⟨dZ_settles_164, rfl⟩ rfl (by have hln : (ln 97 : Int) = 2 := rfl; omega) (by omega) ?_
        exact gs_vret h hE dZ_settles_165 (by rw [show j = 212 by omega]; rfl)
      · refine go_aload_n (pc' := 119) h ⟨dZ_settles_118, rfl⟩ rfl ?_
        refine gs_get (v := .ref 95) (pc' := 122) h ⟨dZ_settles_119, rfl⟩ fgZ_28 rfl (by decide) (rfl) ?_
        refine go_iload_n (pc' := 123) h ⟨dZ_settles_122, rfl⟩ rfl ?_
        refine gi_iconst (pc' := 124) h ⟨dZ_settles_123, rfl⟩ ?_
        refine gs_iast (pc' := 125) h ⟨dZ_settles_124, rfl⟩ rfl (by have hln : (ln 95 : Int) = 212 := rfl; omega) ?_
        refine gi_iinc (L' := [.ref 88, .int (iI (j + 1))]) (pc' := 128) h ⟨dZ_settles_125, rfl⟩ rfl (by decide) rfl rfl ?_
        refine gi_goto (tgt := 111) h dZ_settles_128 rfl ?_
        have g7 := ih (j + 1) (by omega) (by omega) (by omega)
        rw [← zrS_s _ _ g5] at g7
        exact g7
  have l3 : ∀ (n : Nat) (j : Int), 4 < j + n → 0 ≤ j → j ≤ 4 → Go F 2 (mk (sft (shS (sft S 90 4 4) 5) 94 4 j)) 0 0 84 [.ref 88, .int (iI j)] [] := by
    intro n
    induction n with
    | zero => intro j g4 g5 g6; exfalso; omega
    | succ n ih =>
      intro j g4 g5 g6
      refine go_iload_n (pc' := 85) h ⟨dZ_settles_84, rfl⟩ rfl ?_
      refine gi_iconst (pc' := 86) h ⟨dZ_settles_85, rfl⟩ ?_
      refine gi_icmp_ge (tgt := 109) (pc' := 89) h dZ_settles_86 rfl rfl (by omega) (fun c86 => ?_) (fun c86 => ?_)
      · refine gi_iconst (pc' := 110) h ⟨dZ_settles_109, rfl⟩ ?_
        refine go_istore_n (L' := [.ref 88, .int (iI (0))]) (pc' := 111) h ⟨dZ_settles_110, rfl⟩ (by decide) rfl rfl ?_
        refine Go.cut [.ref 88, .int (iI 0)] 2 rfl ?_
        rw [show j = 4 by omega]
        exact (by have h0 := l4 213 0 (by omega) (by omega) (by omega); rw [zrS_0] at h0; exact h0)
      · refine go_aload_n (pc' := 90) h ⟨dZ_settles_89, rfl⟩ rfl ?_
        refine gs_get (v := .ref 94) (pc' := 93) h ⟨dZ_settles_90, rfl⟩ fgZ_25 rfl (by decide) (rfl) ?_
        refine go_iload_n (pc' := 94) h ⟨dZ_settles_93, rfl⟩ rfl ?_
        refine go_aload_n (pc' := 95) h ⟨dZ_settles_94, rfl⟩ rfl ?_
        refine gs_get (v := .ref 94) (pc' := 98) h ⟨dZ_settles_95, rfl⟩ fgZ_25 rfl (by decide) (rfl) ?_
        refine gi_iconst (pc' := 99) h ⟨dZ_settles_98, rfl⟩ ?_
        refine go_iload_n (pc' := 100) h ⟨dZ_settles_99, rfl⟩ rfl ?_
        refine gi_iadd (pc' := 101) h ⟨dZ_settles_100, rfl⟩ ?_
        refine gs_iald (pc' := 102) h ⟨dZ_settles_101, rfl⟩ rfl (by have hln : (ln 94 : Int) = 8 := rfl; omega) ?_
        refine gs_iast (pc' := 103) h ⟨dZ_settles_102, rfl⟩ rfl (by have hln : (ln 94 : Int) = 8 := rfl; omega) ?_
        refine gi_iinc (L' := [.ref 88, .int (iI (j + 1))]) (pc' := 106) h ⟨dZ_settles_103, rfl⟩ rfl (by decide) rfl rfl ?_
        refine gi_goto (tgt := 84) h dZ_settles_106 rfl ?_
        have g7 := ih (j + 1) (by omega) (by omega) (by omega)
        rw [← sft_s _ _ (by omega)] at g7
        exact g7
  have l2 : ∀ (n : Nat) (j : Int), 5 < j + n → 0 ≤ j → j ≤ 5 → Go F 2 (mk (shS (sft S 90 4 4) j)) 0 0 29 [.ref 88, .int (iI j)] [] := by
    intro n
    induction n with
    | zero => intro j g4 g5 g6; exfalso; omega
    | succ n ih =>
      intro j g4 g5 g6
      refine go_iload_n (pc' := 30) h ⟨dZ_settles_29, rfl⟩ rfl ?_
      refine gi_iconst (pc' := 31) h ⟨dZ_settles_30, rfl⟩ ?_
      refine gi_icmp_ge (tgt := 82) (pc' := 34) h dZ_settles_31 rfl rfl (by omega) (fun c31 => ?_) (fun c31 => ?_)
      · refine gi_iconst (pc' := 83) h ⟨dZ_settles_82, rfl⟩ ?_
        refine go_istore_n (L' := [.ref 88, .int (iI (0))]) (pc' := 84) h ⟨dZ_settles_83, rfl⟩ (by decide) rfl rfl ?_
        refine Go.cut [.ref 88, .int (iI 0)] 2 rfl ?_
        rw [show j = 5 by omega]
        exact (by have h0 := l3 5 0 (by omega) (by omega) (by omega); rw [sft_0] at h0; exact h0)
      · refine go_aload_n (pc' := 35) h ⟨dZ_settles_34, rfl⟩ rfl ?_
        refine gs_get (v := .ref 91) (pc' := 38) h ⟨dZ_settles_35, rfl⟩ fgZ_16 rfl (by decide) (rfl) ?_
        refine go_iload_n (pc' := 39) h ⟨dZ_settles_38, rfl⟩ rfl ?_
        refine go_aload_n (pc' := 40) h ⟨dZ_settles_39, rfl⟩ rfl ?_
        refine gs_get (v := .ref 91) (pc' := 43) h ⟨dZ_settles_40, rfl⟩ fgZ_16 rfl (by decide) (rfl) ?_
        refine gi_iconst (pc' := 44) h ⟨dZ_settles_43, rfl⟩ ?_
        refine go_iload_n (pc' := 45) h ⟨dZ_settles_44, rfl⟩ rfl ?_
        refine gi_iadd (pc' := 46) h ⟨dZ_settles_45, rfl⟩ ?_
        refine gs_iald (pc' := 47) h ⟨dZ_settles_46, rfl⟩ rfl (by have hln : (ln 91 : Int) = 10 := rfl; omega) ?_
        refine gs_iast (pc' := 48) h ⟨dZ_settles_47, rfl⟩ rfl (by have hln : (ln 91 : Int) = 10 := rfl; omega) ?_
        refine go_aload_n (pc' := 49) h ⟨dZ_settles_48, rfl⟩ rfl ?_
        refine gs_get (v := .ref 92) (pc' := 52) h ⟨dZ_settles_49, rfl⟩ fgZ_19 rfl (by decide) (rfl) ?_
        refine go_iload_n (pc' := 53) h ⟨dZ_settles_52, rfl⟩ rfl ?_
        refine go_aload_n (pc' := 54) h ⟨dZ_settles_53, rfl⟩ rfl ?_
        refine gs_get (v := .ref 92) (pc' := 57) h ⟨dZ_settles_54, rfl⟩ fgZ_19 rfl (by decide) (rfl) ?_
        refine gi_iconst (pc' := 58) h ⟨dZ_settles_57, rfl⟩ ?_
        refine go_iload_n (pc' := 59) h ⟨dZ_settles_58, rfl⟩ rfl ?_
        refine gi_iadd (pc' := 60) h ⟨dZ_settles_59, rfl⟩ ?_
        refine gs_iald (pc' := 61) h ⟨dZ_settles_60, rfl⟩ rfl (by have hln : (ln 92 : Int) = 10 := rfl; omega) ?_
        refine gs_iast (pc' := 62) h ⟨dZ_settles_61, rfl⟩ rfl (by have hln : (ln 92 : Int) = 10 := rfl; omega) ?_
        refine go_aload_n (pc' := 63) h ⟨dZ_settles_62, rfl⟩ rfl ?_
        refine gs_get (v := .ref 93) (pc' := 66) h ⟨dZ_settles_63, rfl⟩ fgZ_22 rfl (by decide) (rfl) ?_
        refine go_iload_n (pc' := 67) h ⟨dZ_settles_66, rfl⟩ rfl ?_
        refine go_aload_n (pc' := 68) h ⟨dZ_settles_67, rfl⟩ rfl ?_
        refine gs_get (v := .ref 93) (pc' := 71) h ⟨dZ_settles_68, rfl⟩ fgZ_22 rfl (by decide) (rfl) ?_
        refine gi_iconst (pc' := 72) h ⟨dZ_settles_71, rfl⟩ ?_
        refine go_iload_n (pc' := 73) h ⟨dZ_settles_72, rfl⟩ rfl ?_
        refine gi_iadd (pc' := 74) h ⟨dZ_settles_73, rfl⟩ ?_
        refine gs_iald (pc' := 75) h ⟨dZ_settles_74, rfl⟩ rfl (by have hln : (ln 93 : Int) = 10 := rfl; omega) ?_
        refine gs_iast (pc' := 76) h ⟨dZ_settles_75, rfl⟩ rfl (by have hln : (ln 93 : Int) = 10 := rfl; omega) ?_
        refine gi_iinc (L' := [.ref 88, .int (iI (j + 1))]) (pc' := 79) h ⟨dZ_settles_76, rfl⟩ rfl (by decide) rfl rfl ?_
        refine gi_goto (tgt := 29) h dZ_settles_79 rfl ?_
        have g7 := ih (j + 1) (by omega) (by omega) (by omega)
        rw [← shS_s _ g5] at g7
        exact g7
  have l1 : ∀ (n : Nat) (j : Int), 4 < j + n → 0 ≤ j → j ≤ 4 → Go F 2 (mk (sft S 90 4 j)) 0 0 2 [.ref 88, .int (iI j)] [] := by
    intro n
    induction n with
    | zero => intro j g4 g5 g6; exfalso; omega
    | succ n ih =>
      intro j g4 g5 g6
      refine go_iload_n (pc' := 3) h ⟨dZ_settles_2, rfl⟩ rfl ?_
      refine gi_iconst (pc' := 4) h ⟨dZ_settles_3, rfl⟩ ?_
      refine gi_icmp_ge (tgt := 27) (pc' := 7) h dZ_settles_4 rfl rfl (by omega) (fun c4 => ?_) (fun c4 => ?_)
      · refine gi_iconst (pc' := 28) h ⟨dZ_settles_27, rfl⟩ ?_
        refine go_istore_n (L' := [.ref 88, .int (iI (0))]) (pc' := 29) h ⟨dZ_settles_28, rfl⟩ (by decide) rfl rfl ?_
        refine Go.cut [.ref 88, .int (iI 0)] 2 rfl ?_
        rw [show j = 4 by omega]
        exact (by have h0 := l2 6 0 (by omega) (by omega) (by omega); unfold shS at h0; rw [sft_0, sft_0, sft_0] at h0; exact h0)
      · refine go_aload_n (pc' := 8) h ⟨dZ_settles_7, rfl⟩ rfl ?_
        refine gs_get (v := .ref 90) (pc' := 11) h ⟨dZ_settles_8, rfl⟩ fgZ_13 rfl (by decide) (rfl) ?_
        refine go_iload_n (pc' := 12) h ⟨dZ_settles_11, rfl⟩ rfl ?_
        refine go_aload_n (pc' := 13) h ⟨dZ_settles_12, rfl⟩ rfl ?_
        refine gs_get (v := .ref 90) (pc' := 16) h ⟨dZ_settles_13, rfl⟩ fgZ_13 rfl (by decide) (rfl) ?_
        refine gi_iconst (pc' := 17) h ⟨dZ_settles_16, rfl⟩ ?_
        refine go_iload_n (pc' := 18) h ⟨dZ_settles_17, rfl⟩ rfl ?_
        refine gi_iadd (pc' := 19) h ⟨dZ_settles_18, rfl⟩ ?_
        refine gs_iald (pc' := 20) h ⟨dZ_settles_19, rfl⟩ rfl (by have hln : (ln 90 : Int) = 8 := rfl; omega) ?_
        refine gs_iast (pc' := 21) h ⟨dZ_settles_20, rfl⟩ rfl (by have hln : (ln 90 : Int) = 8 := rfl; omega) ?_
        refine gi_iinc (L' := [.ref 88, .int (iI (j + 1))]) (pc' := 24) h ⟨dZ_settles_21, rfl⟩ rfl (by decide) rfl rfl ?_
        refine gi_goto (tgt := 2) h dZ_settles_24 rfl ?_
        have g7 := ih (j + 1) (by omega) (by omega) (by omega)
        rw [← sft_s _ _ (by omega)] at g7
        exact g7
  refine gi_iconst (pc' := 1) h ⟨dZ_settles_0, rfl⟩ ?_
  refine go_istore_n (L' := [.ref 88, .int (iI (0))]) (pc' := 2) h ⟨dZ_settles_1, rfl⟩ (by decide) rfl rfl ?_
  have h0 := l1 5 0 (by omega) (by omega) (by omega)
  rw [sft_0] at h0
  exact h0
/-! an item in the reference -/
theorem tk_hi (S : Sg) (b : Int) {j : Int} (h : j < 4 ∨ 8 < j) : (tkZ S b).2.1 88 j = S.1 88 j := by
  unfold tkZ
  split
  · rfl
  · split
    · show (pt S 88 8 (S.1 88 6)).1 88 j = S.1 88 j; rw [pt_eq]; exact uF_ne _ _ (by omega)
    · exact avS_hi S (by omega)
theorem tk_ne (S : Sg) (b : Int) {a : Nat} (h : a ≠ 88) : (tkZ S b).2.1 a = S.1 a := by
  unfold tkZ
  split
  · rfl
  · split
    · exact pt_ne _ _ _ h
    · exact avS_ne S h
theorem tk_2 (S : Sg) (b : Int) : (tkZ S b).2.2 = S.2 := by
  unfold tkZ
  split
  · rfl
  · split <;> rfl
theorem nm_hi (S : Sg) (l m : Int) {j : Int} (h : j < 4 ∨ 8 < j) : (nmZ S l m).2.1 88 j = S.1 88 j := by
  unfold nmZ
  split <;> exact tk_hi _ _ h
theorem nm_ne (S : Sg) (l m : Int) {a : Nat} (h : a ≠ 88) : (nmZ S l m).2.1 a = S.1 a := by
  unfold nmZ
  split <;> exact tk_ne _ _ h
theorem nm_2 (S : Sg) (l m : Int) : (nmZ S l m).2.2 = S.2 := by
  unfold nmZ
  split <;> exact tk_2 _ _
def zN (S : Sg) (a : Nat) (k l m : Int) : Sg := pt (nmZ S l m).2 a k (nmZ S l m).1
theorem TZ.n {S : Sg} (h : TZ S) {a : Nat} (ha : a ≠ 88 ∧ a ≠ 89) (k l m : Int) : TZ (zN S a k l m) := (h.nm l m).pt ha _ _
def zS2 (S : Sg) : Sg := zN (zN S 91 (5 + S.1 90 4) 1 20) 92 (5 + S.1 90 4) 1 20
def zS3 (S : Sg) : Sg := pt (nmZ (zS2 S) 0 6).2 93 (5 + S.1 90 4) ((nmZ (zS2 S) 0 6).1 - 3)
def zSt (S : Sg) : Sg := pt (zS3 S) 90 4 ((zS3 S).1 90 4 + 1)
def zTr (S : Sg) : Sg := pt (zN S 94 (4 + S.1 90 5) 1 99) 90 5 ((zN S 94 (4 + S.1 90 5) 1 99).1 90 5 + 1)
def zRe (S : Sg) : Sg := pt (zN S 90 6 1 9) 88 10 ((zN S 90 6 1 9).1 88 10 - (zN S 90 6 1 9).1 88 10 % 2 + 1)
def zBo (S : Sg) : Sg := pt (zN S 90 7 2 9) 88 10 ((zN S 90 7 2 9).1 88 10 - (zN S 90 7 2 9).1 88 10 / 2 % 2 * 2 + 2)
def zItem (S : Sg) (x : Int) : Sg := if x = 115 then zSt S else if x = 116 then zTr S else if x = 114 then zRe S else zBo S
set_option maxRecDepth 4000 in
theorem cZ_item (X : XT) {S : Sg} {x : Int} (hx : -1 ≤ x ∧ x ≤ 999) (hT : TZ S) (hM : MB S) (h1 : x = 115 → S.1 90 4 < 5) (h2 : x = 116 → S.1 90 5 < 4) : Ctr X 4 yZ_readsItem bZ_readsItem 3 none [.ref 88, .int (iI (x))] (mk S) (PV (fun S' => S' = zItem S x)) 0 0 := by
  refine Ctr.ofS (by decide) rfl (Nat.le_of_ble_eq_true rfl) (fun F h hF hE => ?_)
  obtain ⟨m4, m5, mt⟩ := id hM
  have k0 : (zN S 90 6 1 9).1 88 10 = S.1 88 10 := by unfold zN; rw [pt_ne _ _ _ (by decide), nm_hi _ _ _ (by omega)]
  have k1 : (zN S 90 7 2 9).1 88 10 = S.1 88 10 := by unfold zN; rw [pt_ne _ _ _ (by decide), nm_hi _ _ _ (by omega)]
  refine go_iload_n (pc' := 1) h ⟨dZ_readsItem_0, rfl⟩ rfl ?_
  refine gi_bipush (pc' := 3) h ⟨dZ_readsItem_1, rfl⟩ rfl ?_
  refine gi_icmp_ne (tgt := 69) (pc' := 6) h dZ_readsItem_3 rfl rfl (by omega) (fun c3 => ?_) (fun c3 => ?_)
  · refine go_iload_n (pc' := 70) h ⟨dZ_readsItem_69, rfl⟩ rfl ?_
    refine gi_bipush (pc' := 72) h ⟨dZ_readsItem_70, rfl⟩ rfl ?_
    refine gi_icmp_ne (tgt := 108) (pc' := 75) h dZ_readsItem_72 rfl rfl (by omega) (fun c72 => ?_) (fun c72 => ?_)
    · refine go_aload_n (pc' := 109) h ⟨dZ_readsItem_108, rfl⟩ rfl ?_
      refine gs_get (v := .ref 90) (pc' := 112) h ⟨dZ_readsItem_109, rfl⟩ fgZ_13 rfl (by decide) (rfl) ?_
      refine gi_iconst (pc' := 113) h ⟨dZ_readsItem_112, rfl⟩ ?_
      refine go_iload_n (pc' := 114) h ⟨dZ_readsItem_113, rfl⟩ rfl ?_
      refine gi_bipush (pc' := 116) h ⟨dZ_readsItem_114, rfl⟩ rfl ?_
      refine gi_icmp_ne (tgt := 123) (pc' := 119) h dZ_readsItem_116 rfl rfl (by omega) (fun c116 => ?_) (fun c116 => ?_)
      · refine gi_iconst (pc' := 124) h ⟨dZ_readsItem_123, rfl⟩ ?_
        refine gi_iadd (pc' := 125) h ⟨dZ_readsItem_124, rfl⟩ ?_
        refine go_aload_n (pc' := 126) h ⟨dZ_readsItem_125, rfl⟩ rfl ?_
        refine go_iload_n (pc' := 127) h ⟨dZ_readsItem_126, rfl⟩ rfl ?_
        refine gi_bipush (pc' := 129) h ⟨dZ_readsItem_127, rfl⟩ rfl ?_
        refine gi_icmp_ne (tgt := 136) (pc' := 132) h dZ_readsItem_129 rfl rfl (by omega) (fun c129 => ?_) (fun c129 => ?_)
        · refine gi_iconst (pc' := 137) h ⟨dZ_readsItem_136, rfl⟩ ?_
          refine gi_bipush (pc' := 139) h ⟨dZ_readsItem_137, rfl⟩ rfl ?_
          refine gd_callVI (e := (nmZ S 2 9).1) (E := (nmZ S 2 9).2) (pc' := 142) (As := [.int (iI (2)), .int (iI (9))]) (st := [.int (iI (4 + 3)), .ref 90]) h hF ⟨dZ_readsItem_139, rfl⟩ kvZ_116 (cZ_number X (S := S) (by omega) hT) (by omega) rfl (by decide) ⟨_, _, rfl⟩ rfl (Nat.le_of_ble_eq_true rfl) rfl ?_
          refine gs_iast (pc' := 143) h ⟨dZ_readsItem_142, rfl⟩ rfl (by have hln : (ln 90 : Int) = 8 := rfl; omega) ?_
          have tb := td1 (a := (zN S 90 7 2 9).1 88 10) (by omega)
          refine go_aload_n (pc' := 144) h ⟨dZ_readsItem_143, rfl⟩ rfl ?_
          refine go_dup (pc' := 145) h ⟨dZ_readsItem_144, rfl⟩ rfl ?_
          refine gs_get (v := .int (iI ((zN S 90 7 2 9).1 88 10))) (pc' := 148) h ⟨dZ_readsItem_145, rfl⟩ fgZ_113 rfl (by decide) (rfl) ?_
          refine go_iload_n (pc' := 149) h ⟨dZ_readsItem_148, rfl⟩ rfl ?_
          refine gi_bipush (pc' := 151) h ⟨dZ_readsItem_149, rfl⟩ rfl ?_
          refine gi_icmp_ne (tgt := 158) (pc' := 154) h dZ_readsItem_151 rfl rfl (by omega) (fun c151 => ?_) (fun c151 => ?_)
          · refine gi_iconst (pc' := 159) h ⟨dZ_readsItem_158, rfl⟩ ?_
            refine gi_ior (c := ((zN S 90 7 2 9).1 88 10) - ((zN S 90 7 2 9).1 88 10) / 2 % 2 * 2 + 2) (pc' := 160) h ⟨dZ_readsItem_159, rfl⟩ (tb.2.2.2) ?_
            refine gd_putI (i := 10) (pc' := 163) h ⟨dZ_readsItem_160, rfl⟩ fpZ_113 rfl (by decide) rfl rfl ?_
            exact gs_vret h hE dZ_readsItem_163 (by unfold zItem; rw [if_neg (by omega), if_neg (by omega), if_neg (by omega)]; rfl)
          · exfalso; omega
        · exfalso; omega
      · refine gi_iconst (pc' := 120) h ⟨dZ_readsItem_119, rfl⟩ ?_
        refine gi_goto (tgt := 124) h dZ_readsItem_120 rfl ?_
        refine gi_iadd (pc' := 125) h ⟨dZ_readsItem_124, rfl⟩ ?_
        refine go_aload_n (pc' := 126) h ⟨dZ_readsItem_125, rfl⟩ rfl ?_
        refine go_iload_n (pc' := 127) h ⟨dZ_readsItem_126, rfl⟩ rfl ?_
        refine gi_bipush (pc' := 129) h ⟨dZ_readsItem_127, rfl⟩ rfl ?_
        refine gi_icmp_ne (tgt := 136) (pc' := 132) h dZ_readsItem_129 rfl rfl (by omega) (fun c129 => ?_) (fun c129 => ?_)
        · exfalso; omega
        · refine gi_iconst (pc' := 133) h ⟨dZ_readsItem_132, rfl⟩ ?_
          refine gi_goto (tgt := 137) h dZ_readsItem_133 rfl ?_
          refine gi_bipush (pc' := 139) h ⟨dZ_readsItem_137, rfl⟩ rfl ?_
          refine gd_callVI (e := (nmZ S 1 9).1) (E := (nmZ S 1 9).2) (pc' := 142) (As := [.int (iI (1)), .int (iI (9))]) (st := [.int (iI (4 + 2)), .ref 90]) h hF ⟨dZ_readsItem_139, rfl⟩ kvZ_116 (cZ_number X (S := S) (by omega) hT) (by omega) rfl (by decide) ⟨_, _, rfl⟩ rfl (Nat.le_of_ble_eq_true rfl) rfl ?_
          refine gs_iast (pc' := 143) h ⟨dZ_readsItem_142, rfl⟩ rfl (by have hln : (ln 90 : Int) = 8 := rfl; omega) ?_
          have tb := td1 (a := (zN S 90 6 1 9).1 88 10) (by omega)
          refine go_aload_n (pc' := 144) h ⟨dZ_readsItem_143, rfl⟩ rfl ?_
          refine go_dup (pc' := 145) h ⟨dZ_readsItem_144, rfl⟩ rfl ?_
          refine gs_get (v := .int (iI ((zN S 90 6 1 9).1 88 10))) (pc' := 148) h ⟨dZ_readsItem_145, rfl⟩ fgZ_113 rfl (by decide) (rfl) ?_
          refine go_iload_n (pc' := 149) h ⟨dZ_readsItem_148, rfl⟩ rfl ?_
          refine gi_bipush (pc' := 151) h ⟨dZ_readsItem_149, rfl⟩ rfl ?_
          refine gi_icmp_ne (tgt := 158) (pc' := 154) h dZ_readsItem_151 rfl rfl (by omega) (fun c151 => ?_) (fun c151 => ?_)
          · exfalso; omega
          · refine gi_iconst (pc' := 155) h ⟨dZ_readsItem_154, rfl⟩ ?_
            refine gi_goto (tgt := 159) h dZ_readsItem_155 rfl ?_
            refine gi_ior (c := ((zN S 90 6 1 9).1 88 10) - ((zN S 90 6 1 9).1 88 10) % 2 + 1) (pc' := 160) h ⟨dZ_readsItem_159, rfl⟩ (tb.2.2.1) ?_
            refine gd_putI (i := 10) (pc' := 163) h ⟨dZ_readsItem_160, rfl⟩ fpZ_113 rfl (by decide) rfl rfl ?_
            exact gs_vret h hE dZ_readsItem_163 (by unfold zItem; rw [if_neg (by omega), if_neg (by omega), if_pos (by omega)]; rfl)
    · refine go_aload_n (pc' := 76) h ⟨dZ_readsItem_75, rfl⟩ rfl ?_
      refine gs_get (v := .ref 94) (pc' := 79) h ⟨dZ_readsItem_76, rfl⟩ fgZ_25 rfl (by decide) (rfl) ?_
      refine gi_iconst (pc' := 80) h ⟨dZ_readsItem_79, rfl⟩ ?_
      refine go_aload_n (pc' := 81) h ⟨dZ_readsItem_80, rfl⟩ rfl ?_
      refine gs_get (v := .ref 90) (pc' := 84) h ⟨dZ_readsItem_81, rfl⟩ fgZ_13 rfl (by decide) (rfl) ?_
      refine gi_iconst (pc' := 85) h ⟨dZ_readsItem_84, rfl⟩ ?_
      refine gs_iald (pc' := 86) h ⟨dZ_readsItem_85, rfl⟩ rfl (by have hln : (ln 90 : Int) = 8 := rfl; omega) ?_
      refine gi_iadd (pc' := 87) h ⟨dZ_readsItem_86, rfl⟩ ?_
      refine go_aload_n (pc' := 88) h ⟨dZ_readsItem_87, rfl⟩ rfl ?_
      refine gi_iconst (pc' := 89) h ⟨dZ_readsItem_88, rfl⟩ ?_
      refine gi_bipush (pc' := 91) h ⟨dZ_readsItem_89, rfl⟩ rfl ?_
      refine gd_callVI (e := (nmZ S 1 99).1) (E := (nmZ S 1 99).2) (pc' := 94) (As := [.int (iI (1)), .int (iI (99))]) (st := [.int (iI (4 + (S.1 90 5))), .ref 94]) h hF ⟨dZ_readsItem_91, rfl⟩ kvZ_116 (cZ_number X (S := S) (by omega) hT) (by omega) rfl (by decide) ⟨_, _, rfl⟩ rfl (Nat.le_of_ble_eq_true rfl) rfl ?_
      refine gs_iast (pc' := 95) h ⟨dZ_readsItem_94, rfl⟩ rfl (by have hln : (ln 94 : Int) = 8 := rfl; omega) ?_
      refine go_aload_n (pc' := 96) h ⟨dZ_readsItem_95, rfl⟩ rfl ?_
      refine gs_get (v := .ref 90) (pc' := 99) h ⟨dZ_readsItem_96, rfl⟩ fgZ_13 rfl (by decide) (rfl) ?_
      refine gi_iconst (pc' := 100) h ⟨dZ_readsItem_99, rfl⟩ ?_
      refine go_dup2 (pc' := 101) h ⟨dZ_readsItem_100, rfl⟩ rfl rfl ?_
      refine gs_iald (pc' := 102) h ⟨dZ_readsItem_101, rfl⟩ rfl (by have hln : (ln 90 : Int) = 8 := rfl; omega) ?_
      refine gi_iconst (pc' := 103) h ⟨dZ_readsItem_102, rfl⟩ ?_
      refine gi_iadd (pc' := 104) h ⟨dZ_readsItem_103, rfl⟩ ?_
      refine gs_iast (pc' := 105) h ⟨dZ_readsItem_104, rfl⟩ rfl (by have hln : (ln 90 : Int) = 8 := rfl; omega) ?_
      refine gi_goto (tgt := 163) h dZ_readsItem_105 rfl ?_
      exact gs_vret h hE dZ_readsItem_163 (by unfold zItem; rw [if_neg (by omega), if_pos (by omega)]; rfl)
  · refine gi_iconst (pc' := 7) h ⟨dZ_readsItem_6, rfl⟩ ?_
    refine go_aload_n (pc' := 8) h ⟨dZ_readsItem_7, rfl⟩ rfl ?_
    refine gs_get (v := .ref 90) (pc' := 11) h ⟨dZ_readsItem_8, rfl⟩ fgZ_13 rfl (by decide) (rfl) ?_
    refine gi_iconst (pc' := 12) h ⟨dZ_readsItem_11, rfl⟩ ?_
    refine gs_iald (pc' := 13) h ⟨dZ_readsItem_12, rfl⟩ rfl (by have hln : (ln 90 : Int) = 8 := rfl; omega) ?_
    refine gi_iadd (pc' := 14) h ⟨dZ_readsItem_13, rfl⟩ ?_
    refine go_istore_n (L' := [.ref 88, .int (iI (x)), .int (iI (5 + (S.1 90 4)))]) (pc' := 15) h ⟨dZ_readsItem_14, rfl⟩ (by decide) rfl rfl ?_
    refine go_aload_n (pc' := 16) h ⟨dZ_readsItem_15, rfl⟩ rfl ?_
    refine gs_get (v := .ref 91) (pc' := 19) h ⟨dZ_readsItem_16, rfl⟩ fgZ_16 rfl (by decide) (rfl) ?_
    refine go_iload_n (pc' := 20) h ⟨dZ_readsItem_19, rfl⟩ rfl ?_
    refine go_aload_n (pc' := 21) h ⟨dZ_readsItem_20, rfl⟩ rfl ?_
    refine gi_iconst (pc' := 22) h ⟨dZ_readsItem_21, rfl⟩ ?_
    refine gi_bipush (pc' := 24) h ⟨dZ_readsItem_22, rfl⟩ rfl ?_
    refine gd_callVI (e := (nmZ S 1 20).1) (E := (nmZ S 1 20).2) (pc' := 27) (As := [.int (iI (1)), .int (iI (20))]) (st := [.int (iI (5 + (S.1 90 4))), .ref 91]) h hF ⟨dZ_readsItem_24, rfl⟩ kvZ_116 (cZ_number X (S := S) (by omega) hT) (by omega) rfl (by decide) ⟨_, _, rfl⟩ rfl (Nat.le_of_ble_eq_true rfl) rfl ?_
    refine gs_iast (pc' := 28) h ⟨dZ_readsItem_27, rfl⟩ rfl (by have hln : (ln 91 : Int) = 10 := rfl; omega) ?_
    refine go_aload_n (pc' := 29) h ⟨dZ_readsItem_28, rfl⟩ rfl ?_
    refine gs_get (v := .ref 92) (pc' := 32) h ⟨dZ_readsItem_29, rfl⟩ fgZ_19 rfl (by decide) (rfl) ?_
    refine go_iload_n (pc' := 33) h ⟨dZ_readsItem_32, rfl⟩ rfl ?_
    refine go_aload_n (pc' := 34) h ⟨dZ_readsItem_33, rfl⟩ rfl ?_
    refine gi_iconst (pc' := 35) h ⟨dZ_readsItem_34, rfl⟩ ?_
    refine gi_bipush (pc' := 37) h ⟨dZ_readsItem_35, rfl⟩ rfl ?_
    refine gd_callVI (e := (nmZ (zN S 91 (5 + S.1 90 4) 1 20) 1 20).1) (E := (nmZ (zN S 91 (5 + S.1 90 4) 1 20) 1 20).2) (pc' := 40) (As := [.int (iI (1)), .int (iI (20))]) (st := [.int (iI (5 + (S.1 90 4))), .ref 92]) h hF ⟨dZ_readsItem_37, rfl⟩ kvZ_116 (cZ_number X (S := zN S 91 (5 + S.1 90 4) 1 20) (by omega) (hT.n (by decide) _ _ _)) (by omega) rfl (by decide) ⟨_, _, rfl⟩ rfl (Nat.le_of_ble_eq_true rfl) rfl ?_
    refine gs_iast (pc' := 41) h ⟨dZ_readsItem_40, rfl⟩ rfl (by have hln : (ln 92 : Int) = 10 := rfl; omega) ?_
    refine go_aload_n (pc' := 42) h ⟨dZ_readsItem_41, rfl⟩ rfl ?_
    refine gs_get (v := .ref 93) (pc' := 45) h ⟨dZ_readsItem_42, rfl⟩ fgZ_22 rfl (by decide) (rfl) ?_
    refine go_iload_n (pc' := 46) h ⟨dZ_readsItem_45, rfl⟩ rfl ?_
    refine go_aload_n (pc' := 47) h ⟨dZ_readsItem_46, rfl⟩ rfl ?_
    refine gi_iconst (pc' := 48) h ⟨dZ_readsItem_47, rfl⟩ ?_
    refine gi_bipush (pc' := 50) h ⟨dZ_readsItem_48, rfl⟩ rfl ?_
    refine gd_callVI (e := (nmZ (zS2 S) 0 6).1) (E := (nmZ (zS2 S) 0 6).2) (pc' := 53) (As := [.int (iI (0)), .int (iI (6))]) (st := [.int (iI (5 + (S.1 90 4))), .ref 93]) h hF ⟨dZ_readsItem_50, rfl⟩ kvZ_116 (cZ_number X (S := zS2 S) (by omega) ((hT.n (by decide) _ _ _).n (by decide) _ _ _)) (by omega) rfl (by decide) ⟨_, _, rfl⟩ rfl (Nat.le_of_ble_eq_true rfl) rfl ?_
    refine gi_iconst (pc' := 54) h ⟨dZ_readsItem_53, rfl⟩ ?_
    refine gi_isub (pc' := 55) h ⟨dZ_readsItem_54, rfl⟩ ?_
    refine gs_iast (pc' := 56) h ⟨dZ_readsItem_55, rfl⟩ rfl (by have hln : (ln 93 : Int) = 10 := rfl; omega) ?_
    refine go_aload_n (pc' := 57) h ⟨dZ_readsItem_56, rfl⟩ rfl ?_
    refine gs_get (v := .ref 90) (pc' := 60) h ⟨dZ_readsItem_57, rfl⟩ fgZ_13 rfl (by decide) (rfl) ?_
    refine gi_iconst (pc' := 61) h ⟨dZ_readsItem_60, rfl⟩ ?_
    refine go_dup2 (pc' := 62) h ⟨dZ_readsItem_61, rfl⟩ rfl rfl ?_
    refine gs_iald (pc' := 63) h ⟨dZ_readsItem_62, rfl⟩ rfl (by have hln : (ln 90 : Int) = 8 := rfl; omega) ?_
    refine gi_iconst (pc' := 64) h ⟨dZ_readsItem_63, rfl⟩ ?_
    refine gi_iadd (pc' := 65) h ⟨dZ_readsItem_64, rfl⟩ ?_
    refine gs_iast (pc' := 66) h ⟨dZ_readsItem_65, rfl⟩ rfl (by have hln : (ln 90 : Int) = 8 := rfl; omega) ?_
    refine gi_goto (tgt := 163) h dZ_readsItem_66 rfl ?_
    exact gs_vret h hE dZ_readsItem_163 (by unfold zItem; rw [if_pos (by omega)]; rfl)
/-! items one behind another in the reference -/
def PN (S : Sg) : Prop := S.1 88 6 ≤ S.1 88 4 ∧ (S.1 88 5 = 0 ∨ S.1 88 6 < S.1 88 4)
def RZ (S : Sg) : Prop := TZ S ∧ PN S
theorem RZ.av {S : Sg} (h : TZ S) : RZ (avS S) ∧ S.1 88 4 ≤ (avS S).1 88 6 := by
  have h1 := h.av
  have h3 := h.2.2.1
  refine ⟨⟨h1.1, ?_, h1.2.2⟩, h1.2.1⟩
  rw [avS_4, avS_6]
  have e1 := lE_bd (S.1 89) h3.2
  omega
theorem RZ.tk {S : Sg} (h : RZ S) (b : Int) : RZ (tkZ S b).2 ∧ S.1 88 6 ≤ (tkZ S b).2.1 88 6 := by
  unfold tkZ
  split
  · exact ⟨h, Int.le_refl _⟩
  · split
    · exact ⟨⟨h.1.ft, h.2⟩, Int.le_refl _⟩
    · have h1 := RZ.av h.1
      exact ⟨h1.1, Int.le_trans h.2.1 h1.2⟩
theorem RZ.nm {S : Sg} (h : RZ S) (l m : Int) : RZ (nmZ S l m).2 ∧ S.1 88 6 ≤ (nmZ S l m).2.1 88 6 := by
  unfold nmZ
  split
  · exact h.tk 1
  · exact h.tk 0
theorem RZ.q {S : Sg} (h : RZ S) {a : Nat} (ha : a ≠ 88 ∧ a ≠ 89) (i x : Int) : RZ (pt S a i x) ∧ (pt S a i x).1 88 6 = S.1 88 6 := by
  refine ⟨⟨h.1.pt ha i x, ?_⟩, by rw [pt_ne _ _ _ (Ne.symm ha.1)]⟩
  unfold PN
  rw [pt_ne _ _ _ (Ne.symm ha.1)]
  exact h.2
theorem RZ.td {S : Sg} (h : RZ S) (x : Int) : RZ (pt S 88 10 x) := h
theorem RZ.n {S : Sg} (h : RZ S) {a : Nat} (ha : a ≠ 88 ∧ a ≠ 89) (k l m : Int) : RZ (zN S a k l m) ∧ S.1 88 6 ≤ (zN S a k l m).1 88 6 := by
  have h1 := h.nm l m
  have h2 := h1.1.q ha k (nmZ S l m).1
  exact ⟨h2.1, by unfold zN; rw [h2.2]; exact h1.2⟩
theorem RZ.item {S : Sg} (h : RZ S) (x : Int) : RZ (zItem S x) ∧ S.1 88 6 ≤ (zItem S x).1 88 6 := by
  unfold zItem
  split
  · have a1 := h.n (a := 91) (by decide) (5 + S.1 90 4) 1 20
    have a2 := a1.1.n (a := 92) (by decide) (5 + S.1 90 4) 1 20
    have a3 := RZ.nm (S := zS2 S) a2.1 0 6
    have a4 := a3.1.q (a := 93) (by decide) (5 + S.1 90 4) ((nmZ (zS2 S) 0 6).1 - 3)
    have a5 := RZ.q (S := zS3 S) a4.1 (a := 90) (by decide) 4 ((zS3 S).1 90 4 + 1)
    exact ⟨a5.1, by show _ ≤ (pt (zS3 S) 90 4 ((zS3 S).1 90 4 + 1)).1 88 6; rw [a5.2]; show _ ≤ (pt (nmZ (zS2 S) 0 6).2 93 (5 + S.1 90 4) ((nmZ (zS2 S) 0 6).1 - 3)).1 88 6; rw [a4.2]; exact Int.le_trans a1.2 (Int.le_trans a2.2 a3.2)⟩
  · split
    · have a1 := h.n (a := 94) (by decide) (4 + S.1 90 5) 1 99
      have a2 := a1.1.q (a := 90) (by decide) 5 ((zN S 94 (4 + S.1 90 5) 1 99).1 90 5 + 1)
      exact ⟨a2.1, by unfold zTr; rw [a2.2]; exact a1.2⟩
    · split
      · have a1 := h.n (a := 90) (by decide) 6 1 9
        exact ⟨a1.1.td _, a1.2⟩
      · have a1 := h.n (a := 90) (by decide) 7 2 9
        exact ⟨a1.1.td _, a1.2⟩
theorem zN_ne (S : Sg) {a b : Nat} (k l m : Int) (h1 : b ≠ 88) (h2 : b ≠ a) : (zN S a k l m).1 b = S.1 b := by
  unfold zN
  rw [pt_ne _ _ _ h2, nm_ne _ _ _ h1]
theorem zN_hi (S : Sg) {a : Nat} (ha : a ≠ 88) (k l m : Int) {j : Int} (h : j < 4 ∨ 8 < j) : (zN S a k l m).1 88 j = S.1 88 j := by
  unfold zN
  rw [pt_ne _ _ _ (Ne.symm ha), nm_hi _ _ _ h]
theorem zS3_90 (S : Sg) : (zS3 S).1 90 = S.1 90 := by
  unfold zS3 zS2
  rw [pt_ne _ _ _ (by decide), nm_ne _ _ _ (by decide), zN_ne _ _ _ _ (by decide) (by decide), zN_ne _ _ _ _ (by decide) (by decide)]
theorem zS3_hi (S : Sg) {j : Int} (h : j < 4 ∨ 8 < j) : (zS3 S).1 88 j = S.1 88 j := by
  unfold zS3 zS2
  rw [pt_ne _ _ _ (by decide), nm_hi _ _ _ h, zN_hi _ (by decide) _ _ _ h, zN_hi _ (by decide) _ _ _ h]
theorem MB.item {S : Sg} (h : MB S) {x : Int} (h1 : x = 115 → S.1 90 4 < 5) (h2 : x = 116 → S.1 90 5 < 4) : MB (zItem S x) := by
  obtain ⟨m4, m5, mt⟩ := h
  unfold zItem
  split
  · rename_i hx
    have h3 := h1 hx
    unfold MB zSt
    rw [pt_eq, pt_ne _ _ _ (by decide), uF_eq, uF_ne _ _ (by decide), zS3_90, zS3_hi _ (by omega)]
    omega
  · split
    · rename_i hx
      have h3 := h2 hx
      unfold MB zTr
      rw [pt_eq, pt_ne _ _ _ (by decide), uF_eq, uF_ne _ _ (by decide), zN_ne _ _ _ _ (by decide) (by decide), zN_hi _ (by decide) _ _ _ (by omega)]
      omega
    · split
      · unfold MB zRe
        rw [pt_eq, pt_ne _ _ _ (by decide), uF_eq, zN_hi _ (by decide) _ _ _ (by omega)]
        unfold zN
        rw [pt_eq, uF_ne _ _ (by decide), uF_ne _ _ (by decide), nm_ne _ _ _ (by decide)]
        omega
      · unfold MB zBo
        rw [pt_eq, pt_ne _ _ _ (by decide), uF_eq, zN_hi _ (by decide) _ _ _ (by omega)]
        unfold zN
        rw [pt_eq, uF_ne _ _ (by decide), uF_ne _ _ (by decide), nm_ne _ _ _ (by decide)]
        omega
theorem MB.tk {S : Sg} (h : MB S) (b : Int) : MB (tkZ S b).2 := by
  unfold MB
  rw [tk_ne _ _ (by decide), tk_hi _ _ (by omega)]
  exact h
def zK1 (S : Sg) : Int × Sg := if S.1 88 5 = 1 ∧ mayB S then tkZ S 1 else tkZ S 0
def zK2 (S : Sg) : Sg := if (zK1 S).2.1 88 8 < 0 then zItem (zK1 S).2 (zK1 S).1 else (zK1 S).2
def zK3 (S : Sg) : Sg := if (zK2 S).1 88 5 = 3 then (tkZ (zK2 S) 1).2 else (tkZ (zK2 S) 0).2
def zLoop : Nat → Int → Sg → Int × Sg
  | 0, it, S => (it, S)
  | n + 1, it, S => if 0 ≤ S.1 88 8 ∨ S.1 88 5 = 0 then (it, S) else zLoop n (it + 1) (zK3 S)
theorem zK_all {S : Sg} (h : RZ S) (hm : MB S) (hf : S.1 88 8 < 0) (ht : S.1 88 5 ≠ 0) : (RZ (zK1 S).2 ∧ MB (zK1 S).2 ∧ (-1 ≤ (zK1 S).1 ∧ (zK1 S).1 ≤ 999)) ∧ ((zK1 S).2.1 88 8 < 0 → ((zK1 S).1 = 115 → (zK1 S).2.1 90 4 < 5) ∧ ((zK1 S).1 = 116 → (zK1 S).2.1 90 5 < 4)) ∧ (RZ (zK2 S) ∧ MB (zK2 S)) ∧ (RZ (zK3 S) ∧ MB (zK3 S)) ∧ (0 ≤ (zK3 S).1 88 8 ∨ S.1 88 6 < (zK3 S).1 88 6) := by
  have t1 := h.1.2.2.2.2.1
  have t7 := h.1.2.2.2.2.2.2
  have A : (RZ (zK1 S).2 ∧ MB (zK1 S).2 ∧ (-1 ≤ (zK1 S).1 ∧ (zK1 S).1 ≤ 999)) ∧ ((zK1 S).2.1 88 8 < 0 → (((zK1 S).1 = 115 → (zK1 S).2.1 90 4 < 5) ∧ ((zK1 S).1 = 116 → (zK1 S).2.1 90 5 < 4)) ∧ S.1 88 6 < (zK1 S).2.1 88 6) := by
    unfold zK1
    by_cases hc : S.1 88 5 = 1 ∧ mayB S
    · rw [if_pos hc]
      have h2 := RZ.av h.1
      have h3 : S.1 88 6 < S.1 88 4 := by have := h.2.2; omega
      refine ⟨⟨(h.tk 1).1, hm.tk 1, ?_⟩, fun _ => ?_⟩
      · unfold tkZ
        rw [if_neg (by omega), if_neg (by decide)]
        exact t7
      · rw [tk_ne _ _ (by decide)]
        unfold tkZ
        rw [if_neg (by omega), if_neg (by decide)]
        have hb := hc.2
        refine ⟨⟨fun e => ?_, fun e => ?_⟩, Int.lt_of_lt_of_le h3 h2.2⟩
        · have e : S.1 88 7 = 115 := e; omega
        · have e : S.1 88 7 = 116 := e; omega
    · rw [if_neg hc]
      refine ⟨⟨(h.tk 0).1, hm.tk 0, ?_⟩, fun hh => ?_⟩
      · unfold tkZ
        rw [if_neg (by omega), if_pos rfl]
        show (-1 : Int) ≤ 0 ∧ (0 : Int) ≤ 999
        omega
      · exfalso
        revert hh
        unfold tkZ
        rw [if_neg (by omega), if_pos rfl]
        show ¬ S.1 88 6 < 0
        omega
  have B : (RZ (zK2 S) ∧ MB (zK2 S)) ∧ (zK1 S).2.1 88 6 ≤ (zK2 S).1 88 6 ∧ (0 ≤ (zK1 S).2.1 88 8 → zK2 S = (zK1 S).2) := by
    unfold zK2
    by_cases hc : (zK1 S).2.1 88 8 < 0
    · rw [if_pos hc]
      have h4 := A.1.1.item (zK1 S).1
      exact ⟨⟨h4.1, A.1.2.1.item (A.2 hc).1.1 (A.2 hc).1.2⟩, h4.2, fun e => absurd hc (by omega)⟩
    · rw [if_neg hc]
      exact ⟨⟨A.1.1, A.1.2.1⟩, Int.le_refl _, fun _ => rfl⟩
  have C : (RZ (zK3 S) ∧ MB (zK3 S)) ∧ (zK2 S).1 88 6 ≤ (zK3 S).1 88 6 ∧ (0 ≤ (zK2 S).1 88 8 → zK3 S = zK2 S) := by
    unfold zK3
    split
    · have h5 := B.1.1.tk 1
      exact ⟨⟨h5.1, B.1.2.tk 1⟩, h5.2, fun e => by unfold tkZ; rw [if_pos e]⟩
    · have h5 := B.1.1.tk 0
      exact ⟨⟨h5.1, B.1.2.tk 0⟩, h5.2, fun e => by unfold tkZ; rw [if_pos e]⟩
  refine ⟨A.1, fun e => (A.2 e).1, B.1, C.1, ?_⟩
  by_cases hc : (zK1 S).2.1 88 8 < 0
  · right
    have := (A.2 hc).2
    omega
  · left
    have e1 := B.2.2 (by omega)
    rw [C.2.2 (by rw [e1]; omega), e1]
    omega
def zRd (S : Sg) : Int × Sg := zLoop 122 0 (avS (zBeg (pt (pt S 88 8 (-1)) 88 4 0)))
def zLadder (S : Sg) : Int × Sg := if 0 ≤ (zRd S).2.1 88 8 then (-10 - (zRd S).2.1 88 8, (zRd S).2) else ((zRd S).1, zSet (zRd S).2)
