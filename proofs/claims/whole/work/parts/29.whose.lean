/-! the reference: whose things are -/
def owD (row i : Int) : Int := row / 2 ^ (2 * i).toNat % 4
theorem owD_bd (row i : Int) : 0 ≤ owD row i ∧ owD row i ≤ 3 := by unfold owD; omega
def orV (m t : Int) : Int := if bitI m t = 0 then m + 2 ^ t.toNat else m
theorem or_2 : ∀ a : Nat, a < 16 → ∀ k : Nat, k < 4 → iI (a : Int) ||| iI (2 ^ k) = iI (orV (a : Int) (k : Int)) ∧ 0 ≤ orV (a : Int) (k : Int) ∧ orV (a : Int) (k : Int) ≤ 15 := by decide +kernel
theorem or2 {a k : Int} (ha : 0 ≤ a ∧ a ≤ 15) (hk : 0 ≤ k ∧ k ≤ 3) : iI a ||| iI (2 ^ k.toNat) = iI (orV a k) ∧ 0 ≤ orV a k ∧ orV a k ≤ 15 := by
  have := or_2 a.toNat (by omega) k.toNat (by omega)
  rwa [Int.toNat_of_nonneg ha.1, Int.toNat_of_nonneg hk.1] at this
def coF (S : Sg) (row : Int) : Nat → Int × Int
  | 0 => (1, 0)
  | i + 1 => (if (coF S row i).1 = 1 ∧ owD row i < S.1 90 1 ∧ bitI (coF S row i).2 (owD row i) = 0 ∧ S.1 95 (6 + i) ≤ S.1 94 (owD row i) then 1 else 0, orV (coF S row i).2 (owD row i))
theorem co01 (S : Sg) (row : Int) : ∀ n : Nat, ((coF S row n).1 = 0 ∨ (coF S row n).1 = 1) ∧ 0 ≤ (coF S row n).2 ∧ (coF S row n).2 ≤ 15
  | 0 => by show ((1 : Int) = 0 ∨ (1 : Int) = 1) ∧ (0 : Int) ≤ 0 ∧ (0 : Int) ≤ 15; omega
  | n + 1 => by
    have ih := co01 S row n
    rw [coF]
    refine ⟨?_, (or2 ih.2 (owD_bd row n)).2⟩
    show (if _ then (1 : Int) else 0) = 0 ∨ (if _ then (1 : Int) else 0) = 1
    split <;> omega
def coZ (S : Sg) (row : Int) : Int := (coF S row (S.1 95 5).toNat).1
set_option maxRecDepth 4000 in
theorem cZ_owner (X : XT) {S : Sg} {a i : Int} (ha : 0 ≤ a ∧ a ≤ 5000) (hi : 0 ≤ i ∧ i ≤ 6) : Ctr X 0 yZ_ownerOf bZ_ownerOf 2 (some .int) [.int (iI (a)), .int (iI (i))] (mk S) (PI (fun r S' => r = owD a i ∧ S' = S)) 0 0 := by
  refine Ctr.ofS (by decide) rfl (Nat.le_of_ble_eq_true rfl) (fun F h hF hE => ?_)
  refine go_iload_n (pc' := 1) h ⟨dZ_ownerOf_0, rfl⟩ rfl ?_
  refine gi_iconst (pc' := 2) h ⟨dZ_ownerOf_1, rfl⟩ ?_
  refine go_iload_n (pc' := 3) h ⟨dZ_ownerOf_2, rfl⟩ rfl ?_
  refine gi_imul (pc' := 4) h ⟨dZ_ownerOf_3, rfl⟩ ?_
  refine gi_ishr (c := a / 2 ^ (2 * i).toNat) (pc' := 5) h ⟨dZ_ownerOf_4, rfl⟩ (shrI (by omega) (by omega)) ?_
  refine gi_iconst (pc' := 6) h ⟨dZ_ownerOf_5, rfl⟩ ?_
  refine gi_iand (c := owD a i) (pc' := 7) h ⟨dZ_ownerOf_6, rfl⟩ (andI 2 (by have h0 : (0 : Int) < 2 ^ (2 * i).toNat := Int.pow_pos (by decide); have h1 : 0 ≤ a / 2 ^ (2 * i).toNat := Int.ediv_nonneg ha.1 (by omega); have h2 : a / 2 ^ (2 * i).toNat ≤ a := Int.ediv_le_self _ ha.1; omega) (by omega)) ?_
  exact gs_iret h hE dZ_ownerOf_7 (⟨rfl, rfl⟩)
set_option maxRecDepth 4000 in
theorem cZ_canOwn (X : XT) {S : Sg} (hZ : ZI S) {x : Int} (hx : 0 ≤ x ∧ x ≤ 5000) : Ctr X 1 yZ_canOwn bZ_canOwn 6 (some .boolean) [.ref 88, .int (iI (x))] (mk S) (PI (fun r S' => r = coZ S x ∧ S' = S)) 0 0 := by
  refine Ctr.ofS (by decide) rfl (Nat.le_of_ble_eq_true rfl) (fun F h hF hE => ?_)
  obtain ⟨z0, zt, ztx, zm0, zm1, zm2, zm3, zst, ztr, zat, zsy, zth, ztg, zwr, zun, zkp, zse, zsk, zme, zmk, zl5, zl6, zl7⟩ := id hZ
  have loop : ∀ (n j : Nat) (LL : List Value), LL.take 5 = [.ref 88, .int (iI x), .int (iI (coF S x j).1), .int (iI (coF S x j).2), .int (iI (j : Int))] → 6 < j + n → (j : Int) ≤ S.1 95 5 → Go F 6 (mk S) 0 0 7 LL [] := by
    intro n
    induction n with
    | zero => intro j LL hL g4 g6; exfalso; omega
    | succ n ih =>
      intro j LL hL g4 g6
      have h01 := co01 S x j
      refine Go.cut [.ref 88, .int (iI x), .int (iI (coF S x j).1), .int (iI (coF S x j).2), .int (iI (j : Int))] 5 hL ?_
      refine go_iload (pc' := 9) h ⟨dZ_canOwn_7, rfl⟩ rfl ?_
      refine go_aload_n (pc' := 10) h ⟨dZ_canOwn_9, rfl⟩ rfl ?_
      refine gs_get (v := .ref 95) (pc' := 13) h ⟨dZ_canOwn_10, rfl⟩ fgZ_28 rfl (by decide) (rfl) ?_
      refine gi_iconst (pc' := 14) h ⟨dZ_canOwn_13, rfl⟩ ?_
      refine gs_iald (pc' := 15) h ⟨dZ_canOwn_14, rfl⟩ rfl (by have hln : (ln 95 : Int) = 212 := rfl; omega) ?_
      refine gi_icmp_ge (tgt := 89) (pc' := 18) h dZ_canOwn_15 rfl rfl (by omega) (fun c15 => ?_) (fun c15 => ?_)
      · refine go_iload_n (pc' := 90) h ⟨dZ_canOwn_89, rfl⟩ rfl ?_
        exact gs_zret h hE dZ_canOwn_90 (h01.1) (⟨by unfold coZ; rw [show (S.1 95 5).toNat = j by omega], rfl⟩)
      · refine go_iload_n (pc' := 19) h ⟨dZ_canOwn_18, rfl⟩ rfl ?_
        refine go_iload (pc' := 21) h ⟨dZ_canOwn_19, rfl⟩ rfl ?_
        refine gd_callSI (e := owD x ((j : Int))) (E := S) (pc' := 24) (As := [.int (iI (x)), .int (iI ((j : Int)))]) (st := []) h hF ⟨dZ_canOwn_21, rfl⟩ kvZ_198 (cZ_owner X (by omega) (by omega)) (by omega) rfl (Nat.le_of_ble_eq_true rfl) rfl ?_
        have ow_21 := owD_bd x ((j : Int))
        refine go_istore (L' := [.ref 88, .int (iI (x)), .int (iI ((coF S x j).1)), .int (iI ((coF S x j).2)), .int (iI ((j : Int))), .int (iI (owD x ((j : Int))))]) (pc' := 26) h ⟨dZ_canOwn_24, rfl⟩ (by decide) rfl rfl ?_
        refine go_iload_n (pc' := 27) h ⟨dZ_canOwn_26, rfl⟩ rfl ?_
        refine gi_if_eq (tgt := 74) (pc' := 30) h dZ_canOwn_27 rfl rfl (by omega) (fun c27 => ?_) (fun c27 => ?_)
        · refine gi_iconst (pc' := 75) h ⟨dZ_canOwn_74, rfl⟩ ?_
          refine go_istore_n (L' := [.ref 88, .int (iI (x)), .int (iI (0)), .int (iI ((coF S x j).2)), .int (iI ((j : Int))), .int (iI (owD x ((j : Int))))]) (pc' := 76) h ⟨dZ_canOwn_75, rfl⟩ (by decide) rfl rfl ?_
          refine go_iload_n (pc' := 77) h ⟨dZ_canOwn_76, rfl⟩ rfl ?_
          refine gi_iconst (pc' := 78) h ⟨dZ_canOwn_77, rfl⟩ ?_
          refine go_iload (pc' := 80) h ⟨dZ_canOwn_78, rfl⟩ rfl ?_
          refine gi_ishl (c := 2 ^ (owD x (j : Int)).toNat) (pc' := 81) h ⟨dZ_canOwn_80, rfl⟩ (shl1 (by omega)) ?_
          refine gi_ior (c := orV (coF S x j).2 (owD x (j : Int))) (pc' := 82) h ⟨dZ_canOwn_81, rfl⟩ ((or2 h01.2 ow_21).1) ?_
          refine go_istore_n (L' := [.ref 88, .int (iI (x)), .int (iI (0)), .int (iI (orV (coF S x j).2 (owD x (j : Int)))), .int (iI ((j : Int))), .int (iI (owD x ((j : Int))))]) (pc' := 83) h ⟨dZ_canOwn_82, rfl⟩ (by decide) rfl rfl ?_
          refine gi_iinc (L' := [.ref 88, .int (iI (x)), .int (iI (0)), .int (iI (orV (coF S x j).2 (owD x (j : Int)))), .int (iI ((j : Int) + 1)), .int (iI (owD x ((j : Int))))]) (pc' := 86) h ⟨dZ_canOwn_83, rfl⟩ rfl (by decide) rfl rfl ?_
          refine gi_goto (tgt := 7) h dZ_canOwn_86 rfl ?_
          exact ih (j + 1) _ (by show [_, _, _, _, _] = _; rw [coF]; dsimp only; rw [if_neg (by omega)]; rfl) (by omega) (by omega)
        · refine go_iload (pc' := 32) h ⟨dZ_canOwn_30, rfl⟩ rfl ?_
          refine go_aload_n (pc' := 33) h ⟨dZ_canOwn_32, rfl⟩ rfl ?_
          refine gs_get (v := .ref 90) (pc' := 36) h ⟨dZ_canOwn_33, rfl⟩ fgZ_13 rfl (by decide) (rfl) ?_
          refine gi_iconst (pc' := 37) h ⟨dZ_canOwn_36, rfl⟩ ?_
          refine gs_iald (pc' := 38) h ⟨dZ_canOwn_37, rfl⟩ rfl (by have hln : (ln 90 : Int) = 8 := rfl; omega) ?_
          refine gi_icmp_ge (tgt := 74) (pc' := 41) h dZ_canOwn_38 rfl rfl (by omega) (fun c38 => ?_) (fun c38 => ?_)
          · refine gi_iconst (pc' := 75) h ⟨dZ_canOwn_74, rfl⟩ ?_
            refine go_istore_n (L' := [.ref 88, .int (iI (x)), .int (iI (0)), .int (iI ((coF S x j).2)), .int (iI ((j : Int))), .int (iI (owD x ((j : Int))))]) (pc' := 76) h ⟨dZ_canOwn_75, rfl⟩ (by decide) rfl rfl ?_
            refine go_iload_n (pc' := 77) h ⟨dZ_canOwn_76, rfl⟩ rfl ?_
            refine gi_iconst (pc' := 78) h ⟨dZ_canOwn_77, rfl⟩ ?_
            refine go_iload (pc' := 80) h ⟨dZ_canOwn_78, rfl⟩ rfl ?_
            refine gi_ishl (c := 2 ^ (owD x (j : Int)).toNat) (pc' := 81) h ⟨dZ_canOwn_80, rfl⟩ (shl1 (by omega)) ?_
            refine gi_ior (c := orV (coF S x j).2 (owD x (j : Int))) (pc' := 82) h ⟨dZ_canOwn_81, rfl⟩ ((or2 h01.2 ow_21).1) ?_
            refine go_istore_n (L' := [.ref 88, .int (iI (x)), .int (iI (0)), .int (iI (orV (coF S x j).2 (owD x (j : Int)))), .int (iI ((j : Int))), .int (iI (owD x ((j : Int))))]) (pc' := 83) h ⟨dZ_canOwn_82, rfl⟩ (by decide) rfl rfl ?_
            refine gi_iinc (L' := [.ref 88, .int (iI (x)), .int (iI (0)), .int (iI (orV (coF S x j).2 (owD x (j : Int)))), .int (iI ((j : Int) + 1)), .int (iI (owD x ((j : Int))))]) (pc' := 86) h ⟨dZ_canOwn_83, rfl⟩ rfl (by decide) rfl rfl ?_
            refine gi_goto (tgt := 7) h dZ_canOwn_86 rfl ?_
            exact ih (j + 1) _ (by show [_, _, _, _, _] = _; rw [coF]; dsimp only; rw [if_neg (by omega)]; rfl) (by omega) (by omega)
          · refine go_iload_n (pc' := 42) h ⟨dZ_canOwn_41, rfl⟩ rfl ?_
            refine go_iload (pc' := 44) h ⟨dZ_canOwn_42, rfl⟩ rfl ?_
            refine gi_ishr (c := (coF S x j).2 / 2 ^ (owD x (j : Int)).toNat) (pc' := 45) h ⟨dZ_canOwn_44, rfl⟩ (shrI (by omega) (by omega)) ?_
            refine gi_iconst (pc' := 46) h ⟨dZ_canOwn_45, rfl⟩ ?_
            refine gi_iand (c := bitI (coF S x j).2 (owD x (j : Int))) (pc' := 47) h ⟨dZ_canOwn_46, rfl⟩ (bitI_1 (by omega)) ?_
            have hb1 := bitI_01 (coF S x j).2 (owD x (j : Int))
            refine gi_if_ne (tgt := 74) (pc' := 50) h dZ_canOwn_47 rfl rfl (by omega) (fun c47 => ?_) (fun c47 => ?_)
            · refine gi_iconst (pc' := 75) h ⟨dZ_canOwn_74, rfl⟩ ?_
              refine go_istore_n (L' := [.ref 88, .int (iI (x)), .int (iI (0)), .int (iI ((coF S x j).2)), .int (iI ((j : Int))), .int (iI (owD x ((j : Int))))]) (pc' := 76) h ⟨dZ_canOwn_75, rfl⟩ (by decide) rfl rfl ?_
              refine go_iload_n (pc' := 77) h ⟨dZ_canOwn_76, rfl⟩ rfl ?_
              refine gi_iconst (pc' := 78) h ⟨dZ_canOwn_77, rfl⟩ ?_
              refine go_iload (pc' := 80) h ⟨dZ_canOwn_78, rfl⟩ rfl ?_
              refine gi_ishl (c := 2 ^ (owD x (j : Int)).toNat) (pc' := 81) h ⟨dZ_canOwn_80, rfl⟩ (shl1 (by omega)) ?_
              refine gi_ior (c := orV (coF S x j).2 (owD x (j : Int))) (pc' := 82) h ⟨dZ_canOwn_81, rfl⟩ ((or2 h01.2 ow_21).1) ?_
              refine go_istore_n (L' := [.ref 88, .int (iI (x)), .int (iI (0)), .int (iI (orV (coF S x j).2 (owD x (j : Int)))), .int (iI ((j : Int))), .int (iI (owD x ((j : Int))))]) (pc' := 83) h ⟨dZ_canOwn_82, rfl⟩ (by decide) rfl rfl ?_
              refine gi_iinc (L' := [.ref 88, .int (iI (x)), .int (iI (0)), .int (iI (orV (coF S x j).2 (owD x (j : Int)))), .int (iI ((j : Int) + 1)), .int (iI (owD x ((j : Int))))]) (pc' := 86) h ⟨dZ_canOwn_83, rfl⟩ rfl (by decide) rfl rfl ?_
              refine gi_goto (tgt := 7) h dZ_canOwn_86 rfl ?_
              exact ih (j + 1) _ (by show [_, _, _, _, _] = _; rw [coF]; dsimp only; rw [if_neg (by omega)]; rfl) (by omega) (by omega)
            · have htr := ztr (owD x (j : Int)) (by omega) (by omega)
              have hth := ztg (6 + (j : Int)) (by omega) (by omega)
              refine go_aload_n (pc' := 51) h ⟨dZ_canOwn_50, rfl⟩ rfl ?_
              refine gs_get (v := .ref 94) (pc' := 54) h ⟨dZ_canOwn_51, rfl⟩ fgZ_25 rfl (by decide) (rfl) ?_
              refine go_iload (pc' := 56) h ⟨dZ_canOwn_54, rfl⟩ rfl ?_
              refine gs_iald (pc' := 57) h ⟨dZ_canOwn_56, rfl⟩ rfl (by have hln : (ln 94 : Int) = 8 := rfl; omega) ?_
              refine go_aload_n (pc' := 58) h ⟨dZ_canOwn_57, rfl⟩ rfl ?_
              refine gs_get (v := .ref 95) (pc' := 61) h ⟨dZ_canOwn_58, rfl⟩ fgZ_28 rfl (by decide) (rfl) ?_
              refine gi_bipush (pc' := 63) h ⟨dZ_canOwn_61, rfl⟩ rfl ?_
              refine go_iload (pc' := 65) h ⟨dZ_canOwn_63, rfl⟩ rfl ?_
              refine gi_iadd (pc' := 66) h ⟨dZ_canOwn_65, rfl⟩ ?_
              refine gs_iald (pc' := 67) h ⟨dZ_canOwn_66, rfl⟩ rfl (by have hln : (ln 95 : Int) = 212 := rfl; omega) ?_
              refine gi_icmp_lt (tgt := 74) (pc' := 70) h dZ_canOwn_67 rfl rfl (by omega) (fun c67 => ?_) (fun c67 => ?_)
              · refine gi_iconst (pc' := 75) h ⟨dZ_canOwn_74, rfl⟩ ?_
                refine go_istore_n (L' := [.ref 88, .int (iI (x)), .int (iI (0)), .int (iI ((coF S x j).2)), .int (iI ((j : Int))), .int (iI (owD x ((j : Int))))]) (pc' := 76) h ⟨dZ_canOwn_75, rfl⟩ (by decide) rfl rfl ?_
                refine go_iload_n (pc' := 77) h ⟨dZ_canOwn_76, rfl⟩ rfl ?_
                refine gi_iconst (pc' := 78) h ⟨dZ_canOwn_77, rfl⟩ ?_
                refine go_iload (pc' := 80) h ⟨dZ_canOwn_78, rfl⟩ rfl ?_
                refine gi_ishl (c := 2 ^ (owD x (j : Int)).toNat) (pc' := 81) h ⟨dZ_canOwn_80, rfl⟩ (shl1 (by omega)) ?_
                refine gi_ior (c := orV (coF S x j).2 (owD x (j : Int))) (pc' := 82) h ⟨dZ_canOwn_81, rfl⟩ ((or2 h01.2 ow_21).1) ?_
                refine go_istore_n (L' := [.ref 88, .int (iI (x)), .int (iI (0)), .int (iI (orV (coF S x j).2 (owD x (j : Int)))), .int (iI ((j : Int))), .int (iI (owD x ((j : Int))))]) (pc' := 83) h ⟨dZ_canOwn_82, rfl⟩ (by decide) rfl rfl ?_
                refine gi_iinc (L' := [.ref 88, .int (iI (x)), .int (iI (0)), .int (iI (orV (coF S x j).2 (owD x (j : Int)))), .int (iI ((j : Int) + 1)), .int (iI (owD x ((j : Int))))]) (pc' := 86) h ⟨dZ_canOwn_83, rfl⟩ rfl (by decide) rfl rfl ?_
                refine gi_goto (tgt := 7) h dZ_canOwn_86 rfl ?_
                exact ih (j + 1) _ (by show [_, _, _, _, _] = _; rw [coF]; dsimp only; rw [if_neg (by omega)]; rfl) (by omega) (by omega)
              · refine gi_iconst (pc' := 71) h ⟨dZ_canOwn_70, rfl⟩ ?_
                refine gi_goto (tgt := 75) h dZ_canOwn_71 rfl ?_
                refine go_istore_n (L' := [.ref 88, .int (iI (x)), .int (iI (1)), .int (iI ((coF S x j).2)), .int (iI ((j : Int))), .int (iI (owD x ((j : Int))))]) (pc' := 76) h ⟨dZ_canOwn_75, rfl⟩ (by decide) rfl rfl ?_
                refine go_iload_n (pc' := 77) h ⟨dZ_canOwn_76, rfl⟩ rfl ?_
                refine gi_iconst (pc' := 78) h ⟨dZ_canOwn_77, rfl⟩ ?_
                refine go_iload (pc' := 80) h ⟨dZ_canOwn_78, rfl⟩ rfl ?_
                refine gi_ishl (c := 2 ^ (owD x (j : Int)).toNat) (pc' := 81) h ⟨dZ_canOwn_80, rfl⟩ (shl1 (by omega)) ?_
                refine gi_ior (c := orV (coF S x j).2 (owD x (j : Int))) (pc' := 82) h ⟨dZ_canOwn_81, rfl⟩ ((or2 h01.2 ow_21).1) ?_
                refine go_istore_n (L' := [.ref 88, .int (iI (x)), .int (iI (1)), .int (iI (orV (coF S x j).2 (owD x (j : Int)))), .int (iI ((j : Int))), .int (iI (owD x ((j : Int))))]) (pc' := 83) h ⟨dZ_canOwn_82, rfl⟩ (by decide) rfl rfl ?_
                refine gi_iinc (L' := [.ref 88, .int (iI (x)), .int (iI (1)), .int (iI (orV (coF S x j).2 (owD x (j : Int)))), .int (iI ((j : Int) + 1)), .int (iI (owD x ((j : Int))))]) (pc' := 86) h ⟨dZ_canOwn_83, rfl⟩ rfl (by decide) rfl rfl ?_
                refine gi_goto (tgt := 7) h dZ_canOwn_86 rfl ?_
                exact ih (j + 1) _ (by show [_, _, _, _, _] = _; rw [coF]; dsimp only; rw [if_pos (by omega)]; rfl) (by omega) (by omega)
  refine gi_iconst (pc' := 1) h ⟨dZ_canOwn_0, rfl⟩ ?_
  refine go_istore_n (L' := [.ref 88, .int (iI (x)), .int (iI (1))]) (pc' := 2) h ⟨dZ_canOwn_1, rfl⟩ (by decide) rfl rfl ?_
  refine gi_iconst (pc' := 3) h ⟨dZ_canOwn_2, rfl⟩ ?_
  refine go_istore_n (L' := [.ref 88, .int (iI (x)), .int (iI (1)), .int (iI (0))]) (pc' := 4) h ⟨dZ_canOwn_3, rfl⟩ (by decide) rfl rfl ?_
  refine gi_iconst (pc' := 5) h ⟨dZ_canOwn_4, rfl⟩ ?_
  refine go_istore (L' := [.ref 88, .int (iI (x)), .int (iI (1)), .int (iI (0)), .int (iI (0))]) (pc' := 7) h ⟨dZ_canOwn_5, rfl⟩ (by decide) rfl rfl ?_
  exact loop 7 0 _ rfl (by omega) (by omega)
def owV (x : Int) (r : Int) : Int := if x < 0 then 0 else owD r x
theorem pow2_12 : ∀ k : Nat, k < 7 → (2 : Int) ^ (2 * (k : Int)).toNat ≤ 4096 ∧ (1 : Int) ≤ 2 ^ (2 * (k : Int)).toNat ∧ iI 1 <<< (iI (2 * (k : Int)) &&& 31) = iI (2 ^ (2 * (k : Int)).toNat) := by decide +kernel
theorem pow212 {k : Int} (h : 0 ≤ k ∧ k ≤ 6) : (2 : Int) ^ (2 * k).toNat ≤ 4096 ∧ (1 : Int) ≤ 2 ^ (2 * k).toNat ∧ iI 1 <<< (iI (2 * k) &&& 31) = iI (2 ^ (2 * k).toNat) := by
  have := pow2_12 k.toNat (by omega)
  rwa [Int.toNat_of_nonneg h.1] at this
def zWhose (S : Sg) (x r : Int) : Prop := ((x < -1 ∨ S.1 95 5 ≤ x) ∧ r = -1) ∨ ((-1 ≤ x ∧ x < S.1 95 5) ∧ ∃ nn o, ctP (coZ S) (owV x) 3 (2 ^ (2 * S.1 95 5).toNat) nn o ∧ ((x = -1 ∧ r = nn) ∨ (0 ≤ x ∧ o < 0 ∧ r = -9) ∨ (0 ≤ x ∧ 0 ≤ o ∧ r = o)))
set_option maxRecDepth 4000 in
theorem cZ_whose (X : XT) {S : Sg} (hZ : ZI S) {x : Int} (hx : -2147483648 ≤ x ∧ x ≤ 2147483647) : Ctr X 6 yZ_whose bZ_whose 6 (some .int) [.ref 88, .int (iI (x))] (mk S) (PI (fun r S' => zWhose S x r ∧ S' = S)) 0 0 := by
  refine Ctr.ofS (by decide) rfl (Nat.le_of_ble_eq_true rfl) (fun F h hF hE => ?_)
  obtain ⟨z0, zt, ztx, zm0, zm1, zm2, zm3, zst, ztr, zat, zsy, zth, ztg, zwr, zun, zkp, zse, zsk, zme, zmk, zl5, zl6, zl7⟩ := id hZ
  have hp := pow212 (k := S.1 95 5) zth
  have loop : (-1 ≤ x ∧ x < S.1 95 5) → ∀ (n : Nat) (j nn o : Int) (LL : List Value), LL.take 5 = [.ref 88, .int (iI x), .int (iI nn), .int (iI o), .int (iI j)] → 4096 < j + n → 0 ≤ j → j ≤ 2 ^ (2 * S.1 95 5).toNat → ctP (coZ S) (owV x) 3 j nn o → Go F 6 (mk S) 0 0 31 LL [] := by
    intro hx n
    induction n with
    | zero => intro j nn o LL hL g4 g5 g6; exfalso; omega
    | succ n ih =>
      intro j nn o LL hL g4 g5 g6 g8
      have h01 := (co01 S j (S.1 95 5).toNat).1
      have hnn : 0 ≤ nn ∧ nn ≤ j := by rcases g8.2 with k | k <;> omega
      have hoo : -9 ≤ o ∧ o ≤ 3 := by rcases g8.2 with k | ⟨k, k2 | k2⟩ <;> omega
      refine Go.cut [.ref 88, .int (iI x), .int (iI nn), .int (iI o), .int (iI j)] 5 hL ?_
      refine go_iload (pc' := 33) h ⟨dZ_whose_31, rfl⟩ rfl ?_
      refine gi_iconst (pc' := 34) h ⟨dZ_whose_33, rfl⟩ ?_
      refine gi_iconst (pc' := 35) h ⟨dZ_whose_34, rfl⟩ ?_
      refine go_aload_n (pc' := 36) h ⟨dZ_whose_35, rfl⟩ rfl ?_
      refine gs_get (v := .ref 95) (pc' := 39) h ⟨dZ_whose_36, rfl⟩ fgZ_28 rfl (by decide) (rfl) ?_
      refine gi_iconst (pc' := 40) h ⟨dZ_whose_39, rfl⟩ ?_
      refine gs_iald (pc' := 41) h ⟨dZ_whose_40, rfl⟩ rfl (by have hln : (ln 95 : Int) = 212 := rfl; omega) ?_
      refine gi_imul (pc' := 42) h ⟨dZ_whose_41, rfl⟩ ?_
      refine gi_ishl (c := 2 ^ (2 * S.1 95 5).toNat) (pc' := 43) h ⟨dZ_whose_42, rfl⟩ (hp.2.2) ?_
      refine gi_icmp_ge (tgt := 97) (pc' := 46) h dZ_whose_43 rfl rfl (by omega) (fun c43 => ?_) (fun c43 => ?_)
      · refine go_iload_n (pc' := 98) h ⟨dZ_whose_97, rfl⟩ rfl ?_
        refine gi_if_ge (tgt := 105) (pc' := 101) h dZ_whose_98 rfl rfl (by omega) (fun c98 => ?_) (fun c98 => ?_)
        · refine go_iload_n (pc' := 106) h ⟨dZ_whose_105, rfl⟩ rfl ?_
          refine gi_if_ge (tgt := 114) (pc' := 109) h dZ_whose_106 rfl rfl (by omega) (fun c106 => ?_) (fun c106 => ?_)
          · refine go_iload_n (pc' := 115) h ⟨dZ_whose_114, rfl⟩ rfl ?_
            exact gs_iret h hE dZ_whose_115 (⟨Or.inr ⟨hx, nn, o, by rw [show (2 : Int) ^ (2 * S.1 95 5).toNat = j by omega]; exact g8, Or.inr (Or.inr ⟨by omega, by omega, rfl⟩)⟩, rfl⟩)
          · refine gi_bipush (pc' := 111) h ⟨dZ_whose_109, rfl⟩ rfl ?_
            refine gi_goto (tgt := 115) h dZ_whose_111 rfl ?_
            exact gs_iret h hE dZ_whose_115 (⟨Or.inr ⟨hx, nn, o, by rw [show (2 : Int) ^ (2 * S.1 95 5).toNat = j by omega]; exact g8, Or.inr (Or.inl ⟨by omega, by omega, rfl⟩)⟩, rfl⟩)
        · refine go_iload_n (pc' := 102) h ⟨dZ_whose_101, rfl⟩ rfl ?_
          refine gi_goto (tgt := 115) h dZ_whose_102 rfl ?_
          exact gs_iret h hE dZ_whose_115 (⟨Or.inr ⟨hx, nn, o, by rw [show (2 : Int) ^ (2 * S.1 95 5).toNat = j by omega]; exact g8, Or.inl ⟨by omega, rfl⟩⟩, rfl⟩)
      · refine go_aload_n (pc' := 47) h ⟨dZ_whose_46, rfl⟩ rfl ?_
        refine go_iload (pc' := 49) h ⟨dZ_whose_47, rfl⟩ rfl ?_
        refine gd_callVI (e := coZ S j) (E := S) (pc' := 52) (As := [.int (iI (j))]) (st := []) h hF ⟨dZ_whose_49, rfl⟩ kvZ_201 (cZ_canOwn X hZ (by omega)) (by omega) rfl (by decide) ⟨_, _, rfl⟩ rfl (Nat.le_of_ble_eq_true rfl) rfl ?_
        have h01 : coZ S j = 0 ∨ coZ S j = 1 := h01
        refine gi_if_eq (tgt := 91) (pc' := 55) h dZ_whose_52 rfl rfl (by omega) (fun c52 => ?_) (fun c52 => ?_)
        · refine gi_iinc (L' := [.ref 88, .int (iI (x)), .int (iI (nn)), .int (iI (o)), .int (iI (j + 1))]) (pc' := 94) h ⟨dZ_whose_91, rfl⟩ rfl (by decide) rfl rfl ?_
          refine gi_goto (tgt := 31) h dZ_whose_94 rfl ?_
          have ea : coZ S j = 0 := by omega
          exact ih (j + 1) nn o _ rfl (by omega) (by omega) (by omega) (ct_n g5 g8 ea)
        · refine go_iload_n (pc' := 56) h ⟨dZ_whose_55, rfl⟩ rfl ?_
          refine gi_if_ge (tgt := 63) (pc' := 59) h dZ_whose_56 rfl rfl (by omega) (fun c56 => ?_) (fun c56 => ?_)
          · refine go_iload (pc' := 65) h ⟨dZ_whose_63, rfl⟩ rfl ?_
            refine go_iload_n (pc' := 66) h ⟨dZ_whose_65, rfl⟩ rfl ?_
            refine gd_callSI (e := owD j x) (E := S) (pc' := 69) (As := [.int (iI (j)), .int (iI (x))]) (st := []) h hF ⟨dZ_whose_66, rfl⟩ kvZ_198 (cZ_owner X (by omega) (by omega)) (by omega) rfl (Nat.le_of_ble_eq_true rfl) rfl ?_
            have ow_66 := owD_bd j x
            refine gi_top (fun v e_v => ?_)
            refine go_istore (L' := [.ref 88, .int (iI (x)), .int (iI (nn)), .int (iI (o)), .int (iI (j)), .int (iI (v))]) (pc' := 71) h ⟨dZ_whose_69, rfl⟩ (by decide) rfl rfl ?_
            refine go_iload_n (pc' := 72) h ⟨dZ_whose_71, rfl⟩ rfl ?_
            refine gi_if_eq (tgt := 81) (pc' := 75) h dZ_whose_72 rfl rfl (by omega) (fun c72 => ?_) (fun c72 => ?_)
            · refine go_iload (pc' := 83) h ⟨dZ_whose_81, rfl⟩ rfl ?_
              refine gi_goto (tgt := 87) h dZ_whose_83 rfl ?_
              refine go_istore_n (L' := [.ref 88, .int (iI (x)), .int (iI (nn)), .int (iI (v)), .int (iI (j)), .int (iI (v))]) (pc' := 88) h ⟨dZ_whose_87, rfl⟩ (by decide) rfl rfl ?_
              refine gi_iinc (L' := [.ref 88, .int (iI (x)), .int (iI (nn + 1)), .int (iI (v)), .int (iI (j)), .int (iI (v))]) (pc' := 91) h ⟨dZ_whose_88, rfl⟩ rfl (by decide) rfl rfl ?_
              refine gi_iinc (L' := [.ref 88, .int (iI (x)), .int (iI (nn + 1)), .int (iI (v)), .int (iI (j + 1)), .int (iI (v))]) (pc' := 94) h ⟨dZ_whose_91, rfl⟩ rfl (by decide) rfl rfl ?_
              refine gi_goto (tgt := 31) h dZ_whose_94 rfl ?_
              have ev : owV x j = v := by rw [e_v]; unfold owV; rw [if_neg (by omega)]
              exact ih (j + 1) (nn + 1) v _ rfl (by omega) (by omega) (by omega) (ct_y g5 g8 (by omega) (by omega) (by omega))
            · refine go_iload_n (pc' := 76) h ⟨dZ_whose_75, rfl⟩ rfl ?_
              refine go_iload (pc' := 78) h ⟨dZ_whose_76, rfl⟩ rfl ?_
              refine gi_icmp_ne (tgt := 86) (pc' := 81) h dZ_whose_78 rfl rfl (by omega) (fun c78 => ?_) (fun c78 => ?_)
              · refine gi_iconst (pc' := 87) h ⟨dZ_whose_86, rfl⟩ ?_
                refine go_istore_n (L' := [.ref 88, .int (iI (x)), .int (iI (nn)), .int (iI (-1)), .int (iI (j)), .int (iI (v))]) (pc' := 88) h ⟨dZ_whose_87, rfl⟩ (by decide) rfl rfl ?_
                refine gi_iinc (L' := [.ref 88, .int (iI (x)), .int (iI (nn + 1)), .int (iI (-1)), .int (iI (j)), .int (iI (v))]) (pc' := 91) h ⟨dZ_whose_88, rfl⟩ rfl (by decide) rfl rfl ?_
                refine gi_iinc (L' := [.ref 88, .int (iI (x)), .int (iI (nn + 1)), .int (iI (-1)), .int (iI (j + 1)), .int (iI (v))]) (pc' := 94) h ⟨dZ_whose_91, rfl⟩ rfl (by decide) rfl rfl ?_
                refine gi_goto (tgt := 31) h dZ_whose_94 rfl ?_
                have ev : owV x j = v := by rw [e_v]; unfold owV; rw [if_neg (by omega)]
                exact ih (j + 1) (nn + 1) (-1) _ rfl (by omega) (by omega) (by omega) (ct_y g5 g8 (by omega) (by omega) (by omega))
              · refine go_iload (pc' := 83) h ⟨dZ_whose_81, rfl⟩ rfl ?_
                refine gi_goto (tgt := 87) h dZ_whose_83 rfl ?_
                refine go_istore_n (L' := [.ref 88, .int (iI (x)), .int (iI (nn)), .int (iI (v)), .int (iI (j)), .int (iI (v))]) (pc' := 88) h ⟨dZ_whose_87, rfl⟩ (by decide) rfl rfl ?_
                refine gi_iinc (L' := [.ref 88, .int (iI (x)), .int (iI (nn + 1)), .int (iI (v)), .int (iI (j)), .int (iI (v))]) (pc' := 91) h ⟨dZ_whose_88, rfl⟩ rfl (by decide) rfl rfl ?_
                refine gi_iinc (L' := [.ref 88, .int (iI (x)), .int (iI (nn + 1)), .int (iI (v)), .int (iI (j + 1)), .int (iI (v))]) (pc' := 94) h ⟨dZ_whose_91, rfl⟩ rfl (by decide) rfl rfl ?_
                refine gi_goto (tgt := 31) h dZ_whose_94 rfl ?_
                have ev : owV x j = v := by rw [e_v]; unfold owV; rw [if_neg (by omega)]
                exact ih (j + 1) (nn + 1) v _ rfl (by omega) (by omega) (by omega) (ct_y g5 g8 (by omega) (by omega) (by omega))
          · refine gi_iconst (pc' := 60) h ⟨dZ_whose_59, rfl⟩ ?_
            refine gi_goto (tgt := 69) h dZ_whose_60 rfl ?_
            refine gi_top (fun v e_v => ?_)
            refine go_istore (L' := [.ref 88, .int (iI (x)), .int (iI (nn)), .int (iI (o)), .int (iI (j)), .int (iI (v))]) (pc' := 71) h ⟨dZ_whose_69, rfl⟩ (by decide) rfl rfl ?_
            refine go_iload_n (pc' := 72) h ⟨dZ_whose_71, rfl⟩ rfl ?_
            refine gi_if_eq (tgt := 81) (pc' := 75) h dZ_whose_72 rfl rfl (by omega) (fun c72 => ?_) (fun c72 => ?_)
            · refine go_iload (pc' := 83) h ⟨dZ_whose_81, rfl⟩ rfl ?_
              refine gi_goto (tgt := 87) h dZ_whose_83 rfl ?_
              refine go_istore_n (L' := [.ref 88, .int (iI (x)), .int (iI (nn)), .int (iI (v)), .int (iI (j)), .int (iI (v))]) (pc' := 88) h ⟨dZ_whose_87, rfl⟩ (by decide) rfl rfl ?_
              refine gi_iinc (L' := [.ref 88, .int (iI (x)), .int (iI (nn + 1)), .int (iI (v)), .int (iI (j)), .int (iI (v))]) (pc' := 91) h ⟨dZ_whose_88, rfl⟩ rfl (by decide) rfl rfl ?_
              refine gi_iinc (L' := [.ref 88, .int (iI (x)), .int (iI (nn + 1)), .int (iI (v)), .int (iI (j + 1)), .int (iI (v))]) (pc' := 94) h ⟨dZ_whose_91, rfl⟩ rfl (by decide) rfl rfl ?_
              refine gi_goto (tgt := 31) h dZ_whose_94 rfl ?_
              have ev : owV x j = v := by rw [e_v]; unfold owV; rw [if_pos (by omega)]
              exact ih (j + 1) (nn + 1) v _ rfl (by omega) (by omega) (by omega) (ct_y g5 g8 (by omega) (by omega) (by omega))
            · refine go_iload_n (pc' := 76) h ⟨dZ_whose_75, rfl⟩ rfl ?_
              refine go_iload (pc' := 78) h ⟨dZ_whose_76, rfl⟩ rfl ?_
              refine gi_icmp_ne (tgt := 86) (pc' := 81) h dZ_whose_78 rfl rfl (by omega) (fun c78 => ?_) (fun c78 => ?_)
              · refine gi_iconst (pc' := 87) h ⟨dZ_whose_86, rfl⟩ ?_
                refine go_istore_n (L' := [.ref 88, .int (iI (x)), .int (iI (nn)), .int (iI (-1)), .int (iI (j)), .int (iI (v))]) (pc' := 88) h ⟨dZ_whose_87, rfl⟩ (by decide) rfl rfl ?_
                refine gi_iinc (L' := [.ref 88, .int (iI (x)), .int (iI (nn + 1)), .int (iI (-1)), .int (iI (j)), .int (iI (v))]) (pc' := 91) h ⟨dZ_whose_88, rfl⟩ rfl (by decide) rfl rfl ?_
                refine gi_iinc (L' := [.ref 88, .int (iI (x)), .int (iI (nn + 1)), .int (iI (-1)), .int (iI (j + 1)), .int (iI (v))]) (pc' := 94) h ⟨dZ_whose_91, rfl⟩ rfl (by decide) rfl rfl ?_
                refine gi_goto (tgt := 31) h dZ_whose_94 rfl ?_
                have ev : owV x j = v := by rw [e_v]; unfold owV; rw [if_pos (by omega)]
                exact ih (j + 1) (nn + 1) (-1) _ rfl (by omega) (by omega) (by omega) (ct_y g5 g8 (by omega) (by omega) (by omega))
              · refine go_iload (pc' := 83) h ⟨dZ_whose_81, rfl⟩ rfl ?_
                refine gi_goto (tgt := 87) h dZ_whose_83 rfl ?_
                refine go_istore_n (L' := [.ref 88, .int (iI (x)), .int (iI (nn)), .int (iI (v)), .int (iI (j)), .int (iI (v))]) (pc' := 88) h ⟨dZ_whose_87, rfl⟩ (by decide) rfl rfl ?_
                refine gi_iinc (L' := [.ref 88, .int (iI (x)), .int (iI (nn + 1)), .int (iI (v)), .int (iI (j)), .int (iI (v))]) (pc' := 91) h ⟨dZ_whose_88, rfl⟩ rfl (by decide) rfl rfl ?_
                refine gi_iinc (L' := [.ref 88, .int (iI (x)), .int (iI (nn + 1)), .int (iI (v)), .int (iI (j + 1)), .int (iI (v))]) (pc' := 94) h ⟨dZ_whose_91, rfl⟩ rfl (by decide) rfl rfl ?_
                refine gi_goto (tgt := 31) h dZ_whose_94 rfl ?_
                have ev : owV x j = v := by rw [e_v]; unfold owV; rw [if_pos (by omega)]
                exact ih (j + 1) (nn + 1) v _ rfl (by omega) (by omega) (by omega) (ct_y g5 g8 (by omega) (by omega) (by omega))
  refine go_aload_n (pc' := 1) h ⟨dZ_whose_0, rfl⟩ rfl ?_
  refine gi_iconst (pc' := 2) h ⟨dZ_whose_1, rfl⟩ ?_
  refine gd_putI (i := 0) (pc' := 5) h ⟨dZ_whose_2, rfl⟩ fpZ_68 rfl (by decide) rfl rfl ?_
  rw [pt_z z0]
  refine go_iload_n (pc' := 6) h ⟨dZ_whose_5, rfl⟩ rfl ?_
  refine gi_iconst (pc' := 7) h ⟨dZ_whose_6, rfl⟩ ?_
  refine go_aload_n (pc' := 8) h ⟨dZ_whose_7, rfl⟩ rfl ?_
  refine gs_get (v := .ref 95) (pc' := 11) h ⟨dZ_whose_8, rfl⟩ fgZ_28 rfl (by decide) (rfl) ?_
  refine gi_iconst (pc' := 12) h ⟨dZ_whose_11, rfl⟩ ?_
  refine gs_iald (pc' := 13) h ⟨dZ_whose_12, rfl⟩ rfl (by have hln : (ln 95 : Int) = 212 := rfl; omega) ?_
  refine gi_iconst (pc' := 14) h ⟨dZ_whose_13, rfl⟩ ?_
  refine gi_isub (pc' := 15) h ⟨dZ_whose_14, rfl⟩ ?_
  refine gd_callSI (e := if -1 ≤ x ∧ x ≤ (S.1 95 5) - 1 then 1 else 0) (E := S) (pc' := 18) (As := [.int (iI (x)), .int (iI (-1)), .int (iI ((S.1 95 5) - 1))]) (st := []) h hF ⟨dZ_whose_15, rfl⟩ kvZ_72 (cZ_in X (by omega)) (by omega) rfl (Nat.le_of_ble_eq_true rfl) rfl ?_
  refine gi_if_ne (tgt := 23) (pc' := 21) h dZ_whose_18 rfl rfl (by split <;> omega) (fun c18 => ?_) (fun c18 => ?_)
  · have c18 := b1 c18
    refine gi_iconst (pc' := 24) h ⟨dZ_whose_23, rfl⟩ ?_
    refine go_istore_n (L' := [.ref 88, .int (iI (x)), .int (iI (0))]) (pc' := 25) h ⟨dZ_whose_24, rfl⟩ (by decide) rfl rfl ?_
    refine gi_bipush (pc' := 27) h ⟨dZ_whose_25, rfl⟩ rfl ?_
    refine go_istore_n (L' := [.ref 88, .int (iI (x)), .int (iI (0)), .int (iI (-9))]) (pc' := 28) h ⟨dZ_whose_27, rfl⟩ (by decide) rfl rfl ?_
    refine gi_iconst (pc' := 29) h ⟨dZ_whose_28, rfl⟩ ?_
    refine go_istore (L' := [.ref 88, .int (iI (x)), .int (iI (0)), .int (iI (-9)), .int (iI (0))]) (pc' := 31) h ⟨dZ_whose_29, rfl⟩ (by decide) rfl rfl ?_
    exact loop (by omega) 4097 0 0 (-9) _ rfl (by omega) (by omega) (by omega) (ct_0 _ _ _)
  · have c18 := b0 c18
    refine gi_iconst (pc' := 22) h ⟨dZ_whose_21, rfl⟩ ?_
    exact gs_iret h hE dZ_whose_22 (⟨Or.inl ⟨by omega, rfl⟩, rfl⟩)
