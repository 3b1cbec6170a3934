/-! the reference's altitudes, what is seen and measured -/
def alZ (S : Sg) (x : Int) : Int := if x % 1000 = 0 then sumI (fun m => 1000 * htZ S m) (x / 1000) else sumI (fun m => 1000 * htZ S m) (x / 1000) + x % 1000 * htZ S (x / 1000)
def hkZ (S : Sg) : Int → Int := fun m => 1000 * htZ S m
theorem hkZ_sm {S : Sg} (h : ZS S) : ∀ j : Nat, (j : Int) ≤ tpZ S → 0 ≤ sumI (hkZ S) j ∧ sumI (hkZ S) j ≤ 80000 * j := by
  intro j hj
  have := sumI_bd (f := hkZ S) (B := 80000) (n := (j : Int)) (by omega) (fun m m1 m2 => by
    have := htZ_bd h (m := m) (by omega)
    unfold hkZ
    omega)
  exact this
set_option maxRecDepth 4000 in
theorem cZ_alt (X : XT) {S : Sg} {x : Int} (hZS : ZS S) (hx : 0 ≤ x ∧ x ≤ 1000 * tpZ S) : Ctr X 1 yZ_altitudeOf bZ_altitudeOf 4 (some .int) [.ref 88, .int (iI (x))] (mk S) (PI (fun r S' => r = alZ S x ∧ S' = S)) 0 0 := by
  refine Ctr.ofS (by decide) rfl (Nat.le_of_ble_eq_true rfl) (fun F h hF hE => ?_)
  have htp := tpZ_bd hZS
  have loop : ∀ (n : Nat) (j : Int), 100 < j + n → 0 ≤ j → j ≤ x / 1000 → Go F 4 (mk S) 0 0 4 [.ref 88, .int (iI x), .int (iI (sumI (hkZ S) j)), .int (iI j)] [] := by
    intro n
    induction n with
    | zero => intro j g4 g5 g6; exfalso; omega
    | succ n ih =>
      intro j g4 g5 g6
      refine go_iload_n (pc' := 5) h ⟨dZ_altitudeOf_4, rfl⟩ rfl ?_
      refine go_iload_n (pc' := 6) h ⟨dZ_altitudeOf_5, rfl⟩ rfl ?_
      refine gi_sipush (pc' := 9) h ⟨dZ_altitudeOf_6, rfl⟩ rfl ?_
      refine gi_idiv (pc' := 10) h ⟨dZ_altitudeOf_9, rfl⟩ (by omega) ?_
      refine gi_icmp_ge (tgt := 31) (pc' := 13) h dZ_altitudeOf_10 rfl rfl (by omega) (fun c10 => ?_) (fun c10 => ?_)
      · have e_j : j = x / 1000 := by omega
        refine go_iload_n (pc' := 32) h ⟨dZ_altitudeOf_31, rfl⟩ rfl ?_
        refine gi_sipush (pc' := 35) h ⟨dZ_altitudeOf_32, rfl⟩ rfl ?_
        refine gi_irem (pc' := 36) h ⟨dZ_altitudeOf_35, rfl⟩ (by omega) ?_
        refine go_istore_n (L' := [.ref 88, .int (iI (x)), .int (iI (sumI (hkZ S) j)), .int (iI (x % 1000))]) (pc' := 37) h ⟨dZ_altitudeOf_36, rfl⟩ (by decide) rfl rfl ?_
        refine go_iload_n (pc' := 38) h ⟨dZ_altitudeOf_37, rfl⟩ rfl ?_
        refine gi_if_ne (tgt := 45) (pc' := 41) h dZ_altitudeOf_38 rfl rfl (by omega) (fun c38 => ?_) (fun c38 => ?_)
        · refine go_iload_n (pc' := 46) h ⟨dZ_altitudeOf_45, rfl⟩ rfl ?_
          refine go_iload_n (pc' := 47) h ⟨dZ_altitudeOf_46, rfl⟩ rfl ?_
          refine go_aload_n (pc' := 48) h ⟨dZ_altitudeOf_47, rfl⟩ rfl ?_
          refine go_iload_n (pc' := 49) h ⟨dZ_altitudeOf_48, rfl⟩ rfl ?_
          refine gi_sipush (pc' := 52) h ⟨dZ_altitudeOf_49, rfl⟩ rfl ?_
          refine gi_idiv (pc' := 53) h ⟨dZ_altitudeOf_52, rfl⟩ (by omega) ?_
          refine gd_callVI (e := htZ S (x / 1000)) (E := S) (pc' := 56) (As := [.int (iI (x / 1000))]) (st := [.int (iI (x % 1000)), .int (iI (sumI (hkZ S) j))]) h hF ⟨dZ_altitudeOf_53, rfl⟩ kvZ_150 (cZ_heightAt X hZS (by omega)) (by omega) rfl (by decide) ⟨_, _, rfl⟩ rfl (Nat.le_of_ble_eq_true rfl) rfl ?_
          have ht_53 := htZ_bd hZS (m := x / 1000) (by omega)
          refine gi_imul (pc' := 57) h ⟨dZ_altitudeOf_56, rfl⟩ ?_
          refine gi_iadd (pc' := 58) h ⟨dZ_altitudeOf_57, rfl⟩ ?_
          exact gs_iret h hE dZ_altitudeOf_58 (⟨by unfold alZ; rw [if_neg (by omega), e_j]; rfl, rfl⟩)
        · refine go_iload_n (pc' := 42) h ⟨dZ_altitudeOf_41, rfl⟩ rfl ?_
          refine gi_goto (tgt := 58) h dZ_altitudeOf_42 rfl ?_
          exact gs_iret h hE dZ_altitudeOf_58 (⟨by unfold alZ; rw [if_pos (by omega), e_j]; rfl, rfl⟩)
      · refine go_iload_n (pc' := 14) h ⟨dZ_altitudeOf_13, rfl⟩ rfl ?_
        refine gi_sipush (pc' := 17) h ⟨dZ_altitudeOf_14, rfl⟩ rfl ?_
        refine go_aload_n (pc' := 18) h ⟨dZ_altitudeOf_17, rfl⟩ rfl ?_
        refine go_iload_n (pc' := 19) h ⟨dZ_altitudeOf_18, rfl⟩ rfl ?_
        refine gd_callVI (e := htZ S j) (E := S) (pc' := 22) (As := [.int (iI (j))]) (st := [.int (iI (1000)), .int (iI (sumI (hkZ S) j))]) h hF ⟨dZ_altitudeOf_19, rfl⟩ kvZ_150 (cZ_heightAt X hZS (by omega)) (by omega) rfl (by decide) ⟨_, _, rfl⟩ rfl (Nat.le_of_ble_eq_true rfl) rfl ?_
        have ht_19 := htZ_bd hZS (m := j) (by omega)
        refine gi_imul (pc' := 23) h ⟨dZ_altitudeOf_22, rfl⟩ ?_
        refine gi_iadd (pc' := 24) h ⟨dZ_altitudeOf_23, rfl⟩ ?_
        refine go_istore_n (L' := [.ref 88, .int (iI (x)), .int (iI ((sumI (hkZ S) j) + (1000 * (htZ S j)))), .int (iI (j))]) (pc' := 25) h ⟨dZ_altitudeOf_24, rfl⟩ (by decide) rfl rfl ?_
        refine gi_iinc (L' := [.ref 88, .int (iI (x)), .int (iI ((sumI (hkZ S) j) + (1000 * (htZ S j)))), .int (iI (j + 1))]) (pc' := 28) h ⟨dZ_altitudeOf_25, rfl⟩ rfl (by decide) rfl rfl ?_
        refine gi_goto (tgt := 4) h dZ_altitudeOf_28 rfl ?_
        have g7 := ih (j + 1) (by omega) (by omega) (by omega)
        rw [sumI_s _ g5] at g7
        exact g7
  refine gi_iconst (pc' := 1) h ⟨dZ_altitudeOf_0, rfl⟩ ?_
  refine go_istore_n (L' := [.ref 88, .int (iI (x)), .int (iI (0))]) (pc' := 2) h ⟨dZ_altitudeOf_1, rfl⟩ (by decide) rfl rfl ?_
  refine gi_iconst (pc' := 3) h ⟨dZ_altitudeOf_2, rfl⟩ ?_
  refine go_istore_n (L' := [.ref 88, .int (iI (x)), .int (iI (0)), .int (iI (0))]) (pc' := 4) h ⟨dZ_altitudeOf_3, rfl⟩ (by decide) rfl rfl ?_
  exact loop 101 0 (by omega) (by omega) (by omega)
def zAlt (S : Sg) (x : Int) : Int × Sg := if 0 ≤ x ∧ x ≤ 1000 * tpZ S then (alZ S x, S) else (-1, S)
set_option maxRecDepth 4000 in
theorem cZ_altitude (X : XT) {S : Sg} (hZ : ZI S) {x : Int} (hx : -2147483648 ≤ x ∧ x ≤ 2147483647) : Ctr X 6 yZ_altitude bZ_altitude 2 (some .int) [.ref 88, .int (iI (x))] (mk S) (PI (fun r S' => r = (zAlt S x).1 ∧ S' = (zAlt S x).2)) 0 0 := by
  refine Ctr.ofS (by decide) rfl (Nat.le_of_ble_eq_true rfl) (fun F h hF hE => ?_)
  obtain ⟨z0, zt, ztx, zm0, zm1, zm2, zm3, zst, ztr, zat, zsy, zth, ztg, zwr, zun, zkp, zse, zsk, zme, zmk, zl5, zl6, zl7⟩ := id hZ
  have hZS : ZS S := ⟨zm0, zst⟩
  have htp := tpZ_bd hZS
  refine go_aload_n (pc' := 1) h ⟨dZ_altitude_0, rfl⟩ rfl ?_
  refine gi_iconst (pc' := 2) h ⟨dZ_altitude_1, rfl⟩ ?_
  refine gd_putI (i := 0) (pc' := 5) h ⟨dZ_altitude_2, rfl⟩ fpZ_68 rfl (by decide) rfl rfl ?_
  rw [pt_z z0]
  refine go_iload_n (pc' := 6) h ⟨dZ_altitude_5, rfl⟩ rfl ?_
  refine gi_iconst (pc' := 7) h ⟨dZ_altitude_6, rfl⟩ ?_
  refine gi_sipush (pc' := 10) h ⟨dZ_altitude_7, rfl⟩ rfl ?_
  refine go_aload_n (pc' := 11) h ⟨dZ_altitude_10, rfl⟩ rfl ?_
  refine gd_callVI (e := tpZ S) (E := S) (pc' := 14) (As := []) (st := [.int (iI (1000)), .int (iI (0)), .int (iI (x))]) h hF ⟨dZ_altitude_11, rfl⟩ kvZ_146 (cZ_top X zm0) (by omega) rfl (by decide) ⟨_, _, rfl⟩ rfl (Nat.le_of_ble_eq_true rfl) rfl ?_
  refine gi_imul (pc' := 15) h ⟨dZ_altitude_14, rfl⟩ ?_
  refine gd_callSI (e := if 0 ≤ x ∧ x ≤ 1000 * (tpZ S) then 1 else 0) (E := S) (pc' := 18) (As := [.int (iI (x)), .int (iI (0)), .int (iI (1000 * (tpZ S)))]) (st := []) h hF ⟨dZ_altitude_15, rfl⟩ kvZ_72 (cZ_in X (by omega)) (by omega) rfl (Nat.le_of_ble_eq_true rfl) rfl ?_
  refine gi_if_eq (tgt := 29) (pc' := 21) h dZ_altitude_18 rfl rfl (by split <;> omega) (fun c18 => ?_) (fun c18 => ?_)
  · have c18 := b0 c18
    refine gi_iconst (pc' := 30) h ⟨dZ_altitude_29, rfl⟩ ?_
    exact gs_iret h hE dZ_altitude_30 (by unfold zAlt; rw [if_neg (by omega)]; exact ⟨rfl, rfl⟩)
  · have c18 := b1 c18
    refine go_aload_n (pc' := 22) h ⟨dZ_altitude_21, rfl⟩ rfl ?_
    refine go_iload_n (pc' := 23) h ⟨dZ_altitude_22, rfl⟩ rfl ?_
    refine gd_callVI (e := alZ S x) (E := S) (pc' := 26) (As := [.int (iI (x))]) (st := []) h hF ⟨dZ_altitude_23, rfl⟩ kvZ_174 (cZ_alt X hZS (by omega)) (by omega) rfl (by decide) ⟨_, _, rfl⟩ rfl (Nat.le_of_ble_eq_true rfl) rfl ?_
    refine gi_goto (tgt := 30) h dZ_altitude_26 rfl ?_
    exact gs_iret h hE dZ_altitude_30 (by unfold zAlt; rw [if_pos (by omega)]; exact ⟨rfl, rfl⟩)
def fsZ (S : Sg) : Nat → Int → Int → Int
  | 0, _, _ => 0
  | n + 1, m, r => if m < tpZ S then (if r ≤ 1000 * htZ S m then 1000 * m + (r + htZ S m - 1) / htZ S m else fsZ S n (m + 1) (r - 1000 * htZ S m)) else if r = 0 then 1000 * tpZ S else -9
def zStep (S : Sg) (x : Int) : Int × Sg := if x < 0 ∨ 9999999 < x then (-1, S) else (fsZ S 102 0 x, S)
set_option maxRecDepth 4000 in
theorem cZ_step (X : XT) {S : Sg} (hZ : ZI S) {x : Int} (hx : -2147483648 ≤ x ∧ x ≤ 2147483647) : Ctr X 6 yZ_step bZ_step 5 (some .int) [.ref 88, .int (iI (x))] (mk S) (PI (fun r S' => r = (zStep S x).1 ∧ S' = (zStep S x).2)) 0 0 := by
  refine Ctr.ofS (by decide) rfl (Nat.le_of_ble_eq_true rfl) (fun F h hF hE => ?_)
  obtain ⟨z0, zt, ztx, zm0, zm1, zm2, zm3, zst, ztr, zat, zsy, zth, ztg, zwr, zun, zkp, zse, zsk, zme, zmk, zl5, zl6, zl7⟩ := id hZ
  have hZS : ZS S := ⟨zm0, zst⟩
  have htp := tpZ_bd hZS
  have loop : ∀ (n : Nat) (j r : Int) (LL : List Value), LL.take 4 = [.ref 88, .int (iI x), .int (iI r), .int (iI j)] → 101 < j + n → 0 ≤ j → j ≤ tpZ S → 0 ≤ r ∧ r ≤ 9999999 → zStep S x = (fsZ S n j r, S) → Go F 5 (mk S) 0 0 21 LL [] := by
    intro n
    induction n with
    | zero => intro j r LL hL g4 g5 g6; exfalso; omega
    | succ n ih =>
      intro j r LL hL g4 g5 g6 g7 g8
      refine Go.cut [.ref 88, .int (iI x), .int (iI r), .int (iI j)] 4 hL ?_
      refine go_iload_n (pc' := 22) h ⟨dZ_step_21, rfl⟩ rfl ?_
      refine go_aload_n (pc' := 23) h ⟨dZ_step_22, rfl⟩ rfl ?_
      refine gd_callVI (e := tpZ S) (E := S) (pc' := 26) (As := []) (st := [.int (iI (j))]) h hF ⟨dZ_step_23, rfl⟩ kvZ_146 (cZ_top X zm0) (by omega) rfl (by decide) ⟨_, _, rfl⟩ rfl (Nat.le_of_ble_eq_true rfl) rfl ?_
      refine gi_icmp_ge (tgt := 77) (pc' := 29) h dZ_step_26 rfl rfl (by omega) (fun c26 => ?_) (fun c26 => ?_)
      · refine go_iload_n (pc' := 78) h ⟨dZ_step_77, rfl⟩ rfl ?_
        refine gi_if_ne (tgt := 92) (pc' := 81) h dZ_step_78 rfl rfl (by omega) (fun c78 => ?_) (fun c78 => ?_)
        · refine gi_bipush (pc' := 94) h ⟨dZ_step_92, rfl⟩ rfl ?_
          exact gs_iret h hE dZ_step_94 (by rw [g8, fsZ, if_neg (by omega), if_neg (by omega)]; exact ⟨rfl, rfl⟩)
        · refine gi_sipush (pc' := 84) h ⟨dZ_step_81, rfl⟩ rfl ?_
          refine go_aload_n (pc' := 85) h ⟨dZ_step_84, rfl⟩ rfl ?_
          refine gd_callVI (e := tpZ S) (E := S) (pc' := 88) (As := []) (st := [.int (iI (1000))]) h hF ⟨dZ_step_85, rfl⟩ kvZ_146 (cZ_top X zm0) (by omega) rfl (by decide) ⟨_, _, rfl⟩ rfl (Nat.le_of_ble_eq_true rfl) rfl ?_
          refine gi_imul (pc' := 89) h ⟨dZ_step_88, rfl⟩ ?_
          refine gi_goto (tgt := 94) h dZ_step_89 rfl ?_
          exact gs_iret h hE dZ_step_94 (by rw [g8, fsZ, if_neg (by omega), if_pos (by omega)]; exact ⟨rfl, rfl⟩)
      · refine go_aload_n (pc' := 30) h ⟨dZ_step_29, rfl⟩ rfl ?_
        refine go_iload_n (pc' := 31) h ⟨dZ_step_30, rfl⟩ rfl ?_
        refine gd_callVI (e := htZ S j) (E := S) (pc' := 34) (As := [.int (iI (j))]) (st := []) h hF ⟨dZ_step_31, rfl⟩ kvZ_150 (cZ_heightAt X hZS (by omega)) (by omega) rfl (by decide) ⟨_, _, rfl⟩ rfl (Nat.le_of_ble_eq_true rfl) rfl ?_
        have ht_31 := htZ_bd hZS (m := j) (by omega)
        refine go_istore (L' := [.ref 88, .int (iI (x)), .int (iI (r)), .int (iI (j)), .int (iI (htZ S j))]) (pc' := 36) h ⟨dZ_step_34, rfl⟩ (by decide) rfl rfl ?_
        refine go_iload_n (pc' := 37) h ⟨dZ_step_36, rfl⟩ rfl ?_
        refine gi_sipush (pc' := 40) h ⟨dZ_step_37, rfl⟩ rfl ?_
        refine go_iload (pc' := 42) h ⟨dZ_step_40, rfl⟩ rfl ?_
        refine gi_imul (pc' := 43) h ⟨dZ_step_42, rfl⟩ ?_
        refine gi_icmp_gt (tgt := 62) (pc' := 46) h dZ_step_43 rfl rfl (by omega) (fun c43 => ?_) (fun c43 => ?_)
        · refine go_iload_n (pc' := 63) h ⟨dZ_step_62, rfl⟩ rfl ?_
          refine gi_sipush (pc' := 66) h ⟨dZ_step_63, rfl⟩ rfl ?_
          refine go_iload (pc' := 68) h ⟨dZ_step_66, rfl⟩ rfl ?_
          refine gi_imul (pc' := 69) h ⟨dZ_step_68, rfl⟩ ?_
          refine gi_isub (pc' := 70) h ⟨dZ_step_69, rfl⟩ ?_
          refine go_istore_n (L' := [.ref 88, .int (iI (x)), .int (iI (r - (1000 * (htZ S j)))), .int (iI (j)), .int (iI (htZ S j))]) (pc' := 71) h ⟨dZ_step_70, rfl⟩ (by decide) rfl rfl ?_
          refine gi_iinc (L' := [.ref 88, .int (iI (x)), .int (iI (r - (1000 * (htZ S j)))), .int (iI (j + 1)), .int (iI (htZ S j))]) (pc' := 74) h ⟨dZ_step_71, rfl⟩ rfl (by decide) rfl rfl ?_
          refine gi_goto (tgt := 21) h dZ_step_74 rfl ?_
          exact ih (j + 1) (r - 1000 * htZ S j) _ rfl (by omega) (by omega) (by omega) (by omega) (by rw [g8, fsZ, if_pos (by omega), if_neg (by omega)])
        · refine gi_sipush (pc' := 49) h ⟨dZ_step_46, rfl⟩ rfl ?_
          refine go_iload_n (pc' := 50) h ⟨dZ_step_49, rfl⟩ rfl ?_
          refine gi_imul (pc' := 51) h ⟨dZ_step_50, rfl⟩ ?_
          refine go_iload_n (pc' := 52) h ⟨dZ_step_51, rfl⟩ rfl ?_
          refine go_iload (pc' := 54) h ⟨dZ_step_52, rfl⟩ rfl ?_
          refine gi_iadd (pc' := 55) h ⟨dZ_step_54, rfl⟩ ?_
          refine gi_iconst (pc' := 56) h ⟨dZ_step_55, rfl⟩ ?_
          refine gi_isub (pc' := 57) h ⟨dZ_step_56, rfl⟩ ?_
          refine go_iload (pc' := 59) h ⟨dZ_step_57, rfl⟩ rfl ?_
          refine gi_idiv (pc' := 60) h ⟨dZ_step_59, rfl⟩ (by omega) ?_
          refine gi_iadd (pc' := 61) h ⟨dZ_step_60, rfl⟩ ?_
          exact gs_iret h hE dZ_step_61 (by rw [g8, fsZ, if_pos (by omega), if_pos (by omega)]; exact ⟨rfl, rfl⟩)
  refine go_aload_n (pc' := 1) h ⟨dZ_step_0, rfl⟩ rfl ?_
  refine gi_iconst (pc' := 2) h ⟨dZ_step_1, rfl⟩ ?_
  refine gd_putI (i := 0) (pc' := 5) h ⟨dZ_step_2, rfl⟩ fpZ_68 rfl (by decide) rfl rfl ?_
  rw [pt_z z0]
  refine go_iload_n (pc' := 6) h ⟨dZ_step_5, rfl⟩ rfl ?_
  refine gi_iconst (pc' := 7) h ⟨dZ_step_6, rfl⟩ ?_
  refine gi_ldc (n := 9999999) (pc' := 9) h ⟨dZ_step_7, rfl⟩ csZ_177 ?_
  refine gd_callSI (e := if 0 ≤ x ∧ x ≤ 9999999 then 1 else 0) (E := S) (pc' := 12) (As := [.int (iI (x)), .int (iI (0)), .int (iI (9999999))]) (st := []) h hF ⟨dZ_step_9, rfl⟩ kvZ_72 (cZ_in X (by omega)) (by omega) rfl (Nat.le_of_ble_eq_true rfl) rfl ?_
  refine gi_if_ne (tgt := 17) (pc' := 15) h dZ_step_12 rfl rfl (by split <;> omega) (fun c12 => ?_) (fun c12 => ?_)
  · have c12 := b1 c12
    refine go_iload_n (pc' := 18) h ⟨dZ_step_17, rfl⟩ rfl ?_
    refine go_istore_n (L' := [.ref 88, .int (iI (x)), .int (iI (x))]) (pc' := 19) h ⟨dZ_step_18, rfl⟩ (by decide) rfl rfl ?_
    refine gi_iconst (pc' := 20) h ⟨dZ_step_19, rfl⟩ ?_
    refine go_istore_n (L' := [.ref 88, .int (iI (x)), .int (iI (x)), .int (iI (0))]) (pc' := 21) h ⟨dZ_step_20, rfl⟩ (by decide) rfl rfl ?_
    exact loop 102 0 x _ rfl (by omega) (by omega) (by omega) (by omega) (by unfold zStep; rw [if_neg (by omega)])
  · have c12 := b0 c12
    refine gi_iconst (pc' := 16) h ⟨dZ_step_15, rfl⟩ ?_
    exact gs_iret h hE dZ_step_16 (by unfold zStep; rw [if_pos (by omega)]; exact ⟨rfl, rfl⟩)
def zHands (S : Sg) (x r : Int) : Prop := ((x < 1 ∨ 99 < x) ∧ r = -1) ∨ ((1 ≤ x ∧ x ≤ 99) ∧ r = -9 ∧ ∀ b : Int, 2 ≤ b → b ≤ 9 → x < dbZ S b) ∨ ((1 ≤ x ∧ x ≤ 99) ∧ (2 ≤ r ∧ r ≤ 9) ∧ dbZ S r ≤ x ∧ ∀ b : Int, 2 ≤ b → b < r → x < dbZ S b)
set_option maxRecDepth 4000 in
theorem cZ_hands (X : XT) {S : Sg} (hZ : ZI S) {x : Int} (hx : -2147483648 ≤ x ∧ x ≤ 2147483647) : Ctr X 6 yZ_hands bZ_hands 4 (some .int) [.ref 88, .int (iI (x))] (mk S) (PI (fun r S' => zHands S x r ∧ S' = S)) 0 0 := by
  refine Ctr.ofS (by decide) rfl (Nat.le_of_ble_eq_true rfl) (fun F h hF hE => ?_)
  obtain ⟨z0, zt, ztx, zm0, zm1, zm2, zm3, zst, ztr, zat, zsy, zth, ztg, zwr, zun, zkp, zse, zsk, zme, zmk, zl5, zl6, zl7⟩ := id hZ
  have hZS : ZS S := ⟨zm0, zst⟩
  have htp := tpZ_bd hZS
  have loop : ∀ (n : Nat) (j c : Int), j < n → 1 ≤ j → j ≤ 9 → 1 ≤ x ∧ x ≤ 99 → ((c = -9 ∧ ∀ b : Int, j < b → b ≤ 9 → x < dbZ S b) ∨ (j < c ∧ c ≤ 9 ∧ dbZ S c ≤ x ∧ ∀ b : Int, j < b → b < c → x < dbZ S b)) → Go F 4 (mk S) 0 0 23 [.ref 88, .int (iI x), .int (iI c), .int (iI j)] [] := by
    intro n
    induction n with
    | zero => intro j c g4 g5 g6; exfalso; omega
    | succ n ih =>
      intro j c g4 g5 g6 gx g7
      refine go_iload_n (pc' := 24) h ⟨dZ_hands_23, rfl⟩ rfl ?_
      refine gi_iconst (pc' := 25) h ⟨dZ_hands_24, rfl⟩ ?_
      refine gi_icmp_lt (tgt := 49) (pc' := 28) h dZ_hands_25 rfl rfl (by omega) (fun c25 => ?_) (fun c25 => ?_)
      · refine go_iload_n (pc' := 50) h ⟨dZ_hands_49, rfl⟩ rfl ?_
        exact gs_iret h hE dZ_hands_50 (⟨g7.elim (fun g => Or.inr (Or.inl ⟨gx, g.1, fun b b1 b2 => g.2 b (by omega) b2⟩)) (fun g => Or.inr (Or.inr ⟨gx, by omega, g.2.2.1, fun b b1 b2 => g.2.2.2 b (by omega) b2⟩)), rfl⟩)
      · refine go_aload_n (pc' := 29) h ⟨dZ_hands_28, rfl⟩ rfl ?_
        refine go_iload_n (pc' := 30) h ⟨dZ_hands_29, rfl⟩ rfl ?_
        refine gd_callVI (e := dbZ S j) (E := S) (pc' := 33) (As := [.int (iI (j))]) (st := []) h hF ⟨dZ_hands_30, rfl⟩ kvZ_162 (cZ_days X hZS zm2 (by omega)) (by omega) rfl (by decide) ⟨_, _, rfl⟩ rfl (Nat.le_of_ble_eq_true rfl) rfl ?_
        have hd_30 := dbZ_bd hZS zm2 (b := j) (by omega)
        refine go_iload_n (pc' := 34) h ⟨dZ_hands_33, rfl⟩ rfl ?_
        refine gi_icmp_gt (tgt := 41) (pc' := 37) h dZ_hands_34 rfl rfl (by omega) (fun c34 => ?_) (fun c34 => ?_)
        · refine go_iload_n (pc' := 42) h ⟨dZ_hands_41, rfl⟩ rfl ?_
          refine go_istore_n (L' := [.ref 88, .int (iI (x)), .int (iI (c)), .int (iI (j))]) (pc' := 43) h ⟨dZ_hands_42, rfl⟩ (by decide) rfl rfl ?_
          refine gi_iinc (L' := [.ref 88, .int (iI (x)), .int (iI (c)), .int (iI (j + (-1)))]) (pc' := 46) h ⟨dZ_hands_43, rfl⟩ rfl (by decide) rfl rfl ?_
          refine gi_goto (tgt := 23) h dZ_hands_46 rfl ?_
          exact ih (j + (-1)) c (by omega) (by omega) (by omega) gx (g7.elim (fun g => Or.inl ⟨g.1, fun b b1 b2 => by
            by_cases hb : b = j
            · rw [hb]; omega
            · exact g.2 b (by omega) b2⟩) (fun g => Or.inr ⟨by omega, g.2.1, g.2.2.1, fun b b1 b2 => by
            by_cases hb : b = j
            · rw [hb]; omega
            · exact g.2.2.2 b (by omega) b2⟩))
        · refine go_iload_n (pc' := 38) h ⟨dZ_hands_37, rfl⟩ rfl ?_
          refine gi_goto (tgt := 42) h dZ_hands_38 rfl ?_
          refine go_istore_n (L' := [.ref 88, .int (iI (x)), .int (iI (j)), .int (iI (j))]) (pc' := 43) h ⟨dZ_hands_42, rfl⟩ (by decide) rfl rfl ?_
          refine gi_iinc (L' := [.ref 88, .int (iI (x)), .int (iI (j)), .int (iI (j + (-1)))]) (pc' := 46) h ⟨dZ_hands_43, rfl⟩ rfl (by decide) rfl rfl ?_
          refine gi_goto (tgt := 23) h dZ_hands_46 rfl ?_
          exact ih (j + (-1)) j (by omega) (by omega) (by omega) gx (Or.inr ⟨by omega, by omega, by omega, fun b b1 b2 => by omega⟩)
  refine go_aload_n (pc' := 1) h ⟨dZ_hands_0, rfl⟩ rfl ?_
  refine gi_iconst (pc' := 2) h ⟨dZ_hands_1, rfl⟩ ?_
  refine gd_putI (i := 0) (pc' := 5) h ⟨dZ_hands_2, rfl⟩ fpZ_68 rfl (by decide) rfl rfl ?_
  rw [pt_z z0]
  refine go_iload_n (pc' := 6) h ⟨dZ_hands_5, rfl⟩ rfl ?_
  refine gi_iconst (pc' := 7) h ⟨dZ_hands_6, rfl⟩ ?_
  refine gi_bipush (pc' := 9) h ⟨dZ_hands_7, rfl⟩ rfl ?_
  refine gd_callSI (e := if 1 ≤ x ∧ x ≤ 99 then 1 else 0) (E := S) (pc' := 12) (As := [.int (iI (x)), .int (iI (1)), .int (iI (99))]) (st := []) h hF ⟨dZ_hands_9, rfl⟩ kvZ_72 (cZ_in X (by omega)) (by omega) rfl (Nat.le_of_ble_eq_true rfl) rfl ?_
  refine gi_if_ne (tgt := 17) (pc' := 15) h dZ_hands_12 rfl rfl (by split <;> omega) (fun c12 => ?_) (fun c12 => ?_)
  · have c12 := b1 c12
    refine gi_bipush (pc' := 19) h ⟨dZ_hands_17, rfl⟩ rfl ?_
    refine go_istore_n (L' := [.ref 88, .int (iI (x)), .int (iI (-9))]) (pc' := 20) h ⟨dZ_hands_19, rfl⟩ (by decide) rfl rfl ?_
    refine gi_bipush (pc' := 22) h ⟨dZ_hands_20, rfl⟩ rfl ?_
    refine go_istore_n (L' := [.ref 88, .int (iI (x)), .int (iI (-9)), .int (iI (9))]) (pc' := 23) h ⟨dZ_hands_22, rfl⟩ (by decide) rfl rfl ?_
    exact loop 10 9 (-9) (by omega) (by omega) (by omega) (by omega) (Or.inl ⟨rfl, fun b b1 b2 => by omega⟩)
  · have c12 := b0 c12
    refine gi_iconst (pc' := 16) h ⟨dZ_hands_15, rfl⟩ ?_
    exact gs_iret h hE dZ_hands_16 (⟨Or.inl ⟨by omega, rfl⟩, rfl⟩)
def zSees (S : Sg) (x y : Int) : Int × Sg := if ¬ (0 ≤ x ∧ x < tpZ S) ∨ ¬ (0 ≤ y ∧ y ≤ 40) then (-1, S) else if S.1 88 22 = 6 then (-3, S) else (S.1 88 22 + 1, pt (pt (pt S 99 (S.1 88 22) x) 100 (S.1 88 22) y) 88 22 (S.1 88 22 + 1))
set_option maxRecDepth 4000 in
theorem cZ_sees (X : XT) {S : Sg} (hZ : ZI S) {x : Int} (hx : -2147483648 ≤ x ∧ x ≤ 2147483647) {y : Int} (hy : -2147483648 ≤ y ∧ y ≤ 2147483647) : Ctr X 6 yZ_sees bZ_sees 3 (some .int) [.ref 88, .int (iI (x)), .int (iI (y))] (mk S) (PI (fun r S' => r = (zSees S x y).1 ∧ S' = (zSees S x y).2)) 0 0 := by
  refine Ctr.ofS (by decide) rfl (Nat.le_of_ble_eq_true rfl) (fun F h hF hE => ?_)
  obtain ⟨z0, zt, ztx, zm0, zm1, zm2, zm3, zst, ztr, zat, zsy, zth, ztg, zwr, zun, zkp, zse, zsk, zme, zmk, zl5, zl6, zl7⟩ := id hZ
  have hZS : ZS S := ⟨zm0, zst⟩
  have htp := tpZ_bd hZS
  refine go_aload_n (pc' := 1) h ⟨dZ_sees_0, rfl⟩ rfl ?_
  refine gi_iconst (pc' := 2) h ⟨dZ_sees_1, rfl⟩ ?_
  refine gd_putI (i := 0) (pc' := 5) h ⟨dZ_sees_2, rfl⟩ fpZ_68 rfl (by decide) rfl rfl ?_
  rw [pt_z z0]
  refine go_iload_n (pc' := 6) h ⟨dZ_sees_5, rfl⟩ rfl ?_
  refine gi_iconst (pc' := 7) h ⟨dZ_sees_6, rfl⟩ ?_
  refine go_aload_n (pc' := 8) h ⟨dZ_sees_7, rfl⟩ rfl ?_
  refine gd_callVI (e := tpZ S) (E := S) (pc' := 11) (As := []) (st := [.int (iI (0)), .int (iI (x))]) h hF ⟨dZ_sees_8, rfl⟩ kvZ_146 (cZ_top X zm0) (by omega) rfl (by decide) ⟨_, _, rfl⟩ rfl (Nat.le_of_ble_eq_true rfl) rfl ?_
  refine gi_iconst (pc' := 12) h ⟨dZ_sees_11, rfl⟩ ?_
  refine gi_isub (pc' := 13) h ⟨dZ_sees_12, rfl⟩ ?_
  refine gd_callSI (e := if 0 ≤ x ∧ x ≤ (tpZ S) - 1 then 1 else 0) (E := S) (pc' := 16) (As := [.int (iI (x)), .int (iI (0)), .int (iI ((tpZ S) - 1))]) (st := []) h hF ⟨dZ_sees_13, rfl⟩ kvZ_72 (cZ_in X (by omega)) (by omega) rfl (Nat.le_of_ble_eq_true rfl) rfl ?_
  refine gi_if_eq (tgt := 29) (pc' := 19) h dZ_sees_16 rfl rfl (by split <;> omega) (fun c16 => ?_) (fun c16 => ?_)
  · have c16 := b0 c16
    refine gi_iconst (pc' := 30) h ⟨dZ_sees_29, rfl⟩ ?_
    exact gs_iret h hE dZ_sees_30 (by unfold zSees; rw [if_pos (by omega)]; exact ⟨rfl, rfl⟩)
  · have c16 := b1 c16
    refine go_iload_n (pc' := 20) h ⟨dZ_sees_19, rfl⟩ rfl ?_
    refine gi_iconst (pc' := 21) h ⟨dZ_sees_20, rfl⟩ ?_
    refine gi_bipush (pc' := 23) h ⟨dZ_sees_21, rfl⟩ rfl ?_
    refine gd_callSI (e := if 0 ≤ y ∧ y ≤ 40 then 1 else 0) (E := S) (pc' := 26) (As := [.int (iI (y)), .int (iI (0)), .int (iI (40))]) (st := []) h hF ⟨dZ_sees_23, rfl⟩ kvZ_72 (cZ_in X (by omega)) (by omega) rfl (Nat.le_of_ble_eq_true rfl) rfl ?_
    refine gi_if_ne (tgt := 31) (pc' := 29) h dZ_sees_26 rfl rfl (by split <;> omega) (fun c26 => ?_) (fun c26 => ?_)
    · have c26 := b1 c26
      refine go_aload_n (pc' := 32) h ⟨dZ_sees_31, rfl⟩ rfl ?_
      refine gs_get (v := .int (iI (S.1 88 22))) (pc' := 35) h ⟨dZ_sees_32, rfl⟩ fgZ_127 rfl (by decide) (rfl) ?_
      refine gi_bipush (pc' := 37) h ⟨dZ_sees_35, rfl⟩ rfl ?_
      refine gi_icmp_ne (tgt := 43) (pc' := 40) h dZ_sees_37 rfl rfl (by omega) (fun c37 => ?_) (fun c37 => ?_)
      · refine go_aload_n (pc' := 44) h ⟨dZ_sees_43, rfl⟩ rfl ?_
        refine gs_get (v := .ref 99) (pc' := 47) h ⟨dZ_sees_44, rfl⟩ fgZ_41 rfl (by decide) (rfl) ?_
        refine go_aload_n (pc' := 48) h ⟨dZ_sees_47, rfl⟩ rfl ?_
        refine gs_get (v := .int (iI (S.1 88 22))) (pc' := 51) h ⟨dZ_sees_48, rfl⟩ fgZ_127 rfl (by decide) (rfl) ?_
        refine go_iload_n (pc' := 52) h ⟨dZ_sees_51, rfl⟩ rfl ?_
        refine gs_iast (pc' := 53) h ⟨dZ_sees_52, rfl⟩ rfl (by have hln : (ln 99 : Int) = 6 := rfl; omega) ?_
        refine go_aload_n (pc' := 54) h ⟨dZ_sees_53, rfl⟩ rfl ?_
        refine gs_get (v := .ref 100) (pc' := 57) h ⟨dZ_sees_54, rfl⟩ fgZ_44 rfl (by decide) (rfl) ?_
        refine go_aload_n (pc' := 58) h ⟨dZ_sees_57, rfl⟩ rfl ?_
        refine gs_get (v := .int (iI (S.1 88 22))) (pc' := 61) h ⟨dZ_sees_58, rfl⟩ fgZ_127 rfl (by decide) (rfl) ?_
        refine go_iload_n (pc' := 62) h ⟨dZ_sees_61, rfl⟩ rfl ?_
        refine gs_iast (pc' := 63) h ⟨dZ_sees_62, rfl⟩ rfl (by have hln : (ln 100 : Int) = 6 := rfl; omega) ?_
        refine go_aload_n (pc' := 64) h ⟨dZ_sees_63, rfl⟩ rfl ?_
        refine go_dup (pc' := 65) h ⟨dZ_sees_64, rfl⟩ rfl ?_
        refine gs_get (v := .int (iI (S.1 88 22))) (pc' := 68) h ⟨dZ_sees_65, rfl⟩ fgZ_127 rfl (by decide) (rfl) ?_
        refine gi_iconst (pc' := 69) h ⟨dZ_sees_68, rfl⟩ ?_
        refine gi_iadd (pc' := 70) h ⟨dZ_sees_69, rfl⟩ ?_
        refine gd_putI (i := 22) (pc' := 73) h ⟨dZ_sees_70, rfl⟩ fpZ_127 rfl (by decide) rfl rfl ?_
        refine go_aload_n (pc' := 74) h ⟨dZ_sees_73, rfl⟩ rfl ?_
        refine gs_get (v := .int (iI ((S.1 88 22) + 1))) (pc' := 77) h ⟨dZ_sees_74, rfl⟩ fgZ_127 rfl (by decide) (rfl) ?_
        exact gs_iret h hE dZ_sees_77 (by unfold zSees; rw [if_neg (by omega), if_neg (by omega)]; exact ⟨rfl, rfl⟩)
      · refine gi_bipush (pc' := 42) h ⟨dZ_sees_40, rfl⟩ rfl ?_
        exact gs_iret h hE dZ_sees_42 (by unfold zSees; rw [if_neg (by omega), if_pos (by omega)]; exact ⟨rfl, rfl⟩)
    · have c26 := b0 c26
      refine gi_iconst (pc' := 30) h ⟨dZ_sees_29, rfl⟩ ?_
      exact gs_iret h hE dZ_sees_30 (by unfold zSees; rw [if_pos (by omega)]; exact ⟨rfl, rfl⟩)
def zForget (S : Sg) : Int × Sg := (S.1 88 22 + S.1 88 26, pt (pt S 88 22 0) 88 26 0)
set_option maxRecDepth 4000 in
theorem cZ_forget (X : XT) {S : Sg} (hZ : ZI S) : Ctr X 6 yZ_forget bZ_forget 2 (some .int) [.ref 88] (mk S) (PI (fun r S' => r = (zForget S).1 ∧ S' = (zForget S).2)) 0 0 := by
  refine Ctr.ofS (by decide) rfl (Nat.le_of_ble_eq_true rfl) (fun F h hF hE => ?_)
  obtain ⟨z0, zt, ztx, zm0, zm1, zm2, zm3, zst, ztr, zat, zsy, zth, ztg, zwr, zun, zkp, zse, zsk, zme, zmk, zl5, zl6, zl7⟩ := id hZ
  refine go_aload_n (pc' := 1) h ⟨dZ_forget_0, rfl⟩ rfl ?_
  refine gi_iconst (pc' := 2) h ⟨dZ_forget_1, rfl⟩ ?_
  refine gd_putI (i := 0) (pc' := 5) h ⟨dZ_forget_2, rfl⟩ fpZ_68 rfl (by decide) rfl rfl ?_
  rw [pt_z z0]
  refine go_aload_n (pc' := 6) h ⟨dZ_forget_5, rfl⟩ rfl ?_
  refine gs_get (v := .int (iI (S.1 88 22))) (pc' := 9) h ⟨dZ_forget_6, rfl⟩ fgZ_127 rfl (by decide) (rfl) ?_
  refine go_aload_n (pc' := 10) h ⟨dZ_forget_9, rfl⟩ rfl ?_
  refine gs_get (v := .int (iI (S.1 88 26))) (pc' := 13) h ⟨dZ_forget_10, rfl⟩ fgZ_130 rfl (by decide) (rfl) ?_
  refine gi_iadd (pc' := 14) h ⟨dZ_forget_13, rfl⟩ ?_
  refine go_istore_n (L' := [.ref 88, .int (iI ((S.1 88 22) + (S.1 88 26)))]) (pc' := 15) h ⟨dZ_forget_14, rfl⟩ (by decide) rfl rfl ?_
  refine go_aload_n (pc' := 16) h ⟨dZ_forget_15, rfl⟩ rfl ?_
  refine gi_iconst (pc' := 17) h ⟨dZ_forget_16, rfl⟩ ?_
  refine gd_putI (i := 22) (pc' := 20) h ⟨dZ_forget_17, rfl⟩ fpZ_127 rfl (by decide) rfl rfl ?_
  refine go_aload_n (pc' := 21) h ⟨dZ_forget_20, rfl⟩ rfl ?_
  refine gi_iconst (pc' := 22) h ⟨dZ_forget_21, rfl⟩ ?_
  refine gd_putI (i := 26) (pc' := 25) h ⟨dZ_forget_22, rfl⟩ fpZ_130 rfl (by decide) rfl rfl ?_
  refine go_iload_n (pc' := 26) h ⟨dZ_forget_25, rfl⟩ rfl ?_
  exact gs_iret h hE dZ_forget_26 (⟨rfl, rfl⟩)
def zCount (S : Sg) (x : Int) : Int × Sg := if 0 ≤ x ∧ x ≤ 3 then (S.1 90 x, S) else if x = 4 then (S.1 88 22, S) else if x = 5 then (S.1 88 26, S) else if x = 6 then (S.1 88 3, S) else (-1, S)
set_option maxRecDepth 4000 in
theorem cZ_count (X : XT) {S : Sg} (hZ : ZI S) {x : Int} (hx : -2147483648 ≤ x ∧ x ≤ 2147483647) : Ctr X 6 yZ_count bZ_count 2 (some .int) [.ref 88, .int (iI (x))] (mk S) (PI (fun r S' => r = (zCount S x).1 ∧ S' = (zCount S x).2)) 0 0 := by
  refine Ctr.ofS (by decide) rfl (Nat.le_of_ble_eq_true rfl) (fun F h hF hE => ?_)
  obtain ⟨z0, zt, ztx, zm0, zm1, zm2, zm3, zst, ztr, zat, zsy, zth, ztg, zwr, zun, zkp, zse, zsk, zme, zmk, zl5, zl6, zl7⟩ := id hZ
  refine go_aload_n (pc' := 1) h ⟨dZ_count_0, rfl⟩ rfl ?_
  refine gi_iconst (pc' := 2) h ⟨dZ_count_1, rfl⟩ ?_
  refine gd_putI (i := 0) (pc' := 5) h ⟨dZ_count_2, rfl⟩ fpZ_68 rfl (by decide) rfl rfl ?_
  rw [pt_z z0]
  refine go_iload_n (pc' := 6) h ⟨dZ_count_5, rfl⟩ rfl ?_
  refine gi_iconst (pc' := 7) h ⟨dZ_count_6, rfl⟩ ?_
  refine gi_iconst (pc' := 8) h ⟨dZ_count_7, rfl⟩ ?_
  refine gd_callSI (e := if 0 ≤ x ∧ x ≤ 3 then 1 else 0) (E := S) (pc' := 11) (As := [.int (iI (x)), .int (iI (0)), .int (iI (3))]) (st := []) h hF ⟨dZ_count_8, rfl⟩ kvZ_72 (cZ_in X (by omega)) (by omega) rfl (Nat.le_of_ble_eq_true rfl) rfl ?_
  refine gi_if_eq (tgt := 23) (pc' := 14) h dZ_count_11 rfl rfl (by split <;> omega) (fun c11 => ?_) (fun c11 => ?_)
  · have c11 := b0 c11
    refine go_iload_n (pc' := 24) h ⟨dZ_count_23, rfl⟩ rfl ?_
    refine gi_iconst (pc' := 25) h ⟨dZ_count_24, rfl⟩ ?_
    refine gi_icmp_ne (tgt := 35) (pc' := 28) h dZ_count_25 rfl rfl (by omega) (fun c25 => ?_) (fun c25 => ?_)
    · refine go_iload_n (pc' := 36) h ⟨dZ_count_35, rfl⟩ rfl ?_
      refine gi_iconst (pc' := 37) h ⟨dZ_count_36, rfl⟩ ?_
      refine gi_icmp_ne (tgt := 47) (pc' := 40) h dZ_count_37 rfl rfl (by omega) (fun c37 => ?_) (fun c37 => ?_)
      · refine go_iload_n (pc' := 48) h ⟨dZ_count_47, rfl⟩ rfl ?_
        refine gi_bipush (pc' := 50) h ⟨dZ_count_48, rfl⟩ rfl ?_
        refine gi_icmp_ne (tgt := 60) (pc' := 53) h dZ_count_50 rfl rfl (by omega) (fun c50 => ?_) (fun c50 => ?_)
        · refine gi_iconst (pc' := 61) h ⟨dZ_count_60, rfl⟩ ?_
          exact gs_iret h hE dZ_count_61 (by unfold zCount; rw [if_neg (by omega), if_neg (by omega), if_neg (by omega), if_neg (by omega)]; exact ⟨rfl, rfl⟩)
        · refine go_aload_n (pc' := 54) h ⟨dZ_count_53, rfl⟩ rfl ?_
          refine gs_get (v := .int (iI (S.1 88 3))) (pc' := 57) h ⟨dZ_count_54, rfl⟩ fgZ_76 rfl (by decide) (rfl) ?_
          refine gi_goto (tgt := 61) h dZ_count_57 rfl ?_
          exact gs_iret h hE dZ_count_61 (by unfold zCount; rw [if_neg (by omega), if_neg (by omega), if_neg (by omega), if_pos (by omega)]; exact ⟨rfl, rfl⟩)
      · refine go_aload_n (pc' := 41) h ⟨dZ_count_40, rfl⟩ rfl ?_
        refine gs_get (v := .int (iI (S.1 88 26))) (pc' := 44) h ⟨dZ_count_41, rfl⟩ fgZ_130 rfl (by decide) (rfl) ?_
        refine gi_goto (tgt := 61) h dZ_count_44 rfl ?_
        exact gs_iret h hE dZ_count_61 (by unfold zCount; rw [if_neg (by omega), if_neg (by omega), if_pos (by omega)]; exact ⟨rfl, rfl⟩)
    · refine go_aload_n (pc' := 29) h ⟨dZ_count_28, rfl⟩ rfl ?_
      refine gs_get (v := .int (iI (S.1 88 22))) (pc' := 32) h ⟨dZ_count_29, rfl⟩ fgZ_127 rfl (by decide) (rfl) ?_
      refine gi_goto (tgt := 61) h dZ_count_32 rfl ?_
      exact gs_iret h hE dZ_count_61 (by unfold zCount; rw [if_neg (by omega), if_pos (by omega)]; exact ⟨rfl, rfl⟩)
  · have c11 := b1 c11
    refine go_aload_n (pc' := 15) h ⟨dZ_count_14, rfl⟩ rfl ?_
    refine gs_get (v := .ref 90) (pc' := 18) h ⟨dZ_count_15, rfl⟩ fgZ_13 rfl (by decide) (rfl) ?_
    refine go_iload_n (pc' := 19) h ⟨dZ_count_18, rfl⟩ rfl ?_
    refine gs_iald (pc' := 20) h ⟨dZ_count_19, rfl⟩ rfl (by have hln : (ln 90 : Int) = 8 := rfl; omega) ?_
    refine gi_goto (tgt := 61) h dZ_count_20 rfl ?_
    exact gs_iret h hE dZ_count_61 (by unfold zCount; rw [if_pos (by omega)]; exact ⟨rfl, rfl⟩)
set_option maxRecDepth 4000 in
theorem cZ_trace (X : XT) {S : Sg} (hZ : ZI S) : Ctr X 0 yZ_trace bZ_trace 1 (some .long) [.ref 88] (mk S) (PL (fun r S' => r = S.2.1 88 ∧ S' = S)) 0 0 := by
  refine Ctr.ofS (by decide) rfl (Nat.le_of_ble_eq_true rfl) (fun F h hF hE => ?_)
  obtain ⟨z0, zt, ztx, zm0, zm1, zm2, zm3, zst, ztr, zat, zsy, zth, ztg, zwr, zun, zkp, zse, zsk, zme, zmk, zl5, zl6, zl7⟩ := id hZ
  refine go_aload_n (pc' := 1) h ⟨dZ_trace_0, rfl⟩ rfl ?_
  refine gi_iconst (pc' := 2) h ⟨dZ_trace_1, rfl⟩ ?_
  refine gd_putI (i := 0) (pc' := 5) h ⟨dZ_trace_2, rfl⟩ fpZ_68 rfl (by decide) rfl rfl ?_
  rw [pt_z z0]
  refine go_aload_n (pc' := 6) h ⟨dZ_trace_5, rfl⟩ rfl ?_
  refine gs_get (v := .long (S.2.1 88)) (pc' := 9) h ⟨dZ_trace_6, rfl⟩ fgZ_213 rfl (by decide) (rfl) ?_
  exact gs_lret h hE dZ_trace_9 (⟨rfl, rfl⟩)
def zMeas (S : Sg) (x y v : Int) : Int × Sg := if ¬ (0 ≤ x ∧ x ≤ S.1 90 0) ∨ ¬ (x + 1 ≤ y ∧ y ≤ S.1 90 0) ∨ ¬ (0 ≤ v ∧ v ≤ 999999) then (-1, S) else if S.1 88 26 = 6 then (-3, S) else (S.1 88 26 + 1, pt (pt (pt (pt S 101 (S.1 88 26) x) 102 (S.1 88 26) y) 103 (S.1 88 26) v) 88 26 (S.1 88 26 + 1))
set_option maxRecDepth 4000 in
theorem cZ_measures (X : XT) {S : Sg} (hZ : ZI S) {x : Int} (hx : -2147483648 ≤ x ∧ x ≤ 2147483647) {y : Int} (hy : -2147483648 ≤ y ∧ y ≤ 2147483647) {v : Int} (hv : -2147483648 ≤ v ∧ v ≤ 2147483647) : Ctr X 6 yZ_measures bZ_measures 4 (some .int) [.ref 88, .int (iI (x)), .int (iI (y)), .int (iI (v))] (mk S) (PI (fun r S' => r = (zMeas S x y v).1 ∧ S' = (zMeas S x y v).2)) 0 0 := by
  refine Ctr.ofS (by decide) rfl (Nat.le_of_ble_eq_true rfl) (fun F h hF hE => ?_)
  obtain ⟨z0, zt, ztx, zm0, zm1, zm2, zm3, zst, ztr, zat, zsy, zth, ztg, zwr, zun, zkp, zse, zsk, zme, zmk, zl5, zl6, zl7⟩ := id hZ
  refine go_aload_n (pc' := 1) h ⟨dZ_measures_0, rfl⟩ rfl ?_
  refine gi_iconst (pc' := 2) h ⟨dZ_measures_1, rfl⟩ ?_
  refine gd_putI (i := 0) (pc' := 5) h ⟨dZ_measures_2, rfl⟩ fpZ_68 rfl (by decide) rfl rfl ?_
  rw [pt_z z0]
  refine go_iload_n (pc' := 6) h ⟨dZ_measures_5, rfl⟩ rfl ?_
  refine gi_iconst (pc' := 7) h ⟨dZ_measures_6, rfl⟩ ?_
  refine go_aload_n (pc' := 8) h ⟨dZ_measures_7, rfl⟩ rfl ?_
  refine gs_get (v := .ref 90) (pc' := 11) h ⟨dZ_measures_8, rfl⟩ fgZ_13 rfl (by decide) (rfl) ?_
  refine gi_iconst (pc' := 12) h ⟨dZ_measures_11, rfl⟩ ?_
  refine gs_iald (pc' := 13) h ⟨dZ_measures_12, rfl⟩ rfl (by have hln : (ln 90 : Int) = 8 := rfl; omega) ?_
  refine gd_callSI (e := if 0 ≤ x ∧ x ≤ S.1 90 0 then 1 else 0) (E := S) (pc' := 16) (As := [.int (iI (x)), .int (iI (0)), .int (iI (S.1 90 0))]) (st := []) h hF ⟨dZ_measures_13, rfl⟩ kvZ_72 (cZ_in X (by omega)) (by omega) rfl (Nat.le_of_ble_eq_true rfl) rfl ?_
  refine gi_if_eq (tgt := 45) (pc' := 19) h dZ_measures_16 rfl rfl (by split <;> omega) (fun c16 => ?_) (fun c16 => ?_)
  · have c16 := b0 c16
    refine gi_iconst (pc' := 46) h ⟨dZ_measures_45, rfl⟩ ?_
    exact gs_iret h hE dZ_measures_46 (by unfold zMeas; rw [if_pos (by omega)]; exact ⟨rfl, rfl⟩)
  · have c16 := b1 c16
    refine go_iload_n (pc' := 20) h ⟨dZ_measures_19, rfl⟩ rfl ?_
    refine go_iload_n (pc' := 21) h ⟨dZ_measures_20, rfl⟩ rfl ?_
    refine gi_iconst (pc' := 22) h ⟨dZ_measures_21, rfl⟩ ?_
    refine gi_iadd (pc' := 23) h ⟨dZ_measures_22, rfl⟩ ?_
    refine go_aload_n (pc' := 24) h ⟨dZ_measures_23, rfl⟩ rfl ?_
    refine gs_get (v := .ref 90) (pc' := 27) h ⟨dZ_measures_24, rfl⟩ fgZ_13 rfl (by decide) (rfl) ?_
    refine gi_iconst (pc' := 28) h ⟨dZ_measures_27, rfl⟩ ?_
    refine gs_iald (pc' := 29) h ⟨dZ_measures_28, rfl⟩ rfl (by have hln : (ln 90 : Int) = 8 := rfl; omega) ?_
    refine gd_callSI (e := if x + 1 ≤ y ∧ y ≤ S.1 90 0 then 1 else 0) (E := S) (pc' := 32) (As := [.int (iI (y)), .int (iI (x + 1)), .int (iI (S.1 90 0))]) (st := []) h hF ⟨dZ_measures_29, rfl⟩ kvZ_72 (cZ_in X (by omega)) (by omega) rfl (Nat.le_of_ble_eq_true rfl) rfl ?_
    refine gi_if_eq (tgt := 45) (pc' := 35) h dZ_measures_32 rfl rfl (by split <;> omega) (fun c32 => ?_) (fun c32 => ?_)
    · have c32 := b0 c32
      refine gi_iconst (pc' := 46) h ⟨dZ_measures_45, rfl⟩ ?_
      exact gs_iret h hE dZ_measures_46 (by unfold zMeas; rw [if_pos (by omega)]; exact ⟨rfl, rfl⟩)
    · have c32 := b1 c32
      refine go_iload_n (pc' := 36) h ⟨dZ_measures_35, rfl⟩ rfl ?_
      refine gi_iconst (pc' := 37) h ⟨dZ_measures_36, rfl⟩ ?_
      refine gi_ldc (n := 999999) (pc' := 39) h ⟨dZ_measures_37, rfl⟩ csZ_187 ?_
      refine gd_callSI (e := if 0 ≤ v ∧ v ≤ 999999 then 1 else 0) (E := S) (pc' := 42) (As := [.int (iI (v)), .int (iI (0)), .int (iI (999999))]) (st := []) h hF ⟨dZ_measures_39, rfl⟩ kvZ_72 (cZ_in X (by omega)) (by omega) rfl (Nat.le_of_ble_eq_true rfl) rfl ?_
      refine gi_if_ne (tgt := 47) (pc' := 45) h dZ_measures_42 rfl rfl (by split <;> omega) (fun c42 => ?_) (fun c42 => ?_)
      · have c42 := b1 c42
        refine go_aload_n (pc' := 48) h ⟨dZ_measures_47, rfl⟩ rfl ?_
        refine gs_get (v := .int (iI (S.1 88 26))) (pc' := 51) h ⟨dZ_measures_48, rfl⟩ fgZ_130 rfl (by decide) (rfl) ?_
        refine gi_bipush (pc' := 53) h ⟨dZ_measures_51, rfl⟩ rfl ?_
        refine gi_icmp_ne (tgt := 59) (pc' := 56) h dZ_measures_53 rfl rfl (by omega) (fun c53 => ?_) (fun c53 => ?_)
        · refine go_aload_n (pc' := 60) h ⟨dZ_measures_59, rfl⟩ rfl ?_
          refine gs_get (v := .ref 101) (pc' := 63) h ⟨dZ_measures_60, rfl⟩ fgZ_47 rfl (by decide) (rfl) ?_
          refine go_aload_n (pc' := 64) h ⟨dZ_measures_63, rfl⟩ rfl ?_
          refine gs_get (v := .int (iI (S.1 88 26))) (pc' := 67) h ⟨dZ_measures_64, rfl⟩ fgZ_130 rfl (by decide) (rfl) ?_
          refine go_iload_n (pc' := 68) h ⟨dZ_measures_67, rfl⟩ rfl ?_
          refine gs_iast (pc' := 69) h ⟨dZ_measures_68, rfl⟩ rfl (by have hln : (ln 101 : Int) = 6 := rfl; omega) ?_
          refine go_aload_n (pc' := 70) h ⟨dZ_measures_69, rfl⟩ rfl ?_
          refine gs_get (v := .ref 102) (pc' := 73) h ⟨dZ_measures_70, rfl⟩ fgZ_50 rfl (by decide) (rfl) ?_
          refine go_aload_n (pc' := 74) h ⟨dZ_measures_73, rfl⟩ rfl ?_
          refine gs_get (v := .int (iI (S.1 88 26))) (pc' := 77) h ⟨dZ_measures_74, rfl⟩ fgZ_130 rfl (by decide) (rfl) ?_
          refine go_iload_n (pc' := 78) h ⟨dZ_measures_77, rfl⟩ rfl ?_
          refine gs_iast (pc' := 79) h ⟨dZ_measures_78, rfl⟩ rfl (by have hln : (ln 102 : Int) = 6 := rfl; omega) ?_
          refine go_aload_n (pc' := 80) h ⟨dZ_measures_79, rfl⟩ rfl ?_
          refine gs_get (v := .ref 103) (pc' := 83) h ⟨dZ_measures_80, rfl⟩ fgZ_53 rfl (by decide) (rfl) ?_
          refine go_aload_n (pc' := 84) h ⟨dZ_measures_83, rfl⟩ rfl ?_
          refine gs_get (v := .int (iI (S.1 88 26))) (pc' := 87) h ⟨dZ_measures_84, rfl⟩ fgZ_130 rfl (by decide) (rfl) ?_
          refine go_iload_n (pc' := 88) h ⟨dZ_measures_87, rfl⟩ rfl ?_
          refine gs_iast (pc' := 89) h ⟨dZ_measures_88, rfl⟩ rfl (by have hln : (ln 103 : Int) = 6 := rfl; omega) ?_
          refine go_aload_n (pc' := 90) h ⟨dZ_measures_89, rfl⟩ rfl ?_
          refine go_dup (pc' := 91) h ⟨dZ_measures_90, rfl⟩ rfl ?_
          refine gs_get (v := .int (iI (S.1 88 26))) (pc' := 94) h ⟨dZ_measures_91, rfl⟩ fgZ_130 rfl (by decide) (rfl) ?_
          refine gi_iconst (pc' := 95) h ⟨dZ_measures_94, rfl⟩ ?_
          refine gi_iadd (pc' := 96) h ⟨dZ_measures_95, rfl⟩ ?_
          refine gd_putI (i := 26) (pc' := 99) h ⟨dZ_measures_96, rfl⟩ fpZ_130 rfl (by decide) rfl rfl ?_
          refine go_aload_n (pc' := 100) h ⟨dZ_measures_99, rfl⟩ rfl ?_
          refine gs_get (v := .int (iI ((S.1 88 26) + 1))) (pc' := 103) h ⟨dZ_measures_100, rfl⟩ fgZ_130 rfl (by decide) (rfl) ?_
          exact gs_iret h hE dZ_measures_103 (by unfold zMeas; rw [if_neg (by omega), if_neg (by omega)]; exact ⟨rfl, rfl⟩)
        · refine gi_bipush (pc' := 58) h ⟨dZ_measures_56, rfl⟩ rfl ?_
          exact gs_iret h hE dZ_measures_58 (by unfold zMeas; rw [if_neg (by omega), if_pos (by omega)]; exact ⟨rfl, rfl⟩)
      · have c42 := b0 c42
        refine gi_iconst (pc' := 46) h ⟨dZ_measures_45, rfl⟩ ?_
        exact gs_iret h hE dZ_measures_46 (by unfold zMeas; rw [if_pos (by omega)]; exact ⟨rfl, rfl⟩)
