theorem zBeg_all {S : Sg} (hZ : ZI S) : RZ (avS (zBeg (pt (pt S 88 8 (-1)) 88 4 0))) ∧ MB (avS (zBeg (pt (pt S 88 8 (-1)) 88 4 0))) := by
  obtain ⟨z0, zt, ztx, zm0, zm1, zm2, zm3, zst, ztr, zat, zsy, zth, ztg, zwr, zun, zkp, zse, zsk, zme, zmk, zl5, zl6, zl7⟩ := id hZ
  have hT : TZ (zBeg (pt (pt S 88 8 (-1)) 88 4 0)) := ⟨zt, ztx, by show (0 : Int) ≤ 0 ∧ (0 : Int) ≤ S.1 88 3; omega, by show (-1 : Int) ≤ -1 ∧ (-1 : Int) ≤ 120; omega, zl6, zl5, zl7⟩
  refine ⟨(RZ.av hT).1, ?_⟩
  unfold MB
  rw [avS_ne _ (by decide), avS_hi _ (by omega)]
  show ((0 : Int) ≤ 0 ∧ (0 : Int) ≤ 5) ∧ ((0 : Int) ≤ 0 ∧ (0 : Int) ≤ 4) ∧ ((0 : Int) ≤ 0 ∧ (0 : Int) ≤ 3)
  omega
set_option maxRecDepth 4000 in
theorem cZ_ladder (X : XT) {S : Sg} (hZ : ZI S) : Ctr X 5 yZ_ladder bZ_ladder 3 (some .int) [.ref 88] (mk S) (PI (fun r S' => r = (zLadder S).1 ∧ S' = (zLadder S).2)) 0 0 := by
  refine Ctr.ofS (by decide) rfl (Nat.le_of_ble_eq_true rfl) (fun F h hF hE => ?_)
  obtain ⟨z0, zt, ztx, zm0, zm1, zm2, zm3, zst, ztr, zat, zsy, zth, ztg, zwr, zun, zkp, zse, zsk, zme, zmk, zl5, zl6, zl7⟩ := id hZ
  have exit : ∀ (it : Int) (U : Sg) (LL : List Value), LL.take 2 = [.ref 88, .int (iI it)] → RZ U → zRd S = (it, U) → Go F 3 (mk U) 0 0 100 LL [] := by
    intro it U LL hL hU hR
    have hf := hU.1.2.2.2.1
    refine Go.cut [.ref 88, .int (iI it)] 2 hL ?_
    refine go_aload_n (pc' := 101) h ⟨dZ_ladder_100, rfl⟩ rfl ?_
    refine gd_callVI (e := if U.1 88 8 < 0 then 1 else 0) (E := U) (pc' := 104) (As := []) (st := []) h hF ⟨dZ_ladder_101, rfl⟩ kvZ_102 (cZ_isWell X (by omega)) (by omega) rfl (by decide) ⟨_, _, rfl⟩ rfl (Nat.le_of_ble_eq_true rfl) rfl ?_
    refine gi_if_ne (tgt := 115) (pc' := 107) h dZ_ladder_104 rfl rfl (by split <;> omega) (fun c104 => ?_) (fun c104 => ?_)
    · have c104 := b1 c104
      refine go_aload_n (pc' := 116) h ⟨dZ_ladder_115, rfl⟩ rfl ?_
      refine gd_callVV (E := zSet U) (pc' := 119) (As := []) (st := []) h hF ⟨dZ_ladder_116, rfl⟩ kvZ_65 (cZ_settles X) (by omega) rfl (by decide) ⟨_, _, rfl⟩ rfl (Nat.le_of_ble_eq_true rfl) rfl ?_
      refine go_iload_n (pc' := 120) h ⟨dZ_ladder_119, rfl⟩ rfl ?_
      exact gs_iret h hE dZ_ladder_120 (by unfold zLadder; rw [hR, if_neg (by show ¬ 0 ≤ U.1 88 8; omega)]; exact ⟨rfl, rfl⟩)
    · have c104 := b0 c104
      refine gi_bipush (pc' := 109) h ⟨dZ_ladder_107, rfl⟩ rfl ?_
      refine go_aload_n (pc' := 110) h ⟨dZ_ladder_109, rfl⟩ rfl ?_
      refine gs_get (v := .int (iI (U.1 88 8))) (pc' := 113) h ⟨dZ_ladder_110, rfl⟩ fgZ_99 rfl (by decide) (rfl) ?_
      refine gi_isub (pc' := 114) h ⟨dZ_ladder_113, rfl⟩ ?_
      exact gs_iret h hE dZ_ladder_114 (by unfold zLadder; rw [hR, if_pos (by show 0 ≤ U.1 88 8; omega)]; exact ⟨rfl, rfl⟩)
  have loop : ∀ (n : Nat) (it : Int) (U : Sg) (LL : List Value), LL.take 2 = [.ref 88, .int (iI it)] → (0 ≤ U.1 88 8 ∨ U.1 88 5 = 0 ∨ 120 - U.1 88 6 < n) → RZ U → MB U → zRd S = zLoop n it U → Go F 3 (mk U) 0 0 25 LL [] := by
    intro n
    induction n with
    | zero =>
      intro it U LL hL g1 hU hM hR
      have hf := hU.1.2.2.2.1
      have hp := hU.1.2.2.2.2.1
      have ht := hU.1.2.2.2.2.2.1
      refine Go.cut [.ref 88, .int (iI it)] 2 hL ?_
      refine go_aload_n (pc' := 26) h ⟨dZ_ladder_25, rfl⟩ rfl ?_
      refine gd_callVI (e := if U.1 88 8 < 0 then 1 else 0) (E := U) (pc' := 29) (As := []) (st := []) h hF ⟨dZ_ladder_26, rfl⟩ kvZ_102 (cZ_isWell X (by omega)) (by omega) rfl (by decide) ⟨_, _, rfl⟩ rfl (Nat.le_of_ble_eq_true rfl) rfl ?_
      refine gi_if_eq (tgt := 100) (pc' := 32) h dZ_ladder_29 rfl rfl (by split <;> omega) (fun c29 => ?_) (fun c29 => ?_)
      · have c29 := b0 c29
        exact exit it U _ rfl hU (by rw [hR, zLoop])
      · have c29 := b1 c29
        refine go_aload_n (pc' := 33) h ⟨dZ_ladder_32, rfl⟩ rfl ?_
        refine gs_get (v := .int (iI (U.1 88 5))) (pc' := 36) h ⟨dZ_ladder_33, rfl⟩ fgZ_89 rfl (by decide) (rfl) ?_
        refine gi_if_eq (tgt := 100) (pc' := 39) h dZ_ladder_36 rfl rfl (by omega) (fun c36 => ?_) (fun c36 => ?_)
        · exact exit it U _ rfl hU (by rw [hR, zLoop])
        · exfalso; omega
    | succ n ih =>
      intro it U LL hL g1 hU hM hR
      have hf := hU.1.2.2.2.1
      have hp := hU.1.2.2.2.2.1
      have ht := hU.1.2.2.2.2.2.1
      have c3 : U.1 88 8 < 0 → U.1 88 5 ≠ 0 → ∀ x : Int, Go F 3 (mk (zK2 U)) 0 0 76 [.ref 88, .int (iI it), .int (iI x)] [] := by
        intro k1 k2 x
        obtain ⟨a1, a2, a3, a4, a5⟩ := zK_all hU hM k1 k2
        have hv := a3.1.1.2.2.2.2.2.1
        refine go_aload_n (pc' := 77) h ⟨dZ_ladder_76, rfl⟩ rfl ?_
        refine go_aload_n (pc' := 78) h ⟨dZ_ladder_77, rfl⟩ rfl ?_
        refine gs_get (v := .int (iI ((zK2 U).1 88 5))) (pc' := 81) h ⟨dZ_ladder_78, rfl⟩ fgZ_89 rfl (by decide) (rfl) ?_
        refine gi_iconst (pc' := 82) h ⟨dZ_ladder_81, rfl⟩ ?_
        refine gi_icmp_ne (tgt := 89) (pc' := 85) h dZ_ladder_82 rfl rfl (by omega) (fun c82 => ?_) (fun c82 => ?_)
        · refine gi_iconst (pc' := 90) h ⟨dZ_ladder_89, rfl⟩ ?_
          refine gd_callVI (e := (tkZ (zK2 U) 0).1) (E := (tkZ (zK2 U) 0).2) (pc' := 93) (As := [.int (iI (0))]) (st := []) h hF ⟨dZ_ladder_90, rfl⟩ kvZ_109 (cZ_takes X (S := zK2 U) (b := 0) (by omega) a3.1.1) (by omega) rfl (by decide) ⟨_, _, rfl⟩ rfl (Nat.le_of_ble_eq_true rfl) rfl ?_
          refine go_pop (pc' := 94) h ⟨dZ_ladder_93, rfl⟩ rfl ?_
          refine gi_iinc (L' := [.ref 88, .int (iI (it + 1)), .int (iI (x))]) (pc' := 97) h ⟨dZ_ladder_94, rfl⟩ rfl (by decide) rfl rfl ?_
          refine gi_goto (tgt := 25) h dZ_ladder_97 rfl ?_
          rw [show (tkZ (zK2 U) 0).2 = zK3 U from by unfold zK3; rw [if_neg (by omega)]]
          exact ih (it + 1) _ _ rfl (by omega) a4.1 a4.2 (by rw [hR, zLoop, if_neg (by omega)])
        · refine gi_iconst (pc' := 86) h ⟨dZ_ladder_85, rfl⟩ ?_
          refine gi_goto (tgt := 90) h dZ_ladder_86 rfl ?_
          refine gd_callVI (e := (tkZ (zK2 U) 1).1) (E := (tkZ (zK2 U) 1).2) (pc' := 93) (As := [.int (iI (1))]) (st := []) h hF ⟨dZ_ladder_90, rfl⟩ kvZ_109 (cZ_takes X (S := zK2 U) (b := 1) (by omega) a3.1.1) (by omega) rfl (by decide) ⟨_, _, rfl⟩ rfl (Nat.le_of_ble_eq_true rfl) rfl ?_
          refine go_pop (pc' := 94) h ⟨dZ_ladder_93, rfl⟩ rfl ?_
          refine gi_iinc (L' := [.ref 88, .int (iI (it + 1)), .int (iI (x))]) (pc' := 97) h ⟨dZ_ladder_94, rfl⟩ rfl (by decide) rfl rfl ?_
          refine gi_goto (tgt := 25) h dZ_ladder_97 rfl ?_
          rw [show (tkZ (zK2 U) 1).2 = zK3 U from by unfold zK3; rw [if_pos (by omega)]]
          exact ih (it + 1) _ _ rfl (by omega) a4.1 a4.2 (by rw [hR, zLoop, if_neg (by omega)])
      have c2 : U.1 88 8 < 0 → U.1 88 5 ≠ 0 → Go F 3 (mk (zK1 U).2) 0 0 63 [.ref 88, .int (iI it)] [.int (iI (zK1 U).1)] := by
        intro k1 k2
        obtain ⟨a1, a2, a3, a4, a5⟩ := zK_all hU hM k1 k2
        have hv := a1.1.1.2.2.2.1
        have hx := a1.2.2
        refine go_istore_n (L' := [.ref 88, .int (iI (it)), .int (iI ((zK1 U).1))]) (pc' := 64) h ⟨dZ_ladder_63, rfl⟩ (by decide) rfl rfl ?_
        refine go_aload_n (pc' := 65) h ⟨dZ_ladder_64, rfl⟩ rfl ?_
        refine gd_callVI (e := if ((zK1 U).2).1 88 8 < 0 then 1 else 0) (E := (zK1 U).2) (pc' := 68) (As := []) (st := []) h hF ⟨dZ_ladder_65, rfl⟩ kvZ_102 (cZ_isWell X (by omega)) (by omega) rfl (by decide) ⟨_, _, rfl⟩ rfl (Nat.le_of_ble_eq_true rfl) rfl ?_
        refine gi_if_eq (tgt := 76) (pc' := 71) h dZ_ladder_68 rfl rfl (by split <;> omega) (fun c68 => ?_) (fun c68 => ?_)
        · have c68 := b0 c68
          have h9 := c3 k1 k2 (zK1 U).1
          rw [show zK2 U = (zK1 U).2 from by unfold zK2; rw [if_neg (by omega)]] at h9
          exact h9
        · have c68 := b1 c68
          refine go_aload_n (pc' := 72) h ⟨dZ_ladder_71, rfl⟩ rfl ?_
          refine go_iload_n (pc' := 73) h ⟨dZ_ladder_72, rfl⟩ rfl ?_
          refine gd_callVV (E := zItem (zK1 U).2 (zK1 U).1) (pc' := 76) (As := [.int (iI ((zK1 U).1))]) (st := []) h hF ⟨dZ_ladder_73, rfl⟩ kvZ_123 (cZ_item X (S := (zK1 U).2) (x := (zK1 U).1) (by omega) a1.1.1 a1.2.1 (a2 (by omega)).1 (a2 (by omega)).2) (by omega) rfl (by decide) ⟨_, _, rfl⟩ rfl (Nat.le_of_ble_eq_true rfl) rfl ?_
          have h9 := c3 k1 k2 (zK1 U).1
          rw [show zK2 U = zItem (zK1 U).2 (zK1 U).1 from by unfold zK2; rw [if_pos (by omega)]] at h9
          exact h9
      refine Go.cut [.ref 88, .int (iI it)] 2 hL ?_
      refine go_aload_n (pc' := 26) h ⟨dZ_ladder_25, rfl⟩ rfl ?_
      refine gd_callVI (e := if U.1 88 8 < 0 then 1 else 0) (E := U) (pc' := 29) (As := []) (st := []) h hF ⟨dZ_ladder_26, rfl⟩ kvZ_102 (cZ_isWell X (by omega)) (by omega) rfl (by decide) ⟨_, _, rfl⟩ rfl (Nat.le_of_ble_eq_true rfl) rfl ?_
      refine gi_if_eq (tgt := 100) (pc' := 32) h dZ_ladder_29 rfl rfl (by split <;> omega) (fun c29 => ?_) (fun c29 => ?_)
      · have c29 := b0 c29
        exact exit it U _ rfl hU (by rw [hR, zLoop, if_pos (by omega)])
      · have c29 := b1 c29
        refine go_aload_n (pc' := 33) h ⟨dZ_ladder_32, rfl⟩ rfl ?_
        refine gs_get (v := .int (iI (U.1 88 5))) (pc' := 36) h ⟨dZ_ladder_33, rfl⟩ fgZ_89 rfl (by decide) (rfl) ?_
        refine gi_if_eq (tgt := 100) (pc' := 39) h dZ_ladder_36 rfl rfl (by omega) (fun c36 => ?_) (fun c36 => ?_)
        · exact exit it U _ rfl hU (by rw [hR, zLoop, if_pos (by omega)])
        · refine go_aload_n (pc' := 40) h ⟨dZ_ladder_39, rfl⟩ rfl ?_
          refine go_aload_n (pc' := 41) h ⟨dZ_ladder_40, rfl⟩ rfl ?_
          refine gs_get (v := .int (iI (U.1 88 5))) (pc' := 44) h ⟨dZ_ladder_41, rfl⟩ fgZ_89 rfl (by decide) (rfl) ?_
          refine gi_iconst (pc' := 45) h ⟨dZ_ladder_44, rfl⟩ ?_
          refine gi_icmp_ne (tgt := 59) (pc' := 48) h dZ_ladder_45 rfl rfl (by omega) (fun c45 => ?_) (fun c45 => ?_)
          · refine gi_iconst (pc' := 60) h ⟨dZ_ladder_59, rfl⟩ ?_
            refine gd_callVI (e := (tkZ U 0).1) (E := (tkZ U 0).2) (pc' := 63) (As := [.int (iI (0))]) (st := []) h hF ⟨dZ_ladder_60, rfl⟩ kvZ_109 (cZ_takes X (S := U) (b := 0) (by omega) hU.1) (by omega) rfl (by decide) ⟨_, _, rfl⟩ rfl (Nat.le_of_ble_eq_true rfl) rfl ?_
            have h9 := c2 (by omega) (by omega)
            rw [show zK1 U = tkZ U 0 from by unfold zK1; rw [if_neg (by omega)]] at h9
            exact h9
          · refine go_aload_n (pc' := 49) h ⟨dZ_ladder_48, rfl⟩ rfl ?_
            refine gd_callVI (e := if mayB U then 1 else 0) (E := U) (pc' := 52) (As := []) (st := [.ref 88]) h hF ⟨dZ_ladder_49, rfl⟩ kvZ_120 (cZ_mayBegin X hU.1 hM) (by omega) rfl (by decide) ⟨_, _, rfl⟩ rfl (Nat.le_of_ble_eq_true rfl) rfl ?_
            refine gi_if_eq (tgt := 59) (pc' := 55) h dZ_ladder_52 rfl rfl (by split <;> omega) (fun c52 => ?_) (fun c52 => ?_)
            · have c52 := b0 c52
              refine gi_iconst (pc' := 60) h ⟨dZ_ladder_59, rfl⟩ ?_
              refine gd_callVI (e := (tkZ U 0).1) (E := (tkZ U 0).2) (pc' := 63) (As := [.int (iI (0))]) (st := []) h hF ⟨dZ_ladder_60, rfl⟩ kvZ_109 (cZ_takes X (S := U) (b := 0) (by omega) hU.1) (by omega) rfl (by decide) ⟨_, _, rfl⟩ rfl (Nat.le_of_ble_eq_true rfl) rfl ?_
              have h9 := c2 (by omega) (by omega)
              rw [show zK1 U = tkZ U 0 from by unfold zK1; rw [if_neg (by omega)]] at h9
              exact h9
            · have c52 := b1 c52
              refine gi_iconst (pc' := 56) h ⟨dZ_ladder_55, rfl⟩ ?_
              refine gi_goto (tgt := 60) h dZ_ladder_56 rfl ?_
              refine gd_callVI (e := (tkZ U 1).1) (E := (tkZ U 1).2) (pc' := 63) (As := [.int (iI (1))]) (st := []) h hF ⟨dZ_ladder_60, rfl⟩ kvZ_109 (cZ_takes X (S := U) (b := 1) (by omega) hU.1) (by omega) rfl (by decide) ⟨_, _, rfl⟩ rfl (Nat.le_of_ble_eq_true rfl) rfl ?_
              have h9 := c2 (by omega) (by omega)
              rw [show zK1 U = tkZ U 1 from by unfold zK1; rw [if_pos (by omega)]] at h9
              exact h9
  refine go_aload_n (pc' := 1) h ⟨dZ_ladder_0, rfl⟩ rfl ?_
  refine gi_iconst (pc' := 2) h ⟨dZ_ladder_1, rfl⟩ ?_
  refine gd_putI (i := 0) (pc' := 5) h ⟨dZ_ladder_2, rfl⟩ fpZ_68 rfl (by decide) rfl rfl ?_
  rw [pt_z z0]
  refine go_aload_n (pc' := 6) h ⟨dZ_ladder_5, rfl⟩ rfl ?_
  refine gi_iconst (pc' := 7) h ⟨dZ_ladder_6, rfl⟩ ?_
  refine gd_putI (i := 8) (pc' := 10) h ⟨dZ_ladder_7, rfl⟩ fpZ_99 rfl (by decide) rfl rfl ?_
  refine go_aload_n (pc' := 11) h ⟨dZ_ladder_10, rfl⟩ rfl ?_
  refine gi_iconst (pc' := 12) h ⟨dZ_ladder_11, rfl⟩ ?_
  refine gd_putI (i := 4) (pc' := 15) h ⟨dZ_ladder_12, rfl⟩ fpZ_79 rfl (by decide) rfl rfl ?_
  refine go_aload_n (pc' := 16) h ⟨dZ_ladder_15, rfl⟩ rfl ?_
  refine gd_callVV (E := zBeg (pt (pt S 88 8 (-1)) 88 4 0)) (pc' := 19) (As := []) (st := []) h hF ⟨dZ_ladder_16, rfl⟩ kvZ_62 (cZ_begins X) (by omega) rfl (by decide) ⟨_, _, rfl⟩ rfl (Nat.le_of_ble_eq_true rfl) rfl ?_
  refine gi_iconst (pc' := 20) h ⟨dZ_ladder_19, rfl⟩ ?_
  refine go_istore_n (L' := [.ref 88, .int (iI (0))]) (pc' := 21) h ⟨dZ_ladder_20, rfl⟩ (by decide) rfl rfl ?_
  refine go_aload_n (pc' := 22) h ⟨dZ_ladder_21, rfl⟩ rfl ?_
  refine gd_callVV (E := avS (zBeg (pt (pt S 88 8 (-1)) 88 4 0))) (pc' := 25) (As := []) (st := []) h hF ⟨dZ_ladder_22, rfl⟩ kvZ_106 (cZ_adv X (S := zBeg (pt (pt S 88 8 (-1)) 88 4 0)) zt ztx (by show (0 : Int) ≤ 0 ∧ (0 : Int) ≤ S.1 88 3; omega)) (by omega) rfl (by decide) ⟨_, _, rfl⟩ rfl (Nat.le_of_ble_eq_true rfl) rfl ?_
  have hB := zBeg_all hZ
  exact loop 122 0 _ _ rfl (by have := hB.1.1.2.2.2.2.1; omega) hB.1 hB.2 rfl
