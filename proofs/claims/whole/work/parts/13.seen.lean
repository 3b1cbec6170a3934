theorem rempty_77 (S : Sg) : rempty S 77 = nst S (fun _ => 0) := by
  unfold rempty nst
  rw [pt_sw _ _ _ _ (by decide)]
theorem rput_77 (S : Sg) (f : Int → Int) {s : Int} (v : Int) (hs : 0 ≤ s ∧ s ≤ 40) : rput (nst S f) 77 s v = nst S (uF f s v) := by
  have hl : (ln (77 + 1) : Int) = 41 := rfl
  rw [rput_in _ (by omega), pt_aset, show (77 + 1 : Nat) = 78 from rfl, nst_78, nst_aset]
def cwF (cl we : Int → Int) (n : Nat) (rank times : Int) : Nat → Int → Int
  | 0 => dF cl we 0 (uF (fun _ => 0) 0 1) n
  | r + 1 => dF cl we ((r : Int) + 1) (aF (cwF cl we n rank times r) (if (r : Int) = rank then times else 0) (if (r : Int) = rank then times else 9) (-1)) n
def cw (S : Sg) (tr rank times : Int) : Int → Int := cwF (S.1 74) (S.1 76) (S.1 75 1).toNat rank times tr.toNat
def seenOk (S : Sg) : Prop := (0 ≤ S.1 75 1 ∧ S.1 75 1 ≤ 6) ∧ (∀ i : Int, 0 ≤ i → i < S.1 75 1 → 0 ≤ S.1 74 i ∧ S.1 74 i ≤ 100) ∧ (∀ i : Int, 0 ≤ i → i < S.1 75 1 → 0 ≤ S.1 76 i ∧ S.1 76 i ≤ 40)
theorem seenOk.nst {S : Sg} (h : seenOk S) (f : Int → Int) : seenOk (nst S f) := by
  unfold seenOk
  rw [nst_ne _ _ (by decide) (by decide), nst_ne _ _ (by decide) (by decide), nst_ne _ _ (by decide) (by decide)]
  exact h
theorem cw_nst (S : Sg) (f : Int → Int) (tr rank times : Int) : cw (nst S f) tr rank times = cw S tr rank times := by
  unfold cw
  rw [nst_ne _ _ (by decide) (by decide), nst_ne _ _ (by decide) (by decide), nst_ne _ _ (by decide) (by decide)]
set_option maxRecDepth 4000 in
theorem cN_countWays (X : XT) {S : Sg} {tr rank times : Int} (hok : seenOk S) (htr : 0 ≤ tr ∧ tr ≤ 4) (hr : -1 ≤ rank ∧ rank ≤ 4) (ht : 0 ≤ times ∧ times ≤ 9) : Ctr X 3 yN_countWays bN_countWays 6 (some .int) [.ref 72, .int (iI (tr)), .int (iI (rank)), .int (iI (times))] (mk S) (PI (fun r S' => r = sumI (cw S tr rank times) 41 ∧ S' = nst S (cw S tr rank times))) 0 0 := by
  refine Ctr.ofS (by decide) rfl (Nat.le_of_ble_eq_true rfl) (fun F h hF hE => ?_)
  obtain ⟨hz, hc, hw⟩ := id hok
  have loop : ∀ (n : Nat) (j : Nat), 5 < j + n → (j : Int) ≤ tr → Go F 6 (mk (nst S (cwF (S.1 74) (S.1 76) (S.1 75 1).toNat rank times j))) 0 0 24 [.ref 72, .int (iI tr), .int (iI rank), .int (iI times), .int (iI (j : Int))] [] := by
    intro n
    induction n with
    | zero => intro j g4 g6; exfalso; omega
    | succ n ih =>
      intro j g4 g6
      refine go_iload (pc' := 26) h ⟨dN_countWays_24, rfl⟩ rfl ?_
      refine go_iload_n (pc' := 27) h ⟨dN_countWays_26, rfl⟩ rfl ?_
      refine gi_icmp_ge (tgt := 82) (pc' := 30) h dN_countWays_27 rfl rfl (by omega) (fun c27 => ?_) (fun c27 => ?_)
      · refine go_aload_n (pc' := 83) h ⟨dN_countWays_82, rfl⟩ rfl ?_
        refine gs_get (v := .ref 77) (pc' := 86) h ⟨dN_countWays_83, rfl⟩ fgN_23 rfl (by decide) (rfl) ?_
        refine gd_callVI (e := sumI (cwF (S.1 74) (S.1 76) (S.1 75 1).toNat rank times j) 41) (E := nst S (cwF (S.1 74) (S.1 76) (S.1 75 1).toNat rank times j)) (pc' := 89) (As := []) (st := []) h hF ⟨dN_countWays_86, rfl⟩ kvN_42 (by have h0 := cR_sum X (S := nst S (cwF (S.1 74) (S.1 76) (S.1 75 1).toNat rank times j)) (k := 77) rfl; rw [show (77 + 1 : Nat) = 78 from rfl, nst_78] at h0; exact h0) (by omega) rfl (by decide) ⟨_, _, rfl⟩ rfl (Nat.le_of_ble_eq_true rfl) rfl ?_
        exact gs_iret h hE dN_countWays_89 (by unfold cw; rw [show tr.toNat = j by omega]; exact ⟨rfl, rfl⟩)
      · refine go_iload (pc' := 32) h ⟨dN_countWays_30, rfl⟩ rfl ?_
        refine go_iload_n (pc' := 33) h ⟨dN_countWays_32, rfl⟩ rfl ?_
        refine gi_icmp_ne (tgt := 40) (pc' := 36) h dN_countWays_33 rfl rfl (by omega) (fun c33 => ?_) (fun c33 => ?_)
        · refine gi_iconst (pc' := 41) h ⟨dN_countWays_40, rfl⟩ ?_
          refine go_istore (L' := [.ref 72, .int (iI (tr)), .int (iI (rank)), .int (iI (times)), .int (iI ((j : Int))), .int (iI (0))]) (pc' := 43) h ⟨dN_countWays_41, rfl⟩ (by decide) rfl rfl ?_
          refine go_aload_n (pc' := 44) h ⟨dN_countWays_43, rfl⟩ rfl ?_
          refine go_iload (pc' := 46) h ⟨dN_countWays_44, rfl⟩ rfl ?_
          refine gi_if_eq (tgt := 53) (pc' := 49) h dN_countWays_46 rfl rfl (by omega) (fun c46 => ?_) (fun c46 => ?_)
          · refine gi_iconst (pc' := 54) h ⟨dN_countWays_53, rfl⟩ ?_
            refine go_iload (pc' := 56) h ⟨dN_countWays_54, rfl⟩ rfl ?_
            refine gi_if_eq (tgt := 63) (pc' := 59) h dN_countWays_56 rfl rfl (by omega) (fun c56 => ?_) (fun c56 => ?_)
            · refine gi_bipush (pc' := 65) h ⟨dN_countWays_63, rfl⟩ rfl ?_
              refine gd_callVV (E := nst S (aF (cwF (S.1 74) (S.1 76) (S.1 75 1).toNat rank times j) 0 9 (-1))) (pc' := 68) (As := [.int (iI (0)), .int (iI (9))]) (st := []) h hF ⟨dN_countWays_65, rfl⟩ kvN_39 (cN_addGoings X (S := S) (by omega)) (by omega) rfl (by decide) ⟨_, _, rfl⟩ rfl (Nat.le_of_ble_eq_true rfl) rfl ?_
              refine go_aload_n (pc' := 69) h ⟨dN_countWays_68, rfl⟩ rfl ?_
              refine go_iload (pc' := 71) h ⟨dN_countWays_69, rfl⟩ rfl ?_
              refine gi_iconst (pc' := 72) h ⟨dN_countWays_71, rfl⟩ ?_
              refine gi_iadd (pc' := 73) h ⟨dN_countWays_72, rfl⟩ ?_
              refine gd_callVV (E := nst S (dF (S.1 74) (S.1 76) (((j : Int)) + 1) (aF (cwF (S.1 74) (S.1 76) (S.1 75 1).toNat rank times j) 0 9 (-1)) (S.1 75 1).toNat)) (pc' := 76) (As := [.int (iI (((j : Int)) + 1))]) (st := []) h hF ⟨dN_countWays_73, rfl⟩ kvN_36 (cN_drop X (S := S) (by omega) hz hc hw) (by omega) rfl (by decide) ⟨_, _, rfl⟩ rfl (Nat.le_of_ble_eq_true rfl) rfl ?_
              refine gi_iinc (L' := [.ref 72, .int (iI (tr)), .int (iI (rank)), .int (iI (times)), .int (iI ((j : Int) + 1)), .int (iI (0))]) (pc' := 79) h ⟨dN_countWays_76, rfl⟩ rfl (by decide) rfl rfl ?_
              refine gi_goto (tgt := 24) h dN_countWays_79 rfl ?_
              refine Go.cut [.ref 72, .int (iI tr), .int (iI rank), .int (iI times), .int (iI ((j : Int) + 1))] 5 rfl ?_
              have g10 := ih (j + 1) (by omega) (by omega)
              rw [cwF, if_neg (by omega), if_neg (by omega)] at g10
              exact g10
            · exact absurd c56 (by decide)
          · exact absurd c46 (by decide)
        · refine gi_iconst (pc' := 37) h ⟨dN_countWays_36, rfl⟩ ?_
          refine gi_goto (tgt := 41) h dN_countWays_37 rfl ?_
          refine go_istore (L' := [.ref 72, .int (iI (tr)), .int (iI (rank)), .int (iI (times)), .int (iI ((j : Int))), .int (iI (1))]) (pc' := 43) h ⟨dN_countWays_41, rfl⟩ (by decide) rfl rfl ?_
          refine go_aload_n (pc' := 44) h ⟨dN_countWays_43, rfl⟩ rfl ?_
          refine go_iload (pc' := 46) h ⟨dN_countWays_44, rfl⟩ rfl ?_
          refine gi_if_eq (tgt := 53) (pc' := 49) h dN_countWays_46 rfl rfl (by omega) (fun c46 => ?_) (fun c46 => ?_)
          · exact absurd c46 (by decide)
          · refine go_iload_n (pc' := 50) h ⟨dN_countWays_49, rfl⟩ rfl ?_
            refine gi_goto (tgt := 54) h dN_countWays_50 rfl ?_
            refine go_iload (pc' := 56) h ⟨dN_countWays_54, rfl⟩ rfl ?_
            refine gi_if_eq (tgt := 63) (pc' := 59) h dN_countWays_56 rfl rfl (by omega) (fun c56 => ?_) (fun c56 => ?_)
            · exact absurd c56 (by decide)
            · refine go_iload_n (pc' := 60) h ⟨dN_countWays_59, rfl⟩ rfl ?_
              refine gi_goto (tgt := 65) h dN_countWays_60 rfl ?_
              refine gd_callVV (E := nst S (aF (cwF (S.1 74) (S.1 76) (S.1 75 1).toNat rank times j) times times (-1))) (pc' := 68) (As := [.int (iI (times)), .int (iI (times))]) (st := []) h hF ⟨dN_countWays_65, rfl⟩ kvN_39 (cN_addGoings X (S := S) (by omega)) (by omega) rfl (by decide) ⟨_, _, rfl⟩ rfl (Nat.le_of_ble_eq_true rfl) rfl ?_
              refine go_aload_n (pc' := 69) h ⟨dN_countWays_68, rfl⟩ rfl ?_
              refine go_iload (pc' := 71) h ⟨dN_countWays_69, rfl⟩ rfl ?_
              refine gi_iconst (pc' := 72) h ⟨dN_countWays_71, rfl⟩ ?_
              refine gi_iadd (pc' := 73) h ⟨dN_countWays_72, rfl⟩ ?_
              refine gd_callVV (E := nst S (dF (S.1 74) (S.1 76) (((j : Int)) + 1) (aF (cwF (S.1 74) (S.1 76) (S.1 75 1).toNat rank times j) times times (-1)) (S.1 75 1).toNat)) (pc' := 76) (As := [.int (iI (((j : Int)) + 1))]) (st := []) h hF ⟨dN_countWays_73, rfl⟩ kvN_36 (cN_drop X (S := S) (by omega) hz hc hw) (by omega) rfl (by decide) ⟨_, _, rfl⟩ rfl (Nat.le_of_ble_eq_true rfl) rfl ?_
              refine gi_iinc (L' := [.ref 72, .int (iI (tr)), .int (iI (rank)), .int (iI (times)), .int (iI ((j : Int) + 1)), .int (iI (1))]) (pc' := 79) h ⟨dN_countWays_76, rfl⟩ rfl (by decide) rfl rfl ?_
              refine gi_goto (tgt := 24) h dN_countWays_79 rfl ?_
              refine Go.cut [.ref 72, .int (iI tr), .int (iI rank), .int (iI times), .int (iI ((j : Int) + 1))] 5 rfl ?_
              have g10 := ih (j + 1) (by omega) (by omega)
              rw [cwF, if_pos (by omega), if_pos (by omega)] at g10
              exact g10
  refine go_aload_n (pc' := 1) h ⟨dN_countWays_0, rfl⟩ rfl ?_
  refine gs_get (v := .ref 77) (pc' := 4) h ⟨dN_countWays_1, rfl⟩ fgN_23 rfl (by decide) (rfl) ?_
  refine gd_callVV (E := rempty S 77) (pc' := 7) (As := []) (st := []) h hF ⟨dN_countWays_4, rfl⟩ kvN_26 (cR_empty X rfl) (by omega) rfl (by decide) ⟨_, _, rfl⟩ rfl (Nat.le_of_ble_eq_true rfl) rfl ?_
  rw [rempty_77]
  refine go_aload_n (pc' := 8) h ⟨dN_countWays_7, rfl⟩ rfl ?_
  refine gs_get (v := .ref 77) (pc' := 11) h ⟨dN_countWays_8, rfl⟩ fgN_23 rfl (by decide) (rfl) ?_
  refine gi_iconst (pc' := 12) h ⟨dN_countWays_11, rfl⟩ ?_
  refine gi_iconst (pc' := 13) h ⟨dN_countWays_12, rfl⟩ ?_
  refine gd_callVV (E := rput (nst S (fun _ => 0)) 77 0 1) (pc' := 16) (As := [.int (iI (0)), .int (iI (1))]) (st := []) h hF ⟨dN_countWays_13, rfl⟩ kvN_32 (cR_put X rfl (by omega)) (by omega) rfl (by decide) ⟨_, _, rfl⟩ rfl (Nat.le_of_ble_eq_true rfl) rfl ?_
  rw [rput_77 _ _ _ (by omega)]
  refine go_aload_n (pc' := 17) h ⟨dN_countWays_16, rfl⟩ rfl ?_
  refine gi_iconst (pc' := 18) h ⟨dN_countWays_17, rfl⟩ ?_
  refine gd_callVV (E := nst S (dF (S.1 74) (S.1 76) 0 (uF (fun _ => 0) 0 1) (S.1 75 1).toNat)) (pc' := 21) (As := [.int (iI (0))]) (st := []) h hF ⟨dN_countWays_18, rfl⟩ kvN_36 (cN_drop X (S := S) (by omega) hz hc hw) (by omega) rfl (by decide) ⟨_, _, rfl⟩ rfl (Nat.le_of_ble_eq_true rfl) rfl ?_
  refine gi_iconst (pc' := 22) h ⟨dN_countWays_21, rfl⟩ ?_
  refine go_istore (L' := [.ref 72, .int (iI (tr)), .int (iI (rank)), .int (iI (times)), .int (iI (0))]) (pc' := 24) h ⟨dN_countWays_22, rfl⟩ (by decide) rfl rfl ?_
  exact loop 6 0 (by omega) (by omega)
set_option maxRecDepth 4000 in
theorem cN_fewest (X : XT) {S : Sg} {tr : Int} (hok : seenOk S) (htr : 0 ≤ tr ∧ tr ≤ 4) (hb : ∀ j : Int, 0 ≤ j → j ≤ 40 → 0 ≤ cw S tr (-1) 0 j ∧ cw S tr (-1) 0 j ≤ 2147483647) : Ctr X 4 yN_fewestGoings bN_fewestGoings 3 (some .int) [.ref 72, .int (iI (tr))] (mk S) (PI (fun r S' => S' = nst S (cw S tr (-1) 0) ∧ ((r = -9 ∧ ∀ j : Int, 0 ≤ j → j ≤ 40 → cw S tr (-1) 0 j ≤ 0) ∨ (0 ≤ r ∧ r ≤ 40 ∧ 0 < cw S tr (-1) 0 r ∧ ∀ j : Int, 0 ≤ j → j < r → cw S tr (-1) 0 j ≤ 0)))) 0 0 := by
  refine Ctr.ofS (by decide) rfl (Nat.le_of_ble_eq_true rfl) (fun F h hF hE => ?_)
  have loop : ∀ (n : Nat) (j : Int), 41 < j + n → 0 ≤ j → j ≤ 41 → (∀ i : Int, 0 ≤ i → i < j → cw S tr (-1) 0 i ≤ 0) → Go F 3 (mk (nst S (cw S tr (-1) 0))) 0 0 10 [.ref 72, .int (iI tr), .int (iI j)] [] := by
    intro n
    induction n with
    | zero => intro j g4 g5 g6; exfalso; omega
    | succ n ih =>
      intro j g4 g5 g6 g7
      refine go_iload_n (pc' := 11) h ⟨dN_fewestGoings_10, rfl⟩ rfl ?_
      refine gi_bipush (pc' := 13) h ⟨dN_fewestGoings_11, rfl⟩ rfl ?_
      refine gi_icmp_gt (tgt := 35) (pc' := 16) h dN_fewestGoings_13 rfl rfl (by omega) (fun c13 => ?_) (fun c13 => ?_)
      · refine gi_bipush (pc' := 37) h ⟨dN_fewestGoings_35, rfl⟩ rfl ?_
        exact gs_iret h hE dN_fewestGoings_37 (⟨rfl, Or.inl ⟨rfl, fun i i1 i2 => g7 i i1 (by omega)⟩⟩)
      · refine go_aload_n (pc' := 17) h ⟨dN_fewestGoings_16, rfl⟩ rfl ?_
        refine gs_get (v := .ref 77) (pc' := 20) h ⟨dN_fewestGoings_17, rfl⟩ fgN_23 rfl (by decide) (rfl) ?_
        refine go_iload_n (pc' := 21) h ⟨dN_fewestGoings_20, rfl⟩ rfl ?_
        refine gd_callVI (e := cw S tr (-1) 0 j) (E := nst S (cw S tr (-1) 0)) (pc' := 24) (As := [.int (iI (j))]) (st := []) h hF ⟨dN_fewestGoings_21, rfl⟩ kvN_50 (by have h0 := cR_ati X (S := nst S (cw S tr (-1) 0)) (k := 77) rfl (n := 41) rfl (i := j) (by omega); rw [show (77 + 1 : Nat) = 78 from rfl, nst_78] at h0; exact h0) (by omega) rfl (by decide) ⟨_, _, rfl⟩ rfl (Nat.le_of_ble_eq_true rfl) rfl ?_
        have g8 := hb j (by omega) (by omega)
        refine gi_if_le (tgt := 29) (pc' := 27) h dN_fewestGoings_24 rfl rfl (by omega) (fun c24 => ?_) (fun c24 => ?_)
        · refine gi_iinc (L' := [.ref 72, .int (iI (tr)), .int (iI (j + 1))]) (pc' := 32) h ⟨dN_fewestGoings_29, rfl⟩ rfl (by decide) rfl rfl ?_
          refine gi_goto (tgt := 10) h dN_fewestGoings_32 rfl ?_
          exact ih (j + 1) (by omega) (by omega) (by omega) (fun i i1 i2 => by
            by_cases hi : i = j
            · rw [hi]; omega
            · exact g7 i i1 (by omega))
        · refine go_iload_n (pc' := 28) h ⟨dN_fewestGoings_27, rfl⟩ rfl ?_
          exact gs_iret h hE dN_fewestGoings_28 (⟨rfl, Or.inr ⟨by omega, by omega, by omega, g7⟩⟩)
  refine go_aload_n (pc' := 1) h ⟨dN_fewestGoings_0, rfl⟩ rfl ?_
  refine go_iload_n (pc' := 2) h ⟨dN_fewestGoings_1, rfl⟩ rfl ?_
  refine gi_iconst (pc' := 3) h ⟨dN_fewestGoings_2, rfl⟩ ?_
  refine gi_iconst (pc' := 4) h ⟨dN_fewestGoings_3, rfl⟩ ?_
  refine gd_callVI (e := sumI (cw S tr (-1) 0) 41) (E := nst S (cw S tr (-1) 0)) (pc' := 7) (As := [.int (iI (tr)), .int (iI (-1)), .int (iI (0))]) (st := []) h hF ⟨dN_fewestGoings_4, rfl⟩ kvN_46 (cN_countWays X hok (by omega) (by omega) (by omega)) (by omega) rfl (by decide) ⟨_, _, rfl⟩ rfl (Nat.le_of_ble_eq_true rfl) rfl ?_
  refine go_pop (pc' := 8) h ⟨dN_fewestGoings_7, rfl⟩ rfl ?_
  refine gi_iconst (pc' := 9) h ⟨dN_fewestGoings_8, rfl⟩ ?_
  refine go_istore_n (L' := [.ref 72, .int (iI (tr)), .int (iI (0))]) (pc' := 10) h ⟨dN_fewestGoings_9, rfl⟩ (by decide) rfl rfl ?_
  exact loop 42 0 (by omega) (by omega) (by omega) (fun i i1 i2 => by omega)
def wayN (S : Sg) (tr rank t : Int) : Int := sumI (cw S tr rank t) 41
set_option maxRecDepth 4000 in
theorem cN_times (X : XT) {S : Sg} {tr rank : Int} (hok : seenOk S) (htr : 0 ≤ tr ∧ tr ≤ 4) (hr : 0 ≤ rank ∧ rank ≤ 4) (hb : ∀ q t : Int, 0 ≤ wayN S tr q t ∧ wayN S tr q t ≤ 2147483647) : Ctr X 4 yN_timesInAll bN_timesInAll 5 (some .int) [.ref 72, .int (iI (tr)), .int (iI (rank))] (mk S) (PI (fun r S' => (∃ f, S' = nst S f) ∧ ((r = -9 ∧ (wayN S tr (-1) 0 ≤ 0 ∨ ∀ t : Int, 0 ≤ t → t ≤ 9 → wayN S tr rank t ≠ wayN S tr (-1) 0)) ∨ (0 ≤ r ∧ r ≤ 9 ∧ 0 < wayN S tr (-1) 0 ∧ wayN S tr rank r = wayN S tr (-1) 0 ∧ ∀ t : Int, 0 ≤ t → t < r → wayN S tr rank t ≠ wayN S tr (-1) 0)))) 0 0 := by
  refine Ctr.ofS (by decide) rfl (Nat.le_of_ble_eq_true rfl) (fun F h hF hE => ?_)
  have hb0 := hb (-1) 0
  have loop : ∀ (n : Nat) (j : Int) (f : Int → Int), 10 < j + n → 0 ≤ j → j ≤ 10 → (∀ i : Int, 0 ≤ i → i < j → wayN S tr rank i ≠ wayN S tr (-1) 0) → Go F 5 (mk (nst S f)) 0 0 11 [.ref 72, .int (iI tr), .int (iI rank), .int (iI (wayN S tr (-1) 0)), .int (iI j)] [] := by
    intro n
    induction n with
    | zero => intro j f g4 g5 g6; exfalso; omega
    | succ n ih =>
      intro j f g4 g5 g6 g7
      have hbj := hb rank j
      refine go_iload (pc' := 13) h ⟨dN_timesInAll_11, rfl⟩ rfl ?_
      refine gi_bipush (pc' := 15) h ⟨dN_timesInAll_13, rfl⟩ rfl ?_
      refine gi_icmp_gt (tgt := 43) (pc' := 18) h dN_timesInAll_15 rfl rfl (by omega) (fun c15 => ?_) (fun c15 => ?_)
      · refine gi_bipush (pc' := 45) h ⟨dN_timesInAll_43, rfl⟩ rfl ?_
        exact gs_iret h hE dN_timesInAll_45 (⟨⟨_, rfl⟩, Or.inl ⟨rfl, Or.inr (fun i i1 i2 => g7 i i1 (by omega))⟩⟩)
      · refine go_iload_n (pc' := 19) h ⟨dN_timesInAll_18, rfl⟩ rfl ?_
        refine gi_if_le (tgt := 43) (pc' := 22) h dN_timesInAll_19 rfl rfl (by omega) (fun c19 => ?_) (fun c19 => ?_)
        · refine gi_bipush (pc' := 45) h ⟨dN_timesInAll_43, rfl⟩ rfl ?_
          exact gs_iret h hE dN_timesInAll_45 (⟨⟨_, rfl⟩, Or.inl ⟨rfl, Or.inl (by omega)⟩⟩)
        · refine go_aload_n (pc' := 23) h ⟨dN_timesInAll_22, rfl⟩ rfl ?_
          refine go_iload_n (pc' := 24) h ⟨dN_timesInAll_23, rfl⟩ rfl ?_
          refine go_iload_n (pc' := 25) h ⟨dN_timesInAll_24, rfl⟩ rfl ?_
          refine go_iload (pc' := 27) h ⟨dN_timesInAll_25, rfl⟩ rfl ?_
          refine gd_callVI (e := wayN S tr rank j) (E := nst S (cw S tr rank j)) (pc' := 30) (As := [.int (iI (tr)), .int (iI (rank)), .int (iI (j))]) (st := []) h hF ⟨dN_timesInAll_27, rfl⟩ kvN_46 (by have h0 := cN_countWays X (tr := tr) (rank := rank) (times := j) (hok.nst f) (by omega) (by omega) (by omega); rw [cw_nst, nst_nst] at h0; exact h0) (by omega) rfl (by decide) ⟨_, _, rfl⟩ rfl (Nat.le_of_ble_eq_true rfl) rfl ?_
          refine go_iload_n (pc' := 31) h ⟨dN_timesInAll_30, rfl⟩ rfl ?_
          refine gi_icmp_ne (tgt := 37) (pc' := 34) h dN_timesInAll_31 rfl rfl (by omega) (fun c31 => ?_) (fun c31 => ?_)
          · refine gi_iinc (L' := [.ref 72, .int (iI (tr)), .int (iI (rank)), .int (iI (wayN S tr (-1) 0)), .int (iI (j + 1))]) (pc' := 40) h ⟨dN_timesInAll_37, rfl⟩ rfl (by decide) rfl rfl ?_
            refine gi_goto (tgt := 11) h dN_timesInAll_40 rfl ?_
            exact ih (j + 1) _ (by omega) (by omega) (by omega) (fun i i1 i2 => by
              by_cases hi : i = j
              · rw [hi]; assumption
              · exact g7 i i1 (by omega))
          · refine go_iload (pc' := 36) h ⟨dN_timesInAll_34, rfl⟩ rfl ?_
            exact gs_iret h hE dN_timesInAll_36 (⟨⟨_, rfl⟩, Or.inr ⟨by omega, by omega, by omega, by omega, g7⟩⟩)
  refine go_aload_n (pc' := 1) h ⟨dN_timesInAll_0, rfl⟩ rfl ?_
  refine go_iload_n (pc' := 2) h ⟨dN_timesInAll_1, rfl⟩ rfl ?_
  refine gi_iconst (pc' := 3) h ⟨dN_timesInAll_2, rfl⟩ ?_
  refine gi_iconst (pc' := 4) h ⟨dN_timesInAll_3, rfl⟩ ?_
  refine gd_callVI (e := wayN S tr (-1) 0) (E := nst S (cw S tr (-1) 0)) (pc' := 7) (As := [.int (iI (tr)), .int (iI (-1)), .int (iI (0))]) (st := []) h hF ⟨dN_timesInAll_4, rfl⟩ kvN_46 (cN_countWays X hok (by omega) (by omega) (by omega)) (by omega) rfl (by decide) ⟨_, _, rfl⟩ rfl (Nat.le_of_ble_eq_true rfl) rfl ?_
  refine go_istore_n (L' := [.ref 72, .int (iI (tr)), .int (iI (rank)), .int (iI (wayN S tr (-1) 0))]) (pc' := 8) h ⟨dN_timesInAll_7, rfl⟩ (by decide) rfl rfl ?_
  refine gi_iconst (pc' := 9) h ⟨dN_timesInAll_8, rfl⟩ ?_
  refine go_istore (L' := [.ref 72, .int (iI (tr)), .int (iI (rank)), .int (iI (wayN S tr (-1) 0)), .int (iI (0))]) (pc' := 11) h ⟨dN_timesInAll_9, rfl⟩ (by decide) rfl rfl ?_
  exact loop 11 0 _ (by omega) (by omega) (by omega) (fun i i1 i2 => by omega)
/-! numbers by themselves -/
def dvU (w q : Int) : Int := if q < 1 then 0 else (w + q - 1) / q
def bitI (a k : Int) : Int := a / 2 ^ k.toNat % 2
def onesI (a : Int) : Int := sumI (bitI a) 6
def gcF : Nat → Int → Int → Int
  | 0, f, _ => f
  | n + 1, f, r => if r = 0 then f else gcF n r (f % r)
theorem shl_1 : ∀ k : Nat, k < 5 → iI 1 <<< (iI (k : Int) &&& 31) = iI (2 ^ k) := by decide +kernel
theorem shl1 {k : Int} (h : 0 ≤ k ∧ k ≤ 4) : iI 1 <<< (iI k &&& 31) = iI (2 ^ k.toNat) := by
  have := shl_1 k.toNat (by omega)
  rwa [Int.toNat_of_nonneg h.1] at this
theorem and_1 : ∀ a : Nat, a < 16 → ∀ k : Nat, k < 4 → iI (a : Int) &&& iI (2 ^ k) = iI (bitI (a : Int) (k : Int) * 2 ^ k) := by decide +kernel
theorem and1 {a k : Int} (ha : 0 ≤ a ∧ a ≤ 15) (hk : 0 ≤ k ∧ k ≤ 3) : iI a &&& iI (2 ^ k.toNat) = iI (bitI a k * 2 ^ k.toNat) := by
  have := and_1 a.toNat (by omega) k.toNat (by omega)
  rwa [Int.toNat_of_nonneg ha.1, Int.toNat_of_nonneg hk.1] at this
theorem or_1 : ∀ a : Nat, a < 16 → ∀ k : Nat, k < 4 → bitI (a : Int) (k : Int) = 0 → iI (a : Int) ||| iI (2 ^ k) = iI ((a : Int) + 2 ^ k) ∧ (a : Int) + 2 ^ k ≤ 15 := by decide +kernel
theorem or1 {a k : Int} (ha : 0 ≤ a ∧ a ≤ 15) (hk : 0 ≤ k ∧ k ≤ 3) (h : bitI a k = 0) : iI a ||| iI (2 ^ k.toNat) = iI (a + 2 ^ k.toNat) ∧ a + 2 ^ k.toNat ≤ 15 := by
  have := or_1 a.toNat (by omega) k.toNat (by omega)
  rw [Int.toNat_of_nonneg ha.1, Int.toNat_of_nonneg hk.1] at this
  exact this h
theorem pow2_le : ∀ k : Nat, k < 5 → (1 : Int) ≤ 2 ^ k ∧ (2 : Int) ^ k ≤ 16 := by decide +kernel
theorem pow2le {k : Int} (h : 0 ≤ k ∧ k ≤ 4) : (1 : Int) ≤ 2 ^ k.toNat ∧ (2 : Int) ^ k.toNat ≤ 16 := pow2_le k.toNat (by omega)
theorem bitI_01 (a k : Int) : bitI a k = 0 ∨ bitI a k = 1 := by unfold bitI; omega
set_option maxRecDepth 4000 in
theorem cX_divideUp (X : XT) {S : Sg} {a q : Int} (ha : 0 ≤ a ∧ a ≤ 1000000000) (hq : -1000 ≤ q ∧ q ≤ 1000) : Ctr X 0 yX_divideUp bX_divideUp 2 (some .int) [.int (iI (a)), .int (iI (q))] (mk S) (PI (fun r S' => r = dvU a q ∧ S' = S)) 0 0 := by
  refine Ctr.ofS (by decide) rfl (Nat.le_of_ble_eq_true rfl) (fun F h hF hE => ?_)
  refine go_iload_n (pc' := 1) h ⟨dX_divideUp_0, rfl⟩ rfl ?_
  refine gi_iconst (pc' := 2) h ⟨dX_divideUp_1, rfl⟩ ?_
  refine gi_icmp_ge (tgt := 9) (pc' := 5) h dX_divideUp_2 rfl rfl (by omega) (fun c2 => ?_) (fun c2 => ?_)
  · refine go_iload_n (pc' := 10) h ⟨dX_divideUp_9, rfl⟩ rfl ?_
    refine go_iload_n (pc' := 11) h ⟨dX_divideUp_10, rfl⟩ rfl ?_
    refine gi_iadd (pc' := 12) h ⟨dX_divideUp_11, rfl⟩ ?_
    refine gi_iconst (pc' := 13) h ⟨dX_divideUp_12, rfl⟩ ?_
    refine gi_isub (pc' := 14) h ⟨dX_divideUp_13, rfl⟩ ?_
    refine go_iload_n (pc' := 15) h ⟨dX_divideUp_14, rfl⟩ rfl ?_
    refine gi_idiv (pc' := 16) h ⟨dX_divideUp_15, rfl⟩ (by omega) ?_
    exact gs_iret h hE dX_divideUp_16 (by unfold dvU; rw [if_neg (by omega)]; exact ⟨rfl, rfl⟩)
  · refine gi_iconst (pc' := 6) h ⟨dX_divideUp_5, rfl⟩ ?_
    refine gi_goto (tgt := 16) h dX_divideUp_6 rfl ?_
    exact gs_iret h hE dX_divideUp_16 (by unfold dvU; rw [if_pos (by omega)]; exact ⟨rfl, rfl⟩)
set_option maxRecDepth 4000 in
theorem cX_power (X : XT) {S : Sg} {b e : Int} (he : -100 ≤ e ∧ e ≤ 100) : Ctr X 0 yX_power bX_power 4 (some .int) [.int (iI (b)), .int (iI (e))] (mk S) (PI (fun r S' => r = b ^ e.toNat ∧ S' = S)) 0 0 := by
  refine Ctr.ofS (by decide) rfl (Nat.le_of_ble_eq_true rfl) (fun F h hF hE => ?_)
  have loop : ∀ (n : Nat) (j : Nat), 101 < j + n → (j : Int) ≤ max e 0 → Go F 4 (mk S) 0 0 4 [.int (iI b), .int (iI e), .int (iI (b ^ j)), .int (iI (j : Int))] [] := by
    intro n
    induction n with
    | zero => intro j g4 g6; exfalso; omega
    | succ n ih =>
      intro j g4 g6
      refine go_iload_n (pc' := 5) h ⟨dX_power_4, rfl⟩ rfl ?_
      refine go_iload_n (pc' := 6) h ⟨dX_power_5, rfl⟩ rfl ?_
      refine gi_icmp_ge (tgt := 19) (pc' := 9) h dX_power_6 rfl rfl (by omega) (fun c6 => ?_) (fun c6 => ?_)
      · refine go_iload_n (pc' := 20) h ⟨dX_power_19, rfl⟩ rfl ?_
        exact gs_iret h hE dX_power_20 (⟨by rw [show e.toNat = j by omega], rfl⟩)
      · refine go_iload_n (pc' := 10) h ⟨dX_power_9, rfl⟩ rfl ?_
        refine go_iload_n (pc' := 11) h ⟨dX_power_10, rfl⟩ rfl ?_
        refine gi_imul (pc' := 12) h ⟨dX_power_11, rfl⟩ ?_
        refine go_istore_n (L' := [.int (iI (b)), .int (iI (e)), .int (iI ((b ^ j) * b)), .int (iI ((j : Int)))]) (pc' := 13) h ⟨dX_power_12, rfl⟩ (by decide) rfl rfl ?_
        refine gi_iinc (L' := [.int (iI (b)), .int (iI (e)), .int (iI ((b ^ j) * b)), .int (iI ((j : Int) + 1))]) (pc' := 16) h ⟨dX_power_13, rfl⟩ rfl (by decide) rfl rfl ?_
        refine gi_goto (tgt := 4) h dX_power_16 rfl ?_
        have g7 := ih (j + 1) (by omega) (by omega)
        rw [Int.pow_succ] at g7
        exact g7
  refine gi_iconst (pc' := 1) h ⟨dX_power_0, rfl⟩ ?_
  refine go_istore_n (L' := [.int (iI (b)), .int (iI (e)), .int (iI (1))]) (pc' := 2) h ⟨dX_power_1, rfl⟩ (by decide) rfl rfl ?_
  refine gi_iconst (pc' := 3) h ⟨dX_power_2, rfl⟩ ?_
  refine go_istore_n (L' := [.int (iI (b)), .int (iI (e)), .int (iI (1)), .int (iI (0))]) (pc' := 4) h ⟨dX_power_3, rfl⟩ (by decide) rfl rfl ?_
  have h0 := loop 102 0 (by omega) (by omega)
  rw [Int.pow_zero] at h0
  exact h0
set_option maxRecDepth 4000 in
theorem cX_gcd (X : XT) {S : Sg} {a b : Int} (ha : 0 ≤ a ∧ a ≤ 1000000000) (hb : 0 ≤ b ∧ b ≤ 1000000000) : Ctr X 0 yX_commonFactor bX_commonFactor 6 (some .int) [.int (iI (a)), .int (iI (b))] (mk S) (PI (fun r S' => r = gcF 64 a b ∧ S' = S)) 0 0 := by
  refine Ctr.ofS (by decide) rfl (Nat.le_of_ble_eq_true rfl) (fun F h hF hE => ?_)
  have loop : ∀ (n : Nat) (j f r : Int), j + n = 64 → 0 ≤ j → 0 ≤ f ∧ f ≤ 1000000000 → 0 ≤ r ∧ r ≤ 1000000000 → gcF 64 a b = gcF n f r → Go F 6 (mk S) 0 0 7 [.int (iI a), .int (iI b), .int (iI f), .int (iI r), .int (iI j)] [] := by
    intro n
    induction n with
    | zero =>
      intro j f r g1 g2 g3 g4 g5
      refine go_iload (pc' := 9) h ⟨dX_commonFactor_7, rfl⟩ rfl ?_
      refine gi_bipush (pc' := 11) h ⟨dX_commonFactor_9, rfl⟩ rfl ?_
      refine gi_icmp_ge (tgt := 34) (pc' := 14) h dX_commonFactor_11 rfl rfl (by omega) (fun c11 => ?_) (fun c11 => ?_)
      · refine go_iload_n (pc' := 35) h ⟨dX_commonFactor_34, rfl⟩ rfl ?_
        exact gs_iret h hE dX_commonFactor_35 (⟨by rw [g5]; rfl, rfl⟩)
      · exfalso; omega
    | succ n ih =>
      intro j f r g1 g2 g3 g4 g5
      refine go_iload (pc' := 9) h ⟨dX_commonFactor_7, rfl⟩ rfl ?_
      refine gi_bipush (pc' := 11) h ⟨dX_commonFactor_9, rfl⟩ rfl ?_
      refine gi_icmp_ge (tgt := 34) (pc' := 14) h dX_commonFactor_11 rfl rfl (by omega) (fun c11 => ?_) (fun c11 => ?_)
      · refine go_iload_n (pc' := 35) h ⟨dX_commonFactor_34, rfl⟩ rfl ?_
        exact gs_iret h hE dX_commonFactor_35 (⟨by omega, rfl⟩)
      · refine go_iload_n (pc' := 15) h ⟨dX_commonFactor_14, rfl⟩ rfl ?_
        refine gi_if_eq (tgt := 34) (pc' := 18) h dX_commonFactor_15 rfl rfl (by omega) (fun c15 => ?_) (fun c15 => ?_)
        · refine go_iload_n (pc' := 35) h ⟨dX_commonFactor_34, rfl⟩ rfl ?_
          exact gs_iret h hE dX_commonFactor_35 (⟨by rw [g5, gcF, if_pos (by omega)], rfl⟩)
        · refine go_iload_n (pc' := 19) h ⟨dX_commonFactor_18, rfl⟩ rfl ?_
          refine go_iload_n (pc' := 20) h ⟨dX_commonFactor_19, rfl⟩ rfl ?_
          refine gi_irem (pc' := 21) h ⟨dX_commonFactor_20, rfl⟩ (by omega) ?_
          refine go_istore (L' := [.int (iI (a)), .int (iI (b)), .int (iI (f)), .int (iI (r)), .int (iI (j)), .int (iI (f % r))]) (pc' := 23) h ⟨dX_commonFactor_21, rfl⟩ (by decide) rfl rfl ?_
          refine go_iload_n (pc' := 24) h ⟨dX_commonFactor_23, rfl⟩ rfl ?_
          refine go_istore_n (L' := [.int (iI (a)), .int (iI (b)), .int (iI (r)), .int (iI (r)), .int (iI (j)), .int (iI (f % r))]) (pc' := 25) h ⟨dX_commonFactor_24, rfl⟩ (by decide) rfl rfl ?_
          refine go_iload (pc' := 27) h ⟨dX_commonFactor_25, rfl⟩ rfl ?_
          refine go_istore_n (L' := [.int (iI (a)), .int (iI (b)), .int (iI (r)), .int (iI (f % r)), .int (iI (j)), .int (iI (f % r))]) (pc' := 28) h ⟨dX_commonFactor_27, rfl⟩ (by decide) rfl rfl ?_
          refine gi_iinc (L' := [.int (iI (a)), .int (iI (b)), .int (iI (r)), .int (iI (f % r)), .int (iI (j + 1)), .int (iI (f % r))]) (pc' := 31) h ⟨dX_commonFactor_28, rfl⟩ rfl (by decide) rfl rfl ?_
          refine gi_goto (tgt := 7) h dX_commonFactor_31 rfl ?_
          refine Go.cut [.int (iI a), .int (iI b), .int (iI r), .int (iI (f % r)), .int (iI (j + 1))] 5 rfl ?_
          have g6 : 0 ≤ f % r := Int.emod_nonneg _ (by omega)
          have g7 : f % r < r := Int.emod_lt_of_pos _ (by omega)
          exact ih (j + 1) r (f % r) (by omega) (by omega) (by omega) (by omega) (by rw [g5, gcF, if_neg (by omega)])
  refine go_iload_n (pc' := 1) h ⟨dX_commonFactor_0, rfl⟩ rfl ?_
  refine go_istore_n (L' := [.int (iI (a)), .int (iI (b)), .int (iI (a))]) (pc' := 2) h ⟨dX_commonFactor_1, rfl⟩ (by decide) rfl rfl ?_
  refine go_iload_n (pc' := 3) h ⟨dX_commonFactor_2, rfl⟩ rfl ?_
  refine go_istore_n (L' := [.int (iI (a)), .int (iI (b)), .int (iI (a)), .int (iI (b))]) (pc' := 4) h ⟨dX_commonFactor_3, rfl⟩ (by decide) rfl rfl ?_
  refine gi_iconst (pc' := 5) h ⟨dX_commonFactor_4, rfl⟩ ?_
  refine go_istore (L' := [.int (iI (a)), .int (iI (b)), .int (iI (a)), .int (iI (b)), .int (iI (0))]) (pc' := 7) h ⟨dX_commonFactor_5, rfl⟩ (by decide) rfl rfl ?_
  exact loop 64 0 a b (by omega) (by omega) ha hb rfl
set_option maxRecDepth 4000 in
theorem cJ_bitCount (X : XT) {S : Sg} {a : Int} (ha : 0 ≤ a ∧ a ≤ 15) : Ctr X 0 yJ_bitCount bJ_bitCount 1 (some .int) [.int (iI (a))] (mk S) (PI (fun r S' => r = onesI a ∧ S' = S)) 0 0 := by
  refine Ctr.ofSF (by decide +kernel) rfl (Nat.le_of_ble_eq_true rfl) (fun F h hF hE => ?_)
  refine go_iload_n (pc' := 1) h ⟨dJ_bitCount_0, rfl⟩ rfl ?_
  refine go_iload_n (pc' := 2) h ⟨dJ_bitCount_1, rfl⟩ rfl ?_
  refine gi_iconst (pc' := 3) h ⟨dJ_bitCount_2, rfl⟩ ?_
  refine go_iushr (pc' := 4) h ⟨dJ_bitCount_3, rfl⟩ rfl ?_
  refine go_ldc_w (pc' := 7) h ⟨dJ_bitCount_4, rfl⟩ csJ_265 ?_
  refine go_iand (pc' := 8) h ⟨dJ_bitCount_7, rfl⟩ ?_
  refine go_isub (pc' := 9) h ⟨dJ_bitCount_8, rfl⟩ ?_
  refine go_istore_n (L' := [.int ((iI (a)) - (((Int32.toUInt32 (iI (a)) >>> (Int32.toUInt32 (iI (1)) &&& Int32.toUInt32 31)).toInt32) &&& (iI (1431655765))))]) (pc' := 10) h ⟨dJ_bitCount_9, rfl⟩ (by decide) rfl rfl ?_
  refine go_iload_n (pc' := 11) h ⟨dJ_bitCount_10, rfl⟩ rfl ?_
  refine go_ldc_w (pc' := 14) h ⟨dJ_bitCount_11, rfl⟩ csJ_266 ?_
  refine go_iand (pc' := 15) h ⟨dJ_bitCount_14, rfl⟩ ?_
  refine go_iload_n (pc' := 16) h ⟨dJ_bitCount_15, rfl⟩ rfl ?_
  refine gi_iconst (pc' := 17) h ⟨dJ_bitCount_16, rfl⟩ ?_
  refine go_iushr (pc' := 18) h ⟨dJ_bitCount_17, rfl⟩ rfl ?_
  refine go_ldc_w (pc' := 21) h ⟨dJ_bitCount_18, rfl⟩ csJ_266 ?_
  refine go_iand (pc' := 22) h ⟨dJ_bitCount_21, rfl⟩ ?_
  refine go_iadd (pc' := 23) h ⟨dJ_bitCount_22, rfl⟩ ?_
  refine go_istore_n (L' := [.int ((((iI (a)) - (((Int32.toUInt32 (iI (a)) >>> (Int32.toUInt32 (iI (1)) &&& Int32.toUInt32 31)).toInt32) &&& (iI (1431655765)))) &&& (iI (858993459))) + (((Int32.toUInt32 ((iI (a)) - (((Int32.toUInt32 (iI (a)) >>> (Int32.toUInt32 (iI (1)) &&& Int32.toUInt32 31)).toInt32) &&& (iI (1431655765)))) >>> (Int32.toUInt32 (iI (2)) &&& Int32.toUInt32 31)).toInt32) &&& (iI (858993459))))]) (pc' := 24) h ⟨dJ_bitCount_23, rfl⟩ (by decide) rfl rfl ?_
  refine go_iload_n (pc' := 25) h ⟨dJ_bitCount_24, rfl⟩ rfl ?_
  refine go_iload_n (pc' := 26) h ⟨dJ_bitCount_25, rfl⟩ rfl ?_
  refine gi_iconst (pc' := 27) h ⟨dJ_bitCount_26, rfl⟩ ?_
  refine go_iushr (pc' := 28) h ⟨dJ_bitCount_27, rfl⟩ rfl ?_
  refine go_iadd (pc' := 29) h ⟨dJ_bitCount_28, rfl⟩ ?_
  refine go_ldc_w (pc' := 32) h ⟨dJ_bitCount_29, rfl⟩ csJ_267 ?_
  refine go_iand (pc' := 33) h ⟨dJ_bitCount_32, rfl⟩ ?_
  refine go_istore_n (L' := [.int ((((((iI (a)) - (((Int32.toUInt32 (iI (a)) >>> (Int32.toUInt32 (iI (1)) &&& Int32.toUInt32 31)).toInt32) &&& (iI (1431655765)))) &&& (iI (858993459))) + (((Int32.toUInt32 ((iI (a)) - (((Int32.toUInt32 (iI (a)) >>> (Int32.toUInt32 (iI (1)) &&& Int32.toUInt32 31)).toInt32) &&& (iI (1431655765)))) >>> (Int32.toUInt32 (iI (2)) &&& Int32.toUInt32 31)).toInt32) &&& (iI (858993459)))) + ((Int32.toUInt32 ((((iI (a)) - (((Int32.toUInt32 (iI (a)) >>> (Int32.toUInt32 (iI (1)) &&& Int32.toUInt32 31)).toInt32) &&& (iI (1431655765)))) &&& (iI (858993459))) + (((Int32.toUInt32 ((iI (a)) - (((Int32.toUInt32 (iI (a)) >>> (Int32.toUInt32 (iI (1)) &&& Int32.toUInt32 31)).toInt32) &&& (iI (1431655765)))) >>> (Int32.toUInt32 (iI (2)) &&& Int32.toUInt32 31)).toInt32) &&& (iI (858993459)))) >>> (Int32.toUInt32 (iI (4)) &&& Int32.toUInt32 31)).toInt32)) &&& (iI (252645135)))]) (pc' := 34) h ⟨dJ_bitCount_33, rfl⟩ (by decide) rfl rfl ?_
  refine go_iload_n (pc' := 35) h ⟨dJ_bitCount_34, rfl⟩ rfl ?_
  refine go_iload_n (pc' := 36) h ⟨dJ_bitCount_35, rfl⟩ rfl ?_
  refine gi_bipush (pc' := 38) h ⟨dJ_bitCount_36, rfl⟩ rfl ?_
  refine go_iushr (pc' := 39) h ⟨dJ_bitCount_38, rfl⟩ rfl ?_
  refine go_iadd (pc' := 40) h ⟨dJ_bitCount_39, rfl⟩ ?_
  refine go_istore_n (L' := [.int (((((((iI (a)) - (((Int32.toUInt32 (iI (a)) >>> (Int32.toUInt32 (iI (1)) &&& Int32.toUInt32 31)).toInt32) &&& (iI (1431655765)))) &&& (iI (858993459))) + (((Int32.toUInt32 ((iI (a)) - (((Int32.toUInt32 (iI (a)) >>> (Int32.toUInt32 (iI (1)) &&& Int32.toUInt32 31)).toInt32) &&& (iI (1431655765)))) >>> (Int32.toUInt32 (iI (2)) &&& Int32.toUInt32 31)).toInt32) &&& (iI (858993459)))) + ((Int32.toUInt32 ((((iI (a)) - (((Int32.toUInt32 (iI (a)) >>> (Int32.toUInt32 (iI (1)) &&& Int32.toUInt32 31)).toInt32) &&& (iI (1431655765)))) &&& (iI (858993459))) + (((Int32.toUInt32 ((iI (a)) - (((Int32.toUInt32 (iI (a)) >>> (Int32.toUInt32 (iI (1)) &&& Int32.toUInt32 31)).toInt32) &&& (iI (1431655765)))) >>> (Int32.toUInt32 (iI (2)) &&& Int32.toUInt32 31)).toInt32) &&& (iI (858993459)))) >>> (Int32.toUInt32 (iI (4)) &&& Int32.toUInt32 31)).toInt32)) &&& (iI (252645135))) + ((Int32.toUInt32 ((((((iI (a)) - (((Int32.toUInt32 (iI (a)) >>> (Int32.toUInt32 (iI (1)) &&& Int32.toUInt32 31)).toInt32) &&& (iI (1431655765)))) &&& (iI (858993459))) + (((Int32.toUInt32 ((iI (a)) - (((Int32.toUInt32 (iI (a)) >>> (Int32.toUInt32 (iI (1)) &&& Int32.toUInt32 31)).toInt32) &&& (iI (1431655765)))) >>> (Int32.toUInt32 (iI (2)) &&& Int32.toUInt32 31)).toInt32) &&& (iI (858993459)))) + ((Int32.toUInt32 ((((iI (a)) - (((Int32.toUInt32 (iI (a)) >>> (Int32.toUInt32 (iI (1)) &&& Int32.toUInt32 31)).toInt32) &&& (iI (1431655765)))) &&& (iI (858993459))) + (((Int32.toUInt32 ((iI (a)) - (((Int32.toUInt32 (iI (a)) >>> (Int32.toUInt32 (iI (1)) &&& Int32.toUInt32 31)).toInt32) &&& (iI (1431655765)))) >>> (Int32.toUInt32 (iI (2)) &&& Int32.toUInt32 31)).toInt32) &&& (iI (858993459)))) >>> (Int32.toUInt32 (iI (4)) &&& Int32.toUInt32 31)).toInt32)) &&& (iI (252645135))) >>> (Int32.toUInt32 (iI (8)) &&& Int32.toUInt32 31)).toInt32))]) (pc' := 41) h ⟨dJ_bitCount_40, rfl⟩ (by decide) rfl rfl ?_
  refine go_iload_n (pc' := 42) h ⟨dJ_bitCount_41, rfl⟩ rfl ?_
  refine go_iload_n (pc' := 43) h ⟨dJ_bitCount_42, rfl⟩ rfl ?_
  refine gi_bipush (pc' := 45) h ⟨dJ_bitCount_43, rfl⟩ rfl ?_
  refine go_iushr (pc' := 46) h ⟨dJ_bitCount_45, rfl⟩ rfl ?_
  refine go_iadd (pc' := 47) h ⟨dJ_bitCount_46, rfl⟩ ?_
  refine go_istore_n (L' := [.int ((((((((iI (a)) - (((Int32.toUInt32 (iI (a)) >>> (Int32.toUInt32 (iI (1)) &&& Int32.toUInt32 31)).toInt32) &&& (iI (1431655765)))) &&& (iI (858993459))) + (((Int32.toUInt32 ((iI (a)) - (((Int32.toUInt32 (iI (a)) >>> (Int32.toUInt32 (iI (1)) &&& Int32.toUInt32 31)).toInt32) &&& (iI (1431655765)))) >>> (Int32.toUInt32 (iI (2)) &&& Int32.toUInt32 31)).toInt32) &&& (iI (858993459)))) + ((Int32.toUInt32 ((((iI (a)) - (((Int32.toUInt32 (iI (a)) >>> (Int32.toUInt32 (iI (1)) &&& Int32.toUInt32 31)).toInt32) &&& (iI (1431655765)))) &&& (iI (858993459))) + (((Int32.toUInt32 ((iI (a)) - (((Int32.toUInt32 (iI (a)) >>> (Int32.toUInt32 (iI (1)) &&& Int32.toUInt32 31)).toInt32) &&& (iI (1431655765)))) >>> (Int32.toUInt32 (iI (2)) &&& Int32.toUInt32 31)).toInt32) &&& (iI (858993459)))) >>> (Int32.toUInt32 (iI (4)) &&& Int32.toUInt32 31)).toInt32)) &&& (iI (252645135))) + ((Int32.toUInt32 ((((((iI (a)) - (((Int32.toUInt32 (iI (a)) >>> (Int32.toUInt32 (iI (1)) &&& Int32.toUInt32 31)).toInt32) &&& (iI (1431655765)))) &&& (iI (858993459))) + (((Int32.toUInt32 ((iI (a)) - (((Int32.toUInt32 (iI (a)) >>> (Int32.toUInt32 (iI (1)) &&& Int32.toUInt32 31)).toInt32) &&& (iI (1431655765)))) >>> (Int32.toUInt32 (iI (2)) &&& Int32.toUInt32 31)).toInt32) &&& (iI (858993459)))) + ((Int32.toUInt32 ((((iI (a)) - (((Int32.toUInt32 (iI (a)) >>> (Int32.toUInt32 (iI (1)) &&& Int32.toUInt32 31)).toInt32) &&& (iI (1431655765)))) &&& (iI (858993459))) + (((Int32.toUInt32 ((iI (a)) - (((Int32.toUInt32 (iI (a)) >>> (Int32.toUInt32 (iI (1)) &&& Int32.toUInt32 31)).toInt32) &&& (iI (1431655765)))) >>> (Int32.toUInt32 (iI (2)) &&& Int32.toUInt32 31)).toInt32) &&& (iI (858993459)))) >>> (Int32.toUInt32 (iI (4)) &&& Int32.toUInt32 31)).toInt32)) &&& (iI (252645135))) >>> (Int32.toUInt32 (iI (8)) &&& Int32.toUInt32 31)).toInt32)) + ((Int32.toUInt32 (((((((iI (a)) - (((Int32.toUInt32 (iI (a)) >>> (Int32.toUInt32 (iI (1)) &&& Int32.toUInt32 31)).toInt32) &&& (iI (1431655765)))) &&& (iI (858993459))) + (((Int32.toUInt32 ((iI (a)) - (((Int32.toUInt32 (iI (a)) >>> (Int32.toUInt32 (iI (1)) &&& Int32.toUInt32 31)).toInt32) &&& (iI (1431655765)))) >>> (Int32.toUInt32 (iI (2)) &&& Int32.toUInt32 31)).toInt32) &&& (iI (858993459)))) + ((Int32.toUInt32 ((((iI (a)) - (((Int32.toUInt32 (iI (a)) >>> (Int32.toUInt32 (iI (1)) &&& Int32.toUInt32 31)).toInt32) &&& (iI (1431655765)))) &&& (iI (858993459))) + (((Int32.toUInt32 ((iI (a)) - (((Int32.toUInt32 (iI (a)) >>> (Int32.toUInt32 (iI (1)) &&& Int32.toUInt32 31)).toInt32) &&& (iI (1431655765)))) >>> (Int32.toUInt32 (iI (2)) &&& Int32.toUInt32 31)).toInt32) &&& (iI (858993459)))) >>> (Int32.toUInt32 (iI (4)) &&& Int32.toUInt32 31)).toInt32)) &&& (iI (252645135))) + ((Int32.toUInt32 ((((((iI (a)) - (((Int32.toUInt32 (iI (a)) >>> (Int32.toUInt32 (iI (1)) &&& Int32.toUInt32 31)).toInt32) &&& (iI (1431655765)))) &&& (iI (858993459))) + (((Int32.toUInt32 ((iI (a)) - (((Int32.toUInt32 (iI (a)) >>> (Int32.toUInt32 (iI (1)) &&& Int32.toUInt32 31)).toInt32) &&& (iI (1431655765)))) >>> (Int32.toUInt32 (iI (2)) &&& Int32.toUInt32 31)).toInt32) &&& (iI (858993459)))) + ((Int32.toUInt32 ((((iI (a)) - (((Int32.toUInt32 (iI (a)) >>> (Int32.toUInt32 (iI (1)) &&& Int32.toUInt32 31)).toInt32) &&& (iI (1431655765)))) &&& (iI (858993459))) + (((Int32.toUInt32 ((iI (a)) - (((Int32.toUInt32 (iI (a)) >>> (Int32.toUInt32 (iI (1)) &&& Int32.toUInt32 31)).toInt32) &&& (iI (1431655765)))) >>> (Int32.toUInt32 (iI (2)) &&& Int32.toUInt32 31)).toInt32) &&& (iI (858993459)))) >>> (Int32.toUInt32 (iI (4)) &&& Int32.toUInt32 31)).toInt32)) &&& (iI (252645135))) >>> (Int32.toUInt32 (iI (8)) &&& Int32.toUInt32 31)).toInt32)) >>> (Int32.toUInt32 (iI (16)) &&& Int32.toUInt32 31)).toInt32))]) (pc' := 48) h ⟨dJ_bitCount_47, rfl⟩ (by decide) rfl rfl ?_
  refine go_iload_n (pc' := 49) h ⟨dJ_bitCount_48, rfl⟩ rfl ?_
  refine gi_bipush (pc' := 51) h ⟨dJ_bitCount_49, rfl⟩ rfl ?_
  refine go_iand (pc' := 52) h ⟨dJ_bitCount_51, rfl⟩ ?_
  exact go_iret h hE ⟨onesI a, S, congrArg (fun v => some (Value.int v)) (by rcases (show a = 0 ∨ a = 1 ∨ a = 2 ∨ a = 3 ∨ a = 4 ∨ a = 5 ∨ a = 6 ∨ a = 7 ∨ a = 8 ∨ a = 9 ∨ a = 10 ∨ a = 11 ∨ a = 12 ∨ a = 13 ∨ a = 14 ∨ a = 15 by omega) with rfl | rfl | rfl | rfl | rfl | rfl | rfl | rfl | rfl | rfl | rfl | rfl | rfl | rfl | rfl | rfl <;> decide +kernel), rfl, rfl, rfl⟩ dJ_bitCount_52
