def xPicks (S : Sg) (p : Nat) (x r : Int) (S' : Sg) : Prop := (¬ (0 ≤ x ∧ x < S.1 (p + 11) 1) ∧ r = -1 ∧ S' = S) ∨ ((0 ≤ x ∧ x < S.1 (p + 11) 1) ∧ (S.1 34 x = 1 ∨ ∀ i : Int, 0 ≤ i → i < S.1 39 1 → S.1 40 i ≠ S.1 32 x) ∧ r = -2 ∧ S' = S) ∨ ((0 ≤ x ∧ x < S.1 (p + 11) 1) ∧ S.1 34 x ≠ 1 ∧ ∃ j : Int, (0 ≤ j ∧ j < S.1 39 1) ∧ S.1 40 j = S.1 32 x ∧ (∀ i : Int, 0 ≤ i → i < j → S.1 40 i ≠ S.1 32 x) ∧ r = (dadd (rremove S 39 j) 3 x j).1 39 1 ∧ S' = dadd (rremove S 39 j) 3 x j)
set_option maxRecDepth 4000 in
theorem cX_picks (X : XT) {S : Sg} {p q : Nat} (hC : CI S p q) {x : Int} (hx : -2147483648 ≤ x ∧ x ≤ 2147483647) : Ctr X 6 yX_picks bX_picks 3 (some .int) [.ref 0, .int (iI (x))] (mk S) (PI (fun r S' => xPicks S p x r S')) 0 0 := by
  refine Ctr.ofS (by decide) rfl (Nat.le_of_ble_eq_true rfl) (fun F h hF hE => ?_)
  obtain ⟨epq, opq, hW, hok, cb, hlt, hmk, hsc, hwl, hwr, hth, hdd, hse, hme, hke⟩ := id hC
  have hp : p = 4 ∨ p = 17 := by omega
  have hk := kd_p hp
  obtain ⟨k1, k3, k5, k7, k9, k11, l2, l4, l6, l8, l10, l12⟩ := plan_ok hk
  obtain ⟨o1, o2, o3, o4, o5, o6, o7⟩ := id hok
  have z39 : 0 ≤ S.1 39 1 ∧ S.1 39 1 ≤ 6 := hW 39 rfl
  have z66 : 0 ≤ S.1 66 1 ∧ S.1 66 1 ≤ 10 := hW 66 rfl
  have z2 : 0 ≤ S.1 2 1 ∧ S.1 2 1 ≤ 120 := hW 2 rfl
  have z75 : 0 ≤ S.1 75 1 ∧ S.1 75 1 ≤ 6 := hW 75 rfl
  have z84 : 0 ≤ S.1 84 1 ∧ S.1 84 1 ≤ 6 := hW 84 rfl
  refine go_aload_n (pc' := 1) h ⟨dX_picks_0, rfl⟩ rfl ?_
  refine gs_get (v := .ref p) (pc' := 4) h ⟨dX_picks_1, rfl⟩ fgX_19 rfl (by decide) (by show (fl _ _ S.2.2 0 7)[1]? = _; rw [epq]; rfl) ?_
  refine go_iload_n (pc' := 5) h ⟨dX_picks_4, rfl⟩ rfl ?_
  refine gd_callVI (e := if 0 ≤ x ∧ x < S.1 (p + 11) 1 then 1 else 0) (E := S) (pc' := 8) (As := [.int (iI (x))]) (st := []) h hF ⟨dX_picks_5, rfl⟩ kvX_117 (cP_hasTraveller X hk hok (by omega)) (by omega) hk (by decide) ⟨_, _, rfl⟩ rfl (Nat.le_of_ble_eq_true rfl) rfl ?_
  refine gi_if_ne (tgt := 13) (pc' := 11) h dX_picks_8 rfl rfl (by split <;> omega) (fun c8 => ?_) (fun c8 => ?_)
  · have c8 := b1 c8
    refine go_aload_n (pc' := 14) h ⟨dX_picks_13, rfl⟩ rfl ?_
    refine gs_get (v := .ref 30) (pc' := 17) h ⟨dX_picks_14, rfl⟩ fgX_29 rfl (by decide) (rfl) ?_
    refine go_aload_n (pc' := 18) h ⟨dX_picks_17, rfl⟩ rfl ?_
    refine gs_get (v := .ref 30) (pc' := 21) h ⟨dX_picks_18, rfl⟩ fgX_29 rfl (by decide) (rfl) ?_
    refine gs_get (v := .ref 31) (pc' := 24) h ⟨dX_picks_21, rfl⟩ fgX_123 rfl (by decide) (rfl) ?_
    refine go_iload_n (pc' := 25) h ⟨dX_picks_24, rfl⟩ rfl ?_
    have s1 := hsc x (by omega) (by omega)
    refine gd_callVI (e := S.1 32 x) (E := S) (pc' := 28) (As := [.int (iI (x))]) (st := [.ref 30]) h hF ⟨dX_picks_25, rfl⟩ kvX_104 (cR_ati X (n := 4) rfl rfl (by omega)) (by omega) rfl (by decide) ⟨_, _, rfl⟩ rfl (Nat.le_of_ble_eq_true rfl) rfl ?_
    refine gs_callVI (pc' := 31) (As := [.int (iI (S.1 32 x))]) (st := []) h hF ⟨dX_picks_28, rfl⟩ kvX_180 (cS_firstThingAt X (by omega) z39 hth) (by omega) rfl (by decide) ⟨_, _, rfl⟩ rfl (Nat.le_of_ble_eq_true rfl) rfl (fun r28 S28 h28 => ?_)
    obtain ⟨e28, h28⟩ := h28
    have e28 := e28.symm
    subst e28
    have h28 : True ∧ _ := ⟨trivial, h28⟩
    refine go_istore_n (L' := [.ref 0, .int (iI (x)), .int (iI (r28))]) (pc' := 32) h ⟨dX_picks_31, rfl⟩ (by decide) rfl rfl ?_
    refine go_aload_n (pc' := 33) h ⟨dX_picks_32, rfl⟩ rfl ?_
    refine gs_get (v := .ref 30) (pc' := 36) h ⟨dX_picks_33, rfl⟩ fgX_29 rfl (by decide) (rfl) ?_
    refine go_iload_n (pc' := 37) h ⟨dX_picks_36, rfl⟩ rfl ?_
    refine gd_callVI (e := if S.1 34 x = 1 then 1 else 0) (E := S) (pc' := 40) (As := [.int (iI (x))]) (st := []) h hF ⟨dX_picks_37, rfl⟩ kvX_161 (cS_hasStayed X (by omega) (hsc x (by omega) (by omega)).2) (by omega) rfl (by decide) ⟨_, _, rfl⟩ rfl (Nat.le_of_ble_eq_true rfl) rfl ?_
    refine gi_if_ne (tgt := 47) (pc' := 43) h dX_picks_40 rfl rfl (by split <;> omega) (fun c40 => ?_) (fun c40 => ?_)
    · have c40 := b1 c40
      refine gi_bipush (pc' := 49) h ⟨dX_picks_47, rfl⟩ rfl ?_
      exact gs_iret h hE dX_picks_49 (Or.inr (Or.inl ⟨by omega, by first | exact Or.inl (by omega) | exact h28.2.elim (fun h9 => Or.inr h9.2) (fun h9 => absurd h9.1 (by omega)), rfl, rfl⟩))
    · have c40 := b0 c40
      have r1 : -1 ≤ r28 ∧ r28 ≤ 6 := by omega
      refine go_iload_n (pc' := 44) h ⟨dX_picks_43, rfl⟩ rfl ?_
      refine gi_if_ge (tgt := 50) (pc' := 47) h dX_picks_44 rfl rfl (by omega) (fun c44 => ?_) (fun c44 => ?_)
      · refine go_aload_n (pc' := 51) h ⟨dX_picks_50, rfl⟩ rfl ?_
        refine gs_get (v := .ref 30) (pc' := 54) h ⟨dX_picks_51, rfl⟩ fgX_29 rfl (by decide) (rfl) ?_
        refine gs_get (v := .ref 39) (pc' := 57) h ⟨dX_picks_54, rfl⟩ fgX_136 rfl (by decide) (rfl) ?_
        refine go_iload_n (pc' := 58) h ⟨dX_picks_57, rfl⟩ rfl ?_
        refine gd_callVV (E := rremove S 39 r28) (pc' := 61) (As := [.int (iI (r28))]) (st := []) h hF ⟨dX_picks_58, rfl⟩ kvX_183 (cR_remove X rfl (by omega) (hW 39 rfl)) (by omega) rfl (by decide) ⟨_, _, rfl⟩ rfl (Nat.le_of_ble_eq_true rfl) rfl ?_
        refine go_aload_n (pc' := 62) h ⟨dX_picks_61, rfl⟩ rfl ?_
        refine gs_get (v := .ref 65) (pc' := 65) h ⟨dX_picks_62, rfl⟩ fgX_51 rfl (by decide) (rfl) ?_
        refine gi_iconst (pc' := 66) h ⟨dX_picks_65, rfl⟩ ?_
        refine go_iload_n (pc' := 67) h ⟨dX_picks_66, rfl⟩ rfl ?_
        refine go_iload_n (pc' := 68) h ⟨dX_picks_67, rfl⟩ rfl ?_
        refine gd_callVV (E := dadd (rremove S 39 r28) 3 x r28) (pc' := 71) (As := [.int (iI (3)), .int (iI (x)), .int (iI (r28))]) (st := []) h hF ⟨dX_picks_68, rfl⟩ kvX_172 (cD_add X (hW.remove rfl _)) (by omega) rfl (by decide) ⟨_, _, rfl⟩ rfl (Nat.le_of_ble_eq_true rfl) rfl ?_
        refine go_aload_n (pc' := 72) h ⟨dX_picks_71, rfl⟩ rfl ?_
        refine gs_get (v := .ref 30) (pc' := 75) h ⟨dX_picks_72, rfl⟩ fgX_29 rfl (by decide) (rfl) ?_
        refine gs_get (v := .ref 39) (pc' := 78) h ⟨dX_picks_75, rfl⟩ fgX_136 rfl (by decide) (rfl) ?_
        refine gd_callVI (e := (dadd (rremove S 39 r28) 3 x r28).1 39 1) (E := dadd (rremove S 39 r28) 3 x r28) (pc' := 81) (As := []) (st := []) h hF ⟨dX_picks_78, rfl⟩ kvX_79 (cR_size X rfl) (by omega) rfl (by decide) ⟨_, _, rfl⟩ rfl (Nat.le_of_ble_eq_true rfl) rfl ?_
        exact gs_iret h hE dX_picks_81 (h28.2.elim (fun h9 => absurd h9.1 (by omega)) (fun h9 => Or.inr (Or.inr ⟨by omega, by omega, r28, by omega, h9.2.2.1, h9.2.2.2, rfl, rfl⟩)))
      · refine gi_bipush (pc' := 49) h ⟨dX_picks_47, rfl⟩ rfl ?_
        exact gs_iret h hE dX_picks_49 (Or.inr (Or.inl ⟨by omega, by first | exact Or.inl (by omega) | exact h28.2.elim (fun h9 => Or.inr h9.2) (fun h9 => absurd h9.1 (by omega)), rfl, rfl⟩))
  · have c8 := b0 c8
    refine gi_iconst (pc' := 12) h ⟨dX_picks_11, rfl⟩ ?_
    exact gs_iret h hE dX_picks_12 (Or.inl ⟨by omega, rfl, rfl⟩)
def dayV (S : Sg) (p : Nat) (b : Int) : Int := dvU (ivP S p) (b - 1)
def xHands (S : Sg) (p : Nat) (x r : Int) : Prop := ((x < 1 ∨ 99 < x) ∧ r = -1) ∨ ((1 ≤ x ∧ x ≤ 99) ∧ r = -9 ∧ ∀ b : Int, 2 ≤ b → b ≤ 9 → x < dayV S p b) ∨ ((1 ≤ x ∧ x ≤ 99) ∧ (2 ≤ r ∧ r ≤ 9) ∧ dayV S p r ≤ x ∧ ∀ b : Int, 2 ≤ b → b < r → x < dayV S p b)
set_option maxRecDepth 4000 in
theorem cX_hands (X : XT) {S : Sg} {p q : Nat} (hC : CI S p q) {x : Int} (hx : -2147483648 ≤ x ∧ x ≤ 2147483647) : Ctr X 6 yX_hands bX_hands 3 (some .int) [.ref 0, .int (iI (x))] (mk S) (PI (fun r S' => xHands S p x r ∧ S' = S)) 0 0 := by
  refine Ctr.ofS (by decide) rfl (Nat.le_of_ble_eq_true rfl) (fun F h hF hE => ?_)
  obtain ⟨epq, opq, hW, hok, cb, hlt, hmk, hsc, hwl, hwr, hth, hdd, hse, hme, hke⟩ := id hC
  have hp : p = 4 ∨ p = 17 := by omega
  have hk := kd_p hp
  obtain ⟨k1, k3, k5, k7, k9, k11, l2, l4, l6, l8, l10, l12⟩ := plan_ok hk
  obtain ⟨o1, o2, o3, o4, o5, o6, o7⟩ := id hok
  have z39 : 0 ≤ S.1 39 1 ∧ S.1 39 1 ≤ 6 := hW 39 rfl
  have z66 : 0 ≤ S.1 66 1 ∧ S.1 66 1 ≤ 10 := hW 66 rfl
  have z2 : 0 ≤ S.1 2 1 ∧ S.1 2 1 ≤ 120 := hW 2 rfl
  have z75 : 0 ≤ S.1 75 1 ∧ S.1 75 1 ≤ 6 := hW 75 rfl
  have z84 : 0 ≤ S.1 84 1 ∧ S.1 84 1 ≤ 6 := hW 84 rfl
  have hv : ∀ b : Int, 2 ≤ b → b ≤ 9 → 0 ≤ dayV S p b ∧ dayV S p b ≤ 100 := fun b b1 b2 => by
    have h1 := ivP_bd hok
    have h2 := dvU_bd (a := ivP S p) (q := b - 1) (by omega) (by omega)
    unfold dayV
    omega
  have loop : ∀ (n : Nat) (j : Int), 10 < j + n → 2 ≤ j → j ≤ 10 → 1 ≤ x ∧ x ≤ 99 → (∀ b : Int, 2 ≤ b → b < j → x < dayV S p b) → Go F 3 (mk S) 0 0 15 [.ref 0, .int (iI x), .int (iI j)] [] := by
    intro n
    induction n with
    | zero => intro j g4 g5 g6; exfalso; omega
    | succ n ih =>
      intro j g4 g5 g6 gx g7
      refine go_iload_n (pc' := 16) h ⟨dX_hands_15, rfl⟩ rfl ?_
      refine gi_bipush (pc' := 18) h ⟨dX_hands_16, rfl⟩ rfl ?_
      refine gi_icmp_gt (tgt := 41) (pc' := 21) h dX_hands_18 rfl rfl (by omega) (fun c18 => ?_) (fun c18 => ?_)
      · refine gi_bipush (pc' := 43) h ⟨dX_hands_41, rfl⟩ rfl ?_
        exact gs_iret h hE dX_hands_43 (⟨Or.inr (Or.inl ⟨gx, rfl, fun b b1 b2 => g7 b b1 (by omega)⟩), rfl⟩)
      · refine go_aload_n (pc' := 22) h ⟨dX_hands_21, rfl⟩ rfl ?_
        refine gs_get (v := .ref p) (pc' := 25) h ⟨dX_hands_22, rfl⟩ fgX_19 rfl (by decide) (by show (fl _ _ S.2.2 0 7)[1]? = _; rw [epq]; rfl) ?_
        refine go_iload_n (pc' := 26) h ⟨dX_hands_25, rfl⟩ rfl ?_
        refine gd_callVI (e := dayV S p j) (E := S) (pc' := 29) (As := [.int (iI (j))]) (st := []) h hF ⟨dX_hands_26, rfl⟩ kvX_155 (cP_days X hk hok (by omega)) (by omega) hk (by decide) ⟨_, _, rfl⟩ rfl (Nat.le_of_ble_eq_true rfl) rfl ?_
        have h26 := hv j (by omega) (by omega)
        refine go_iload_n (pc' := 30) h ⟨dX_hands_29, rfl⟩ rfl ?_
        refine gi_icmp_gt (tgt := 35) (pc' := 33) h dX_hands_30 rfl rfl (by omega) (fun c30 => ?_) (fun c30 => ?_)
        · refine gi_iinc (L' := [.ref 0, .int (iI (x)), .int (iI (j + 1))]) (pc' := 38) h ⟨dX_hands_35, rfl⟩ rfl (by decide) rfl rfl ?_
          refine gi_goto (tgt := 15) h dX_hands_38 rfl ?_
          exact ih (j + 1) (by omega) (by omega) (by omega) gx (fun b b1 b2 => by
            by_cases hb : b = j
            · rw [hb]; omega
            · exact g7 b b1 (by omega))
        · refine go_iload_n (pc' := 34) h ⟨dX_hands_33, rfl⟩ rfl ?_
          exact gs_iret h hE dX_hands_34 (⟨Or.inr (Or.inr ⟨gx, by omega, by omega, g7⟩), rfl⟩)
  refine go_iload_n (pc' := 1) h ⟨dX_hands_0, rfl⟩ rfl ?_
  refine gi_iconst (pc' := 2) h ⟨dX_hands_1, rfl⟩ ?_
  refine gi_icmp_lt (tgt := 11) (pc' := 5) h dX_hands_2 rfl rfl (by omega) (fun c2 => ?_) (fun c2 => ?_)
  · refine gi_iconst (pc' := 12) h ⟨dX_hands_11, rfl⟩ ?_
    exact gs_iret h hE dX_hands_12 (⟨Or.inl ⟨by omega, rfl⟩, rfl⟩)
  · refine go_iload_n (pc' := 6) h ⟨dX_hands_5, rfl⟩ rfl ?_
    refine gi_bipush (pc' := 8) h ⟨dX_hands_6, rfl⟩ rfl ?_
    refine gi_icmp_le (tgt := 13) (pc' := 11) h dX_hands_8 rfl rfl (by omega) (fun c8 => ?_) (fun c8 => ?_)
    · refine gi_iconst (pc' := 14) h ⟨dX_hands_13, rfl⟩ ?_
      refine go_istore_n (L' := [.ref 0, .int (iI (x)), .int (iI (2))]) (pc' := 15) h ⟨dX_hands_14, rfl⟩ (by decide) rfl rfl ?_
      exact loop 9 2 (by omega) (by omega) (by omega) (by omega) (fun b b1 b2 => by omega)
    · refine gi_iconst (pc' := 12) h ⟨dX_hands_11, rfl⟩ ?_
      exact gs_iret h hE dX_hands_12 (⟨Or.inl ⟨by omega, rfl⟩, rfl⟩)
def ldS (R : Sg) (p q : Nat) : Sg := rempty (rempty (rempty (rempty (rempty (dempty (rempty (sbegin (rempty (ptP (ptP R (R.2.2.1, p)) (q, p)) 2)) 63)) 73) 75) 80) 82) 84
def xLadder (S : Sg) (p q : Nat) : Int × Sg := if (rdR q 122 0 (rd0 S q)).1 < 0 then rdR q 122 0 (rd0 S q) else ((rdR q 122 0 (rd0 S q)).1, ldS (rdR q 122 0 (rd0 S q)).2 p q)
/-! what reading leaves alone -/
def Only (q : Nat) (S S' : Sg) : Prop := S'.2 = S.2 ∧ ∀ a : Nat, a ≠ 1 → (a < q ∨ q + 12 < a) → S'.1 a = S.1 a
theorem Only.rf (q : Nat) (S : Sg) : Only q S S := ⟨rfl, fun _ _ _ => rfl⟩
theorem Only.tr {q : Nat} {S T U : Sg} (h : Only q S T) (k : Only q T U) : Only q S U := ⟨k.1.trans h.1, fun a h1 h2 => (k.2 a h1 h2).trans (h.2 a h1 h2)⟩
theorem Only.nx (q : Nat) (S : Sg) : Only q S (nxS S) := ⟨rfl, fun a h1 _ => nxS_ne S h1⟩
theorem Only.st (q : Nat) (S : Sg) : Only q S (stR S q).2 := by
  unfold stR
  split
  · exact Only.nx _ _
  · split
    · exact (Only.nx _ _).tr (Only.nx _ _)
    · split
      · exact ((Only.nx _ _).tr (Only.nx _ _)).tr (Only.nx _ _)
      · refine (((Only.nx _ _).tr (Only.nx _ _)).tr (Only.nx _ _)).tr (Only.tr ⟨padd_2 _ _ _ _ _, fun a h1 h2 => padd_ne _ _ _ _ _ (by omega)⟩ (Only.nx _ _))
theorem Only.tra (q : Nat) (S : Sg) : Only q S (trR S q).2 := by
  unfold trR
  split
  · exact Only.nx _ _
  · exact (Only.nx _ _).tr (Only.tr ⟨rpush_2 _ _ _, fun a h1 h2 => rpush_ne _ _ (by omega) (by omega)⟩ (Only.nx _ _))
theorem Only.rea (q : Nat) (S : Sg) : Only q S (reR S q).2 := by
  unfold reR
  split
  · exact Only.nx _ _
  · exact (Only.nx _ _).tr ((show Only q (nxS S) (pt (pt (nxS S) q 6 (vS S)) 1 5 1) from ⟨rfl, fun a h1 h2 => by rw [pt_ne _ _ _ h1, pt_ne _ _ _ (by omega)]⟩).tr (Only.nx _ _))
theorem Only.boy (q : Nat) (S : Sg) : Only q S (boR S q).2 := by
  unfold boR
  split
  · exact Only.nx _ _
  · exact (Only.nx _ _).tr ((show Only q (nxS S) (pt (pt (nxS S) q 7 (vS S)) 1 6 1) from ⟨rfl, fun a h1 h2 => by rw [pt_ne _ _ _ h1, pt_ne _ _ _ (by omega)]⟩).tr (Only.nx _ _))
theorem Only.it (q : Nat) (S : Sg) : Only q S (itR S q).2 := by
  unfold itR
  split
  · split
    · exact Only.st _ _
    · exact Only.rf _ _
  · split
    · split
      · exact Only.tra _ _
      · exact Only.rf _ _
    · split
      · split
        · exact Only.rea _ _
        · exact Only.rf _ _
      · split
        · split
          · exact Only.boy _ _
          · exact Only.rf _ _
        · exact Only.rf _ _
theorem Only.rd (q : Nat) : ∀ (n : Nat) (it : Int) (S : Sg), Only q S (rdR q n it S).2
  | 0, _, S => Only.rf _ _
  | n + 1, it, S => by
    rw [rdR]
    split
    · exact Only.rf _ _
    · split
      · exact Only.rf _ _
      · split
        · exact Only.it _ _
        · exact (Only.it q S).tr ((Only.nx _ _).tr (Only.rd q n (it + 1) _))
theorem Only.bg {q : Nat} (hq : q = 4 ∨ q = 17) (S : Sg) : Only q S (rd0 S q) := by
  unfold rd0
  refine Only.tr ⟨?_, fun a h1 h2 => ?_⟩ (Only.nx _ _)
  · show (pbegin S q).2 = S.2
    rfl
  · rw [pt_ne _ _ _ h1, pt_ne _ _ _ h1, pt_ne _ _ _ h1, pbegin_ne _ _ h2]
/-- where a token lies -/
def PB (S : Sg) : Prop := 0 ≤ S.1 1 3 ∧ S.1 1 3 ≤ 120
theorem TI.pb {S : Sg} (h : TI S) : PB (nxS S) := by
  unfold PB
  have h1 := h.1
  unfold txOk at h1
  have h2 := lE_bd (S.1 3) h1.2.2.2
  rw [nxS_at]
  omega
theorem TI.st_pb {S : Sg} (h : TI S) {p : Nat} (hp : p = 4 ∨ p = 17) : PB (stR S p).2 := by
  unfold stR
  split
  · exact h.pb
  · split
    · exact h.nx.pb
    · split
      · exact h.nx.nx.pb
      · exact (TI.same h.nx.nx.nx (h.nx.nx.nx.2.1.addS (kd_p hp) _ _ _) (padd_ne _ _ _ _ _ (by omega)) (padd_ne _ _ _ _ _ (by omega)) (padd_ne _ _ _ _ _ (by omega))).pb
theorem TI.tr_pb {S : Sg} (h : TI S) {p : Nat} (hp : p = 4 ∨ p = 17) : PB (trR S p).2 := by
  unfold trR
  split
  · exact h.pb
  · exact (TI.same h.nx (h.nx.2.1.push (plan_ok (kd_p hp)).2.2.2.2.2.1 _) (rpush_ne _ _ (by omega) (by omega)) (rpush_ne _ _ (by omega) (by omega)) (rpush_ne _ _ (by omega) (by omega))).pb
theorem TI.re_pb {S : Sg} (h : TI S) {p : Nat} (hp : p = 4 ∨ p = 17) : PB (reR S p).2 := by
  unfold reR
  split
  · exact h.pb
  · exact ((TI.same h.nx (h.nx.2.1.pt (by rw [kd_p hp]; decide) _ _) (pt_ne _ _ _ (by omega)) (pt_ne _ _ _ (by omega)) (pt_ne _ _ _ (by omega))).flag (Or.inl rfl)).pb
theorem TI.bo_pb {S : Sg} (h : TI S) {p : Nat} (hp : p = 4 ∨ p = 17) : PB (boR S p).2 := by
  unfold boR
  split
  · exact h.pb
  · exact ((TI.same h.nx (h.nx.2.1.pt (by rw [kd_p hp]; decide) _ _) (pt_ne _ _ _ (by omega)) (pt_ne _ _ _ (by omega)) (pt_ne _ _ _ (by omega))).flag (Or.inr rfl)).pb
theorem TI.it_pb {S : Sg} (h : TI S) {p : Nat} (hp : p = 4 ∨ p = 17) (hb : PB S) : PB (itR S p).2 := by
  unfold itR
  split
  · split
    · exact h.st_pb hp
    · exact hb
  · split
    · split
      · exact h.tr_pb hp
      · exact hb
    · split
      · split
        · exact h.re_pb hp
        · exact hb
      · split
        · split
          · exact h.bo_pb hp
          · exact hb
        · exact hb
theorem rdR_ok {q : Nat} (hq : q = 4 ∨ q = 17) : ∀ (n : Nat) (it : Int) (S : Sg), TI S → PB S → 0 ≤ it → TI (rdR q n it S).2 ∧ -130 ≤ (rdR q n it S).1 ∧ (rdR q n it S).1 ≤ 120
  | 0, it, S, h, hb, _ => by
    rw [rdR]
    exact ⟨h, by show _ ≤ -10 - S.1 1 3; have := hb.2; omega, by show -10 - S.1 1 3 ≤ _; have := hb.1; omega⟩
  | n + 1, it, S, h, hb, h0 => by
    rw [rdR]
    split
    · exact ⟨h, by show _ ≤ -10 - S.1 1 3; have := hb.2; omega, by show -10 - S.1 1 3 ≤ _; have := hb.1; omega⟩
    · split
      · exact ⟨h, by show _ ≤ it; omega, by show it ≤ _; omega⟩
      · have hb2 := h.it_pb hq hb
        split
        · exact ⟨h.it hq, by show _ ≤ -10 - (itR S q).2.1 1 3; have := hb2.2; omega, by show -10 - (itR S q).2.1 1 3 ≤ _; have := hb2.1; omega⟩
        · exact rdR_ok hq n (it + 1) _ (h.it hq).nx (h.it hq).pb (by omega)
theorem rd_all {S : Sg} (hlt : ltOk S) (hW : Wr S) {q : Nat} (hq : q = 4 ∨ q = 17) : TI (rdR q 122 0 (rd0 S q)).2 ∧ (-130 ≤ (rdR q 122 0 (rd0 S q)).1 ∧ (rdR q 122 0 (rd0 S q)).1 ≤ 120) ∧ Only q S (rdR q 122 0 (rd0 S q)).2 := by
  obtain ⟨hx0, hW0, ht0⟩ := rd0_tx hlt hW hq
  have h1 : TI (pt (pt (pt (pbegin S q) 1 1 0) 1 5 0) 1 6 0) ∨ True := Or.inr trivial
  have hb : PB (rd0 S q) := by
    unfold PB rd0
    rw [nxS_at]
    have h2 := lE_bd ((pt (pt (pt (pbegin S q) 1 1 0) 1 5 0) 1 6 0).1 3) hx0.2.2.2
    have h3 := hx0.1
    have h4 := hx0.2.2.1
    omega
  have h2 := rdR_ok hq 122 0 (rd0 S q) ht0 hb (by omega)
  exact ⟨h2.1, h2.2, (Only.bg hq S).tr (Only.rd q 122 0 _)⟩
set_option maxRecDepth 4000 in
theorem cX_ladder (X : XT) {S : Sg} {p q : Nat} (hC : CI S p q) : Ctr X 7 yX_ladder bX_ladder 3 (some .int) [.ref 0] (mk S) (PI (fun r S' => r = (xLadder S p q).1 ∧ S' = (xLadder S p q).2)) 0 0 := by
  refine Ctr.ofS (by decide) rfl (Nat.le_of_ble_eq_true rfl) (fun F h hF hE => ?_)
  obtain ⟨epq, opq, hW, hok, cb, hlt, hmk, hsc, hwl, hwr, hth, hdd, hse, hme, hke⟩ := id hC
  have hp : p = 4 ∨ p = 17 := by omega
  have hk := kd_p hp
  obtain ⟨k1, k3, k5, k7, k9, k11, l2, l4, l6, l8, l10, l12⟩ := plan_ok hk
  obtain ⟨o1, o2, o3, o4, o5, o6, o7⟩ := id hok
  have z39 : 0 ≤ S.1 39 1 ∧ S.1 39 1 ≤ 6 := hW 39 rfl
  have z66 : 0 ≤ S.1 66 1 ∧ S.1 66 1 ≤ 10 := hW 66 rfl
  have z2 : 0 ≤ S.1 2 1 ∧ S.1 2 1 ≤ 120 := hW 2 rfl
  have z75 : 0 ≤ S.1 75 1 ∧ S.1 75 1 ≤ 6 := hW 75 rfl
  have z84 : 0 ≤ S.1 84 1 ∧ S.1 84 1 ≤ 6 := hW 84 rfl
  have hq : q = 4 ∨ q = 17 := by omega
  obtain ⟨ra1, ra2, ra3⟩ := rd_all hlt hW hq
  have epr : (rdR q 122 0 (rd0 S q)).2.2.2 = (p, q) := by rw [ra3.1]; exact epq
  have hWr := ra1.2.1
  have hWs : Wr (rempty (ptP (ptP (rdR q 122 0 (rd0 S q)).2 ((rdR q 122 0 (rd0 S q)).2.2.2.1, p)) (q, p)) 2) := (Wr.empty (S := ptP (ptP (rdR q 122 0 (rd0 S q)).2 ((rdR q 122 0 (rd0 S q)).2.2.2.1, p)) (q, p)) hWr rfl)
  refine go_aload_n (pc' := 1) h ⟨dX_ladder_0, rfl⟩ rfl ?_
  refine gs_get (v := .ref 1) (pc' := 4) h ⟨dX_ladder_1, rfl⟩ fgX_12 rfl (by decide) (rfl) ?_
  refine go_aload_n (pc' := 5) h ⟨dX_ladder_4, rfl⟩ rfl ?_
  refine gs_get (v := .ref q) (pc' := 8) h ⟨dX_ladder_5, rfl⟩ fgX_23 rfl (by decide) (by show (fl _ _ S.2.2 0 7)[2]? = _; rw [epq]; rfl) ?_
  refine gd_callVI (e := (rdR q 122 0 (rd0 S q)).1) (E := (rdR q 122 0 (rd0 S q)).2) (pc' := 11) (As := [.ref q]) (st := []) h hF ⟨dX_ladder_8, rfl⟩ kvX_86 (cT_read X hq hlt hW) (by omega) rfl (by decide) ⟨_, _, rfl⟩ rfl (Nat.le_of_ble_eq_true rfl) rfl ?_
  refine go_istore_n (L' := [.ref 0, .int (iI ((rdR q 122 0 (rd0 S q)).1))]) (pc' := 12) h ⟨dX_ladder_11, rfl⟩ (by decide) rfl rfl ?_
  refine go_iload_n (pc' := 13) h ⟨dX_ladder_12, rfl⟩ rfl ?_
  refine gi_if_ge (tgt := 18) (pc' := 16) h dX_ladder_13 rfl rfl (by omega) (fun c13 => ?_) (fun c13 => ?_)
  · refine go_aload_n (pc' := 19) h ⟨dX_ladder_18, rfl⟩ rfl ?_
    refine gs_get (v := .ref q) (pc' := 22) h ⟨dX_ladder_19, rfl⟩ fgX_23 rfl (by decide) (by show (fl _ _ (rdR q 122 0 (rd0 S q)).2.2.2 0 7)[2]? = _; rw [epr]; rfl) ?_
    refine go_astore_n (L' := [.ref 0, .int (iI ((rdR q 122 0 (rd0 S q)).1)), .ref q]) (pc' := 23) h ⟨dX_ladder_22, rfl⟩ (by decide) rfl rfl ?_
    refine go_aload_n (pc' := 24) h ⟨dX_ladder_23, rfl⟩ rfl ?_
    refine go_aload_n (pc' := 25) h ⟨dX_ladder_24, rfl⟩ rfl ?_
    refine gs_get (v := .ref p) (pc' := 28) h ⟨dX_ladder_25, rfl⟩ fgX_19 rfl (by decide) (by show (fl _ _ (rdR q 122 0 (rd0 S q)).2.2.2 0 7)[1]? = _; rw [epr]; rfl) ?_
    refine gs_putP2 (pc' := 31) h ⟨dX_ladder_28, rfl⟩ fpX_23 ?_
    refine go_aload_n (pc' := 32) h ⟨dX_ladder_31, rfl⟩ rfl ?_
    refine go_aload_n (pc' := 33) h ⟨dX_ladder_32, rfl⟩ rfl ?_
    refine gs_putP1 (pc' := 36) h ⟨dX_ladder_33, rfl⟩ fpX_19 ?_
    refine go_aload_n (pc' := 37) h ⟨dX_ladder_36, rfl⟩ rfl ?_
    refine gs_get (v := .ref 1) (pc' := 40) h ⟨dX_ladder_37, rfl⟩ fgX_12 rfl (by decide) (rfl) ?_
    refine gs_get (v := .ref 2) (pc' := 43) h ⟨dX_ladder_40, rfl⟩ fgX_69 rfl (by decide) (rfl) ?_
    refine gd_callVV (E := rempty (ptP (ptP (rdR q 122 0 (rd0 S q)).2 ((rdR q 122 0 (rd0 S q)).2.2.2.1, p)) (q, p)) 2) (pc' := 46) (As := []) (st := []) h hF ⟨dX_ladder_43, rfl⟩ kvX_83 (cR_empty X rfl) (by omega) rfl (by decide) ⟨_, _, rfl⟩ rfl (Nat.le_of_ble_eq_true rfl) rfl ?_
    refine go_aload_n (pc' := 47) h ⟨dX_ladder_46, rfl⟩ rfl ?_
    refine gs_get (v := .ref 30) (pc' := 50) h ⟨dX_ladder_47, rfl⟩ fgX_29 rfl (by decide) (rfl) ?_
    refine gd_callVV (E := sbegin (rempty (ptP (ptP (rdR q 122 0 (rd0 S q)).2 ((rdR q 122 0 (rd0 S q)).2.2.2.1, p)) (q, p)) 2)) (pc' := 53) (As := []) (st := []) h hF ⟨dX_ladder_50, rfl⟩ kvX_90 (cS_begin X hWs) (by omega) rfl (by decide) ⟨_, _, rfl⟩ rfl (Nat.le_of_ble_eq_true rfl) rfl ?_
    refine go_aload_n (pc' := 54) h ⟨dX_ladder_53, rfl⟩ rfl ?_
    refine gs_get (v := .ref 63) (pc' := 57) h ⟨dX_ladder_54, rfl⟩ fgX_44 rfl (by decide) (rfl) ?_
    refine gd_callVV (E := rempty (sbegin (rempty (ptP (ptP (rdR q 122 0 (rd0 S q)).2 ((rdR q 122 0 (rd0 S q)).2.2.2.1, p)) (q, p)) 2)) 63) (pc' := 60) (As := []) (st := []) h hF ⟨dX_ladder_57, rfl⟩ kvX_83 (cR_empty X rfl) (by omega) rfl (by decide) ⟨_, _, rfl⟩ rfl (Nat.le_of_ble_eq_true rfl) rfl ?_
    refine go_aload_n (pc' := 61) h ⟨dX_ladder_60, rfl⟩ rfl ?_
    refine gs_get (v := .ref 65) (pc' := 64) h ⟨dX_ladder_61, rfl⟩ fgX_51 rfl (by decide) (rfl) ?_
    refine gd_callVV (E := dempty (rempty (sbegin (rempty (ptP (ptP (rdR q 122 0 (rd0 S q)).2 ((rdR q 122 0 (rd0 S q)).2.2.2.1, p)) (q, p)) 2)) 63)) (pc' := 67) (As := []) (st := []) h hF ⟨dX_ladder_64, rfl⟩ kvX_93 (cD_empty X) (by omega) rfl (by decide) ⟨_, _, rfl⟩ rfl (Nat.le_of_ble_eq_true rfl) rfl ?_
    refine go_aload_n (pc' := 68) h ⟨dX_ladder_67, rfl⟩ rfl ?_
    refine gs_get (v := .ref 72) (pc' := 71) h ⟨dX_ladder_68, rfl⟩ fgX_58 rfl (by decide) (rfl) ?_
    refine gd_callVV (E := rempty (rempty (dempty (rempty (sbegin (rempty (ptP (ptP (rdR q 122 0 (rd0 S q)).2 ((rdR q 122 0 (rd0 S q)).2.2.2.1, p)) (q, p)) 2)) 63)) 73) 75) (pc' := 74) (As := []) (st := []) h hF ⟨dX_ladder_71, rfl⟩ kvX_94 (cN_empty X) (by omega) rfl (by decide) ⟨_, _, rfl⟩ rfl (Nat.le_of_ble_eq_true rfl) rfl ?_
    refine go_aload_n (pc' := 75) h ⟨dX_ladder_74, rfl⟩ rfl ?_
    refine gs_get (v := .ref 79) (pc' := 78) h ⟨dX_ladder_75, rfl⟩ fgX_65 rfl (by decide) (rfl) ?_
    refine gd_callVV (E := rempty (rempty (rempty (rempty (rempty (dempty (rempty (sbegin (rempty (ptP (ptP (rdR q 122 0 (rd0 S q)).2 ((rdR q 122 0 (rd0 S q)).2.2.2.1, p)) (q, p)) 2)) 63)) 73) 75) 80) 82) 84) (pc' := 81) (As := []) (st := []) h hF ⟨dX_ladder_78, rfl⟩ kvX_95 (cM_empty X) (by omega) rfl (by decide) ⟨_, _, rfl⟩ rfl (Nat.le_of_ble_eq_true rfl) rfl ?_
    refine go_iload_n (pc' := 82) h ⟨dX_ladder_81, rfl⟩ rfl ?_
    exact gs_iret h hE dX_ladder_82 (by unfold xLadder; rw [if_neg (by omega)]; exact ⟨rfl, rfl⟩)
  · refine go_iload_n (pc' := 17) h ⟨dX_ladder_16, rfl⟩ rfl ?_
    exact gs_iret h hE dX_ladder_17 (by unfold xLadder; rw [if_pos (by omega)]; exact ⟨rfl, rfl⟩)
def frS (S : Sg) (p : Nat) : Int := S.1 (p + 11) 1 - sumI (S.1 34) 4
def oddU (S : Sg) (p : Nat) (x y : Int) : Int := sumI (awF x y (frS S p)) (2 ^ (frS S p).toNat)
def oddL (S : Sg) (p : Nat) : Int := 10 ^ (frS S p).toNat
def xOdds (S : Sg) (p : Nat) (x y v : Int) : Int × Sg := if x < 0 ∨ 10 < x ∨ y < 0 ∨ 4 < y ∨ v < 0 ∨ 1 < v then (-1, S) else if gcF 64 (oddU S p x y) (oddL S p) < 1 then (-1, S) else if v = 0 then (oddU S p x y / gcF 64 (oddU S p x y) (oddL S p), S) else (oddL S p / gcF 64 (oddU S p x y) (oddL S p), S)
set_option maxRecDepth 4000 in
theorem cX_odds (X : XT) {S : Sg} {p q : Nat} (hC : CI S p q) {x : Int} (hx : -2147483648 ≤ x ∧ x ≤ 2147483647) {y : Int} (hy : -2147483648 ≤ y ∧ y ≤ 2147483647) {v : Int} (hv : -2147483648 ≤ v ∧ v ≤ 2147483647) (hfr : 0 ≤ frS S p) (hod : (0 ≤ x ∧ x ≤ 10) → (0 ≤ y ∧ y ≤ 4) → (0 ≤ oddU S p x y ∧ oddU S p x y ≤ 10000) ∧ (1 ≤ oddL S p ∧ oddL S p ≤ 10000) ∧ (0 ≤ gcF 64 (oddU S p x y) (oddL S p) ∧ gcF 64 (oddU S p x y) (oddL S p) ≤ 10000)) : Ctr X 6 yX_odds bX_odds 8 (some .int) [.ref 0, .int (iI (x)), .int (iI (y)), .int (iI (v))] (mk S) (PI (fun r S' => r = (xOdds S p x y v).1 ∧ S' = (xOdds S p x y v).2)) 0 0 := by
  refine Ctr.ofS (by decide) rfl (Nat.le_of_ble_eq_true rfl) (fun F h hF hE => ?_)
  obtain ⟨epq, opq, hW, hok, cb, hlt, hmk, hsc, hwl, hwr, hth, hdd, hse, hme, hke⟩ := id hC
  have hp : p = 4 ∨ p = 17 := by omega
  have hk := kd_p hp
  obtain ⟨k1, k3, k5, k7, k9, k11, l2, l4, l6, l8, l10, l12⟩ := plan_ok hk
  obtain ⟨o1, o2, o3, o4, o5, o6, o7⟩ := id hok
  have z39 : 0 ≤ S.1 39 1 ∧ S.1 39 1 ≤ 6 := hW 39 rfl
  have z66 : 0 ≤ S.1 66 1 ∧ S.1 66 1 ≤ 10 := hW 66 rfl
  have z2 : 0 ≤ S.1 2 1 ∧ S.1 2 1 ≤ 120 := hW 2 rfl
  have z75 : 0 ≤ S.1 75 1 ∧ S.1 75 1 ≤ 6 := hW 75 rfl
  have z84 : 0 ≤ S.1 84 1 ∧ S.1 84 1 ≤ 6 := hW 84 rfl
  have q4 := (sum4_bd hsc)
  refine go_iload_n (pc' := 1) h ⟨dX_odds_0, rfl⟩ rfl ?_
  refine gi_if_lt (tgt := 28) (pc' := 4) h dX_odds_1 rfl rfl (by omega) (fun c1 => ?_) (fun c1 => ?_)
  · refine gi_iconst (pc' := 29) h ⟨dX_odds_28, rfl⟩ ?_
    exact gs_iret h hE dX_odds_29 (by unfold xOdds; rw [if_pos (by omega)]; exact ⟨rfl, rfl⟩)
  · refine go_iload_n (pc' := 5) h ⟨dX_odds_4, rfl⟩ rfl ?_
    refine gi_bipush (pc' := 7) h ⟨dX_odds_5, rfl⟩ rfl ?_
    refine gi_icmp_gt (tgt := 28) (pc' := 10) h dX_odds_7 rfl rfl (by omega) (fun c7 => ?_) (fun c7 => ?_)
    · refine gi_iconst (pc' := 29) h ⟨dX_odds_28, rfl⟩ ?_
      exact gs_iret h hE dX_odds_29 (by unfold xOdds; rw [if_pos (by omega)]; exact ⟨rfl, rfl⟩)
    · refine go_iload_n (pc' := 11) h ⟨dX_odds_10, rfl⟩ rfl ?_
      refine gi_if_lt (tgt := 28) (pc' := 14) h dX_odds_11 rfl rfl (by omega) (fun c11 => ?_) (fun c11 => ?_)
      · refine gi_iconst (pc' := 29) h ⟨dX_odds_28, rfl⟩ ?_
        exact gs_iret h hE dX_odds_29 (by unfold xOdds; rw [if_pos (by omega)]; exact ⟨rfl, rfl⟩)
      · refine go_iload_n (pc' := 15) h ⟨dX_odds_14, rfl⟩ rfl ?_
        refine gi_iconst (pc' := 16) h ⟨dX_odds_15, rfl⟩ ?_
        refine gi_icmp_gt (tgt := 28) (pc' := 19) h dX_odds_16 rfl rfl (by omega) (fun c16 => ?_) (fun c16 => ?_)
        · refine gi_iconst (pc' := 29) h ⟨dX_odds_28, rfl⟩ ?_
          exact gs_iret h hE dX_odds_29 (by unfold xOdds; rw [if_pos (by omega)]; exact ⟨rfl, rfl⟩)
        · refine go_iload_n (pc' := 20) h ⟨dX_odds_19, rfl⟩ rfl ?_
          refine gi_if_lt (tgt := 28) (pc' := 23) h dX_odds_20 rfl rfl (by omega) (fun c20 => ?_) (fun c20 => ?_)
          · refine gi_iconst (pc' := 29) h ⟨dX_odds_28, rfl⟩ ?_
            exact gs_iret h hE dX_odds_29 (by unfold xOdds; rw [if_pos (by omega)]; exact ⟨rfl, rfl⟩)
          · refine go_iload_n (pc' := 24) h ⟨dX_odds_23, rfl⟩ rfl ?_
            refine gi_iconst (pc' := 25) h ⟨dX_odds_24, rfl⟩ ?_
            refine gi_icmp_le (tgt := 30) (pc' := 28) h dX_odds_25 rfl rfl (by omega) (fun c25 => ?_) (fun c25 => ?_)
            · refine go_aload_n (pc' := 31) h ⟨dX_odds_30, rfl⟩ rfl ?_
              refine gs_get (v := .ref p) (pc' := 34) h ⟨dX_odds_31, rfl⟩ fgX_19 rfl (by decide) (by show (fl _ _ S.2.2 0 7)[1]? = _; rw [epq]; rfl) ?_
              refine gs_get (v := .ref (p + 11)) (pc' := 37) h ⟨dX_odds_34, rfl⟩ fgX_120 hk (by decide) (rfl) ?_
              refine gd_callVI (e := S.1 (p + 11) 1) (E := S) (pc' := 40) (As := []) (st := []) h hF ⟨dX_odds_37, rfl⟩ kvX_79 (cR_size X k11) (by omega) k11 (by decide) ⟨_, _, rfl⟩ rfl (Nat.le_of_ble_eq_true rfl) rfl ?_
              refine go_aload_n (pc' := 41) h ⟨dX_odds_40, rfl⟩ rfl ?_
              refine gs_get (v := .ref 30) (pc' := 44) h ⟨dX_odds_41, rfl⟩ fgX_29 rfl (by decide) (rfl) ?_
              refine gd_callVI (e := sumI (S.1 34) 4) (E := S) (pc' := 47) (As := []) (st := [.int (iI (S.1 (p + 11) 1))]) h hF ⟨dX_odds_44, rfl⟩ kvX_142 (cS_staying X) (by omega) rfl (by decide) ⟨_, _, rfl⟩ rfl (Nat.le_of_ble_eq_true rfl) rfl ?_
              refine gi_isub (pc' := 48) h ⟨dX_odds_47, rfl⟩ ?_
              refine go_istore (L' := [.ref 0, .int (iI (x)), .int (iI (y)), .int (iI (v)), .int (iI ((S.1 (p + 11) 1) - (sumI (S.1 34) 4)))]) (pc' := 50) h ⟨dX_odds_48, rfl⟩ (by decide) rfl rfl ?_
              have g1 : frS S p = S.1 (p + 11) 1 - sumI (S.1 34) 4 := rfl
              have hod := hod (by omega) (by omega)
              refine go_iload_n (pc' := 51) h ⟨dX_odds_50, rfl⟩ rfl ?_
              refine go_iload_n (pc' := 52) h ⟨dX_odds_51, rfl⟩ rfl ?_
              refine go_iload (pc' := 54) h ⟨dX_odds_52, rfl⟩ rfl ?_
              refine gd_callSI (e := oddU S p x y) (E := S) (pc' := 57) (As := [.int (iI (x)), .int (iI (y)), .int (iI ((S.1 (p + 11) 1) - (sumI (S.1 34) 4)))]) (st := []) h hF ⟨dX_odds_54, rfl⟩ kvX_236 (cX_away X (by omega) (by omega) (by omega)) (by omega) rfl (Nat.le_of_ble_eq_true rfl) rfl ?_
              refine go_istore (L' := [.ref 0, .int (iI (x)), .int (iI (y)), .int (iI (v)), .int (iI ((S.1 (p + 11) 1) - (sumI (S.1 34) 4))), .int (iI (oddU S p x y))]) (pc' := 59) h ⟨dX_odds_57, rfl⟩ (by decide) rfl rfl ?_
              refine gi_bipush (pc' := 61) h ⟨dX_odds_59, rfl⟩ rfl ?_
              refine go_iload (pc' := 63) h ⟨dX_odds_61, rfl⟩ rfl ?_
              refine gd_callSI (e := oddL S p) (E := S) (pc' := 66) (As := [.int (iI (10)), .int (iI ((S.1 (p + 11) 1) - (sumI (S.1 34) 4)))]) (st := []) h hF ⟨dX_odds_63, rfl⟩ kvX_239 (cX_power X (by omega)) (by omega) rfl (Nat.le_of_ble_eq_true rfl) rfl ?_
              refine go_istore (L' := [.ref 0, .int (iI (x)), .int (iI (y)), .int (iI (v)), .int (iI ((S.1 (p + 11) 1) - (sumI (S.1 34) 4))), .int (iI (oddU S p x y)), .int (iI (oddL S p))]) (pc' := 68) h ⟨dX_odds_66, rfl⟩ (by decide) rfl rfl ?_
              refine go_iload (pc' := 70) h ⟨dX_odds_68, rfl⟩ rfl ?_
              refine go_iload (pc' := 72) h ⟨dX_odds_70, rfl⟩ rfl ?_
              refine gd_callSI (e := gcF 64 (oddU S p x y) (oddL S p)) (E := S) (pc' := 75) (As := [.int (iI (oddU S p x y)), .int (iI (oddL S p))]) (st := []) h hF ⟨dX_odds_72, rfl⟩ kvX_242 (cX_gcd X (by omega) (by omega)) (by omega) rfl (Nat.le_of_ble_eq_true rfl) rfl ?_
              refine go_istore (L' := [.ref 0, .int (iI (x)), .int (iI (y)), .int (iI (v)), .int (iI ((S.1 (p + 11) 1) - (sumI (S.1 34) 4))), .int (iI (oddU S p x y)), .int (iI (oddL S p)), .int (iI (gcF 64 (oddU S p x y) (oddL S p)))]) (pc' := 77) h ⟨dX_odds_75, rfl⟩ (by decide) rfl rfl ?_
              refine go_iload (pc' := 79) h ⟨dX_odds_77, rfl⟩ rfl ?_
              refine gi_iconst (pc' := 80) h ⟨dX_odds_79, rfl⟩ ?_
              refine gi_icmp_ge (tgt := 85) (pc' := 83) h dX_odds_80 rfl rfl (by omega) (fun c80 => ?_) (fun c80 => ?_)
              · refine go_iload_n (pc' := 86) h ⟨dX_odds_85, rfl⟩ rfl ?_
                refine gi_if_ne (tgt := 97) (pc' := 89) h dX_odds_86 rfl rfl (by omega) (fun c86 => ?_) (fun c86 => ?_)
                · refine go_iload (pc' := 99) h ⟨dX_odds_97, rfl⟩ rfl ?_
                  refine go_iload (pc' := 101) h ⟨dX_odds_99, rfl⟩ rfl ?_
                  refine gi_idiv (pc' := 102) h ⟨dX_odds_101, rfl⟩ (by omega) ?_
                  exact gs_iret h hE dX_odds_102 (by unfold xOdds; rw [if_neg (by omega), if_neg (by omega), if_neg (by omega)]; exact ⟨rfl, rfl⟩)
                · refine go_iload (pc' := 91) h ⟨dX_odds_89, rfl⟩ rfl ?_
                  refine go_iload (pc' := 93) h ⟨dX_odds_91, rfl⟩ rfl ?_
                  refine gi_idiv (pc' := 94) h ⟨dX_odds_93, rfl⟩ (by omega) ?_
                  refine gi_goto (tgt := 102) h dX_odds_94 rfl ?_
                  exact gs_iret h hE dX_odds_102 (by unfold xOdds; rw [if_neg (by omega), if_neg (by omega), if_pos (by omega)]; exact ⟨rfl, rfl⟩)
              · refine gi_iconst (pc' := 84) h ⟨dX_odds_83, rfl⟩ ?_
                exact gs_iret h hE dX_odds_84 (by unfold xOdds; rw [if_neg (by omega), if_pos (by omega)]; exact ⟨rfl, rfl⟩)
            · refine gi_iconst (pc' := 29) h ⟨dX_odds_28, rfl⟩ ?_
              exact gs_iret h hE dX_odds_29 (by unfold xOdds; rw [if_pos (by omega)]; exact ⟨rfl, rfl⟩)
def tpS (S : Sg) (n : Int64) : Sg := ptT S 0 (S.2.1 0 + n)
def rStr (S : Sg) (p : Nat) (x : Int) : Int := S.1 (p + 4) x
def rFea (S : Sg) (p : Nat) (x : Int) : Int := rStr S p x + sumI (fun i => if markP S p x ≤ S.1 40 i ∧ S.1 40 i < markP S p (x + 1) then 1 else 0) (S.1 39 1)
def xRate (S : Sg) (p : Nat) (x y : Int) : Int × Sg := if ¬ (0 ≤ y ∧ y < S.1 (p + 1) 1) then (-1000000, S) else if x = 0 then (rStr S p y, tpS S 1) else if x = 1 then (rFea S p y, tpS (tpS S 10) 1) else if x = 2 then (rStr S p y - S.1 (p + 2) y, tpS (tpS S 100) 1) else if x = 3 then (2 * rFea S p y, tpS (tpS (tpS S 1000) 10) 1) else if x = 4 then (rStr S p y - S.1 (p + 2) y + y, tpS (tpS (tpS S 10000) 100) 1) else if x = 5 then (rStr S p y + sumI (S.1 34) 4, tpS (tpS S 100000) 1) else (-1000000, S)
def RA (S : Sg) (p q : Nat) (x : Int) : Prop := S.2.2 = (p, q) ∧ kd p = 2 ∧ (0 ≤ x ∧ x < 5) ∧ (0 ≤ S.1 39 1 ∧ S.1 39 1 ≤ 6) ∧ (∀ i : Int, 0 ≤ i → i < S.1 39 1 → 0 ≤ S.1 40 i ∧ S.1 40 i ≤ 100) ∧ (∀ l : Int, 0 ≤ l → l ≤ 5 → 0 ≤ markP S p l ∧ markP S p l ≤ 100)
theorem RA.tp {S : Sg} {p q : Nat} {x : Int} (h : RA S p q x) (n : Int64) : RA (tpS S n) p q x := h
set_option maxRecDepth 4000 in
theorem cX_rStr (X : XT) {S : Sg} {p q : Nat} {x : Int} (hR : RA S p q x) : Ctr X 1 yX_rateStretch bX_rateStretch 2 (some .int) [.ref 0, .int (iI (x))] (mk S) (PI (fun r S' => r = rStr S p x ∧ S' = tpS S 1)) 0 0 := by
  refine Ctr.ofS (by decide) rfl (Nat.le_of_ble_eq_true rfl) (fun F h hF hE => ?_)
  obtain ⟨epq, hk, hx, hz, hth, hmk⟩ := id hR
  obtain ⟨k1, k3, k5, k7, k9, k11, l2, l4, l6, l8, l10, l12⟩ := plan_ok hk
  refine go_aload_n (pc' := 1) h ⟨dX_rateStretch_0, rfl⟩ rfl ?_
  refine go_dup (pc' := 2) h ⟨dX_rateStretch_1, rfl⟩ rfl ?_
  refine gs_get (v := .long (S.2.1 0)) (pc' := 5) h ⟨dX_rateStretch_2, rfl⟩ fgX_273 rfl (by decide) (rfl) ?_
  refine go_lconst (v := 1) (pc' := 6) h ⟨dX_rateStretch_5, rfl⟩ rfl ?_
  refine go_ladd (pc' := 7) h ⟨dX_rateStretch_6, rfl⟩ ?_
  refine gs_putL7 (pc' := 10) h ⟨dX_rateStretch_7, rfl⟩ fpX_273 ?_
  refine go_aload_n (pc' := 11) h ⟨dX_rateStretch_10, rfl⟩ rfl ?_
  refine gs_get (v := .ref p) (pc' := 14) h ⟨dX_rateStretch_11, rfl⟩ fgX_19 rfl (by decide) (by show (fl _ _ S.2.2 0 7)[1]? = _; rw [epq]; rfl) ?_
  refine gs_get (v := .ref (p + 3)) (pc' := 17) h ⟨dX_rateStretch_14, rfl⟩ fgX_108 hk (by decide) (rfl) ?_
  refine go_iload_n (pc' := 18) h ⟨dX_rateStretch_17, rfl⟩ rfl ?_
  refine gd_callVI (e := S.1 (p + 4) x) (E := tpS S 1) (pc' := 21) (As := [.int (iI (x))]) (st := []) h hF ⟨dX_rateStretch_18, rfl⟩ kvX_104 (cR_ati X (n := 5) k3 l4 (by omega)) (by omega) k3 (by decide) ⟨_, _, rfl⟩ rfl (Nat.le_of_ble_eq_true rfl) rfl ?_
  exact gs_iret h hE dX_rateStretch_21 (⟨rfl, rfl⟩)
set_option maxRecDepth 4000 in
theorem cX_rFea (X : XT) {S : Sg} {p q : Nat} {x : Int} (hR : RA S p q x) : Ctr X 2 yX_rateFeather bX_rateFeather 2 (some .int) [.ref 0, .int (iI (x))] (mk S) (PI (fun r S' => r = rFea S p x ∧ S' = tpS (tpS S 10) 1)) 0 0 := by
  refine Ctr.ofS (by decide) rfl (Nat.le_of_ble_eq_true rfl) (fun F h hF hE => ?_)
  obtain ⟨epq, hk, hx, hz, hth, hmk⟩ := id hR
  obtain ⟨k1, k3, k5, k7, k9, k11, l2, l4, l6, l8, l10, l12⟩ := plan_ok hk
  refine go_aload_n (pc' := 1) h ⟨dX_rateFeather_0, rfl⟩ rfl ?_
  refine go_dup (pc' := 2) h ⟨dX_rateFeather_1, rfl⟩ rfl ?_
  refine gs_get (v := .long (S.2.1 0)) (pc' := 5) h ⟨dX_rateFeather_2, rfl⟩ fgX_273 rfl (by decide) (rfl) ?_
  refine go_ldc2 (pc' := 8) h ⟨dX_rateFeather_5, rfl⟩ clX_277 ?_
  refine go_ladd (pc' := 9) h ⟨dX_rateFeather_8, rfl⟩ ?_
  refine gs_putL7 (pc' := 12) h ⟨dX_rateFeather_9, rfl⟩ fpX_273 ?_
  refine go_aload_n (pc' := 13) h ⟨dX_rateFeather_12, rfl⟩ rfl ?_
  refine go_iload_n (pc' := 14) h ⟨dX_rateFeather_13, rfl⟩ rfl ?_
  refine gd_callVI (e := rStr S p x) (E := tpS (tpS S 10) 1) (pc' := 17) (As := [.int (iI (x))]) (st := []) h hF ⟨dX_rateFeather_14, rfl⟩ kvX_245 (cX_rStr X (hR.tp 10)) (by omega) rfl (by decide) ⟨_, _, rfl⟩ rfl (Nat.le_of_ble_eq_true rfl) rfl ?_
  refine go_aload_n (pc' := 18) h ⟨dX_rateFeather_17, rfl⟩ rfl ?_
  refine gs_get (v := .ref 30) (pc' := 21) h ⟨dX_rateFeather_18, rfl⟩ fgX_29 rfl (by decide) (rfl) ?_
  refine go_aload_n (pc' := 22) h ⟨dX_rateFeather_21, rfl⟩ rfl ?_
  refine gs_get (v := .ref p) (pc' := 25) h ⟨dX_rateFeather_22, rfl⟩ fgX_19 rfl (by decide) (by show (fl _ _ S.2.2 0 7)[1]? = _; rw [epq]; rfl) ?_
  refine go_iload_n (pc' := 26) h ⟨dX_rateFeather_25, rfl⟩ rfl ?_
  refine gd_callVI (e := markP S p x) (E := tpS (tpS S 10) 1) (pc' := 29) (As := [.int (iI (x))]) (st := [.ref 30, .int (iI (rStr S p x))]) h hF ⟨dX_rateFeather_26, rfl⟩ kvX_114 (cP_mark X hk (by omega)) (by omega) hk (by decide) ⟨_, _, rfl⟩ rfl (Nat.le_of_ble_eq_true rfl) rfl ?_
  refine go_aload_n (pc' := 30) h ⟨dX_rateFeather_29, rfl⟩ rfl ?_
  refine gs_get (v := .ref p) (pc' := 33) h ⟨dX_rateFeather_30, rfl⟩ fgX_19 rfl (by decide) (by show (fl _ _ S.2.2 0 7)[1]? = _; rw [epq]; rfl) ?_
  refine go_iload_n (pc' := 34) h ⟨dX_rateFeather_33, rfl⟩ rfl ?_
  refine gi_iconst (pc' := 35) h ⟨dX_rateFeather_34, rfl⟩ ?_
  refine gi_iadd (pc' := 36) h ⟨dX_rateFeather_35, rfl⟩ ?_
  refine gd_callVI (e := markP S p (x + 1)) (E := tpS (tpS S 10) 1) (pc' := 39) (As := [.int (iI (x + 1))]) (st := [.int (iI (markP S p x)), .ref 30, .int (iI (rStr S p x))]) h hF ⟨dX_rateFeather_36, rfl⟩ kvX_114 (cP_mark X hk (by omega)) (by omega) hk (by decide) ⟨_, _, rfl⟩ rfl (Nat.le_of_ble_eq_true rfl) rfl ?_
  refine gd_callVI (e := sumI (fun i => if markP S p x ≤ S.1 40 i ∧ S.1 40 i < markP S p (x + 1) then 1 else 0) (S.1 39 1)) (E := tpS (tpS S 10) 1) (pc' := 42) (As := [.int (iI (markP S p x)), .int (iI (markP S p (x + 1)))]) (st := [.int (iI (rStr S p x))]) h hF ⟨dX_rateFeather_39, rfl⟩ kvX_279 (cS_thingsBetween X (by have := hmk x (by omega) (by omega); have := hmk (x + 1) (by omega) (by omega); omega) hz hth) (by omega) rfl (by decide) ⟨_, _, rfl⟩ rfl (Nat.le_of_ble_eq_true rfl) rfl ?_
  refine gi_iadd (pc' := 43) h ⟨dX_rateFeather_42, rfl⟩ ?_
  exact gs_iret h hE dX_rateFeather_43 (⟨rfl, rfl⟩)
set_option maxRecDepth 4000 in
theorem cX_rBen (X : XT) {S : Sg} {p q : Nat} {x : Int} (hR : RA S p q x) : Ctr X 2 yX_rateBench bX_rateBench 2 (some .int) [.ref 0, .int (iI (x))] (mk S) (PI (fun r S' => r = rStr S p x - S.1 (p + 2) x ∧ S' = tpS (tpS S 100) 1)) 0 0 := by
  refine Ctr.ofS (by decide) rfl (Nat.le_of_ble_eq_true rfl) (fun F h hF hE => ?_)
  obtain ⟨epq, hk, hx, hz, hth, hmk⟩ := id hR
  obtain ⟨k1, k3, k5, k7, k9, k11, l2, l4, l6, l8, l10, l12⟩ := plan_ok hk
  refine go_aload_n (pc' := 1) h ⟨dX_rateBench_0, rfl⟩ rfl ?_
  refine go_dup (pc' := 2) h ⟨dX_rateBench_1, rfl⟩ rfl ?_
  refine gs_get (v := .long (S.2.1 0)) (pc' := 5) h ⟨dX_rateBench_2, rfl⟩ fgX_273 rfl (by decide) (rfl) ?_
  refine go_ldc2 (pc' := 8) h ⟨dX_rateBench_5, rfl⟩ clX_282 ?_
  refine go_ladd (pc' := 9) h ⟨dX_rateBench_8, rfl⟩ ?_
  refine gs_putL7 (pc' := 12) h ⟨dX_rateBench_9, rfl⟩ fpX_273 ?_
  refine go_aload_n (pc' := 13) h ⟨dX_rateBench_12, rfl⟩ rfl ?_
  refine go_iload_n (pc' := 14) h ⟨dX_rateBench_13, rfl⟩ rfl ?_
  refine gd_callVI (e := rStr S p x) (E := tpS (tpS S 100) 1) (pc' := 17) (As := [.int (iI (x))]) (st := []) h hF ⟨dX_rateBench_14, rfl⟩ kvX_245 (cX_rStr X (hR.tp 100)) (by omega) rfl (by decide) ⟨_, _, rfl⟩ rfl (Nat.le_of_ble_eq_true rfl) rfl ?_
  refine go_aload_n (pc' := 18) h ⟨dX_rateBench_17, rfl⟩ rfl ?_
  refine gs_get (v := .ref p) (pc' := 21) h ⟨dX_rateBench_18, rfl⟩ fgX_19 rfl (by decide) (by show (fl _ _ S.2.2 0 7)[1]? = _; rw [epq]; rfl) ?_
  refine gs_get (v := .ref (p + 1)) (pc' := 24) h ⟨dX_rateBench_21, rfl⟩ fgX_101 hk (by decide) (rfl) ?_
  refine go_iload_n (pc' := 25) h ⟨dX_rateBench_24, rfl⟩ rfl ?_
  refine gd_callVI (e := S.1 (p + 2) x) (E := tpS (tpS S 100) 1) (pc' := 28) (As := [.int (iI (x))]) (st := [.int (iI (rStr S p x))]) h hF ⟨dX_rateBench_25, rfl⟩ kvX_104 (cR_ati X (n := 5) k1 l2 (by omega)) (by omega) k1 (by decide) ⟨_, _, rfl⟩ rfl (Nat.le_of_ble_eq_true rfl) rfl ?_
  refine gi_isub (pc' := 29) h ⟨dX_rateBench_28, rfl⟩ ?_
  exact gs_iret h hE dX_rateBench_29 (⟨rfl, rfl⟩)
set_option maxRecDepth 4000 in
theorem cX_rWin (X : XT) {S : Sg} {p q : Nat} {x : Int} (hR : RA S p q x) : Ctr X 3 yX_rateWing bX_rateWing 2 (some .int) [.ref 0, .int (iI (x))] (mk S) (PI (fun r S' => r = 2 * rFea S p x ∧ S' = tpS (tpS (tpS S 1000) 10) 1)) 0 0 := by
  refine Ctr.ofS (by decide) rfl (Nat.le_of_ble_eq_true rfl) (fun F h hF hE => ?_)
  obtain ⟨epq, hk, hx, hz, hth, hmk⟩ := id hR
  obtain ⟨k1, k3, k5, k7, k9, k11, l2, l4, l6, l8, l10, l12⟩ := plan_ok hk
  refine go_aload_n (pc' := 1) h ⟨dX_rateWing_0, rfl⟩ rfl ?_
  refine go_dup (pc' := 2) h ⟨dX_rateWing_1, rfl⟩ rfl ?_
  refine gs_get (v := .long (S.2.1 0)) (pc' := 5) h ⟨dX_rateWing_2, rfl⟩ fgX_273 rfl (by decide) (rfl) ?_
  refine go_ldc2 (pc' := 8) h ⟨dX_rateWing_5, rfl⟩ clX_284 ?_
  refine go_ladd (pc' := 9) h ⟨dX_rateWing_8, rfl⟩ ?_
  refine gs_putL7 (pc' := 12) h ⟨dX_rateWing_9, rfl⟩ fpX_273 ?_
  refine gi_iconst (pc' := 13) h ⟨dX_rateWing_12, rfl⟩ ?_
  refine go_aload_n (pc' := 14) h ⟨dX_rateWing_13, rfl⟩ rfl ?_
  refine go_iload_n (pc' := 15) h ⟨dX_rateWing_14, rfl⟩ rfl ?_
  refine gd_callVI (e := rFea S p x) (E := tpS (tpS (tpS S 1000) 10) 1) (pc' := 18) (As := [.int (iI (x))]) (st := [.int (iI (2))]) h hF ⟨dX_rateWing_15, rfl⟩ kvX_248 (cX_rFea X (hR.tp 1000)) (by omega) rfl (by decide) ⟨_, _, rfl⟩ rfl (Nat.le_of_ble_eq_true rfl) rfl ?_
  refine gi_imul (pc' := 19) h ⟨dX_rateWing_18, rfl⟩ ?_
  exact gs_iret h hE dX_rateWing_19 (⟨rfl, rfl⟩)
set_option maxRecDepth 4000 in
theorem cX_rNam (X : XT) {S : Sg} {p q : Nat} {x : Int} (hR : RA S p q x) : Ctr X 3 yX_rateName bX_rateName 2 (some .int) [.ref 0, .int (iI (x))] (mk S) (PI (fun r S' => r = rStr S p x - S.1 (p + 2) x + x ∧ S' = tpS (tpS (tpS S 10000) 100) 1)) 0 0 := by
  refine Ctr.ofS (by decide) rfl (Nat.le_of_ble_eq_true rfl) (fun F h hF hE => ?_)
  obtain ⟨epq, hk, hx, hz, hth, hmk⟩ := id hR
  obtain ⟨k1, k3, k5, k7, k9, k11, l2, l4, l6, l8, l10, l12⟩ := plan_ok hk
  refine go_aload_n (pc' := 1) h ⟨dX_rateName_0, rfl⟩ rfl ?_
  refine go_dup (pc' := 2) h ⟨dX_rateName_1, rfl⟩ rfl ?_
  refine gs_get (v := .long (S.2.1 0)) (pc' := 5) h ⟨dX_rateName_2, rfl⟩ fgX_273 rfl (by decide) (rfl) ?_
  refine go_ldc2 (pc' := 8) h ⟨dX_rateName_5, rfl⟩ clX_286 ?_
  refine go_ladd (pc' := 9) h ⟨dX_rateName_8, rfl⟩ ?_
  refine gs_putL7 (pc' := 12) h ⟨dX_rateName_9, rfl⟩ fpX_273 ?_
  refine go_aload_n (pc' := 13) h ⟨dX_rateName_12, rfl⟩ rfl ?_
  refine go_iload_n (pc' := 14) h ⟨dX_rateName_13, rfl⟩ rfl ?_
  refine gd_callVI (e := rStr S p x - S.1 (p + 2) x) (E := tpS (tpS (tpS S 10000) 100) 1) (pc' := 17) (As := [.int (iI (x))]) (st := []) h hF ⟨dX_rateName_14, rfl⟩ kvX_251 (cX_rBen X (hR.tp 10000)) (by omega) rfl (by decide) ⟨_, _, rfl⟩ rfl (Nat.le_of_ble_eq_true rfl) rfl ?_
  refine go_iload_n (pc' := 18) h ⟨dX_rateName_17, rfl⟩ rfl ?_
  refine gi_iadd (pc' := 19) h ⟨dX_rateName_18, rfl⟩ ?_
  exact gs_iret h hE dX_rateName_19 (⟨rfl, rfl⟩)
set_option maxRecDepth 4000 in
theorem cX_rClo (X : XT) {S : Sg} {p q : Nat} {x : Int} (hR : RA S p q x) : Ctr X 2 yX_rateCloud bX_rateCloud 2 (some .int) [.ref 0, .int (iI (x))] (mk S) (PI (fun r S' => r = rStr S p x + sumI (S.1 34) 4 ∧ S' = tpS (tpS S 100000) 1)) 0 0 := by
  refine Ctr.ofS (by decide) rfl (Nat.le_of_ble_eq_true rfl) (fun F h hF hE => ?_)
  obtain ⟨epq, hk, hx, hz, hth, hmk⟩ := id hR
  obtain ⟨k1, k3, k5, k7, k9, k11, l2, l4, l6, l8, l10, l12⟩ := plan_ok hk
  refine go_aload_n (pc' := 1) h ⟨dX_rateCloud_0, rfl⟩ rfl ?_
  refine go_dup (pc' := 2) h ⟨dX_rateCloud_1, rfl⟩ rfl ?_
  refine gs_get (v := .long (S.2.1 0)) (pc' := 5) h ⟨dX_rateCloud_2, rfl⟩ fgX_273 rfl (by decide) (rfl) ?_
  refine go_ldc2 (pc' := 8) h ⟨dX_rateCloud_5, rfl⟩ clX_288 ?_
  refine go_ladd (pc' := 9) h ⟨dX_rateCloud_8, rfl⟩ ?_
  refine gs_putL7 (pc' := 12) h ⟨dX_rateCloud_9, rfl⟩ fpX_273 ?_
  refine go_aload_n (pc' := 13) h ⟨dX_rateCloud_12, rfl⟩ rfl ?_
  refine go_iload_n (pc' := 14) h ⟨dX_rateCloud_13, rfl⟩ rfl ?_
  refine gd_callVI (e := rStr S p x) (E := tpS (tpS S 100000) 1) (pc' := 17) (As := [.int (iI (x))]) (st := []) h hF ⟨dX_rateCloud_14, rfl⟩ kvX_245 (cX_rStr X (hR.tp 100000)) (by omega) rfl (by decide) ⟨_, _, rfl⟩ rfl (Nat.le_of_ble_eq_true rfl) rfl ?_
  refine go_aload_n (pc' := 18) h ⟨dX_rateCloud_17, rfl⟩ rfl ?_
  refine gs_get (v := .ref 30) (pc' := 21) h ⟨dX_rateCloud_18, rfl⟩ fgX_29 rfl (by decide) (rfl) ?_
  refine gd_callVI (e := sumI (S.1 34) 4) (E := tpS (tpS S 100000) 1) (pc' := 24) (As := []) (st := [.int (iI (rStr S p x))]) h hF ⟨dX_rateCloud_21, rfl⟩ kvX_142 (cS_staying X) (by omega) rfl (by decide) ⟨_, _, rfl⟩ rfl (Nat.le_of_ble_eq_true rfl) rfl ?_
  refine gi_iadd (pc' := 25) h ⟨dX_rateCloud_24, rfl⟩ ?_
  exact gs_iret h hE dX_rateCloud_25 (⟨rfl, rfl⟩)
set_option maxRecDepth 4000 in
theorem cX_rate (X : XT) {S : Sg} {p q : Nat} (hC : CI S p q) {x : Int} (hx : -2147483648 ≤ x ∧ x ≤ 2147483647) {y : Int} (hy : -2147483648 ≤ y ∧ y ≤ 2147483647) : Ctr X 6 yX_rate bX_rate 3 (some .int) [.ref 0, .int (iI (x)), .int (iI (y))] (mk S) (PI (fun r S' => r = (xRate S p x y).1 ∧ S' = (xRate S p x y).2)) 0 0 := by
  refine Ctr.ofS (by decide) rfl (Nat.le_of_ble_eq_true rfl) (fun F h hF hE => ?_)
  obtain ⟨epq, opq, hW, hok, cb, hlt, hmk, hsc, hwl, hwr, hth, hdd, hse, hme, hke⟩ := id hC
  have hp : p = 4 ∨ p = 17 := by omega
  have hk := kd_p hp
  obtain ⟨k1, k3, k5, k7, k9, k11, l2, l4, l6, l8, l10, l12⟩ := plan_ok hk
  obtain ⟨o1, o2, o3, o4, o5, o6, o7⟩ := id hok
  have z39 : 0 ≤ S.1 39 1 ∧ S.1 39 1 ≤ 6 := hW 39 rfl
  have z66 : 0 ≤ S.1 66 1 ∧ S.1 66 1 ≤ 10 := hW 66 rfl
  have z2 : 0 ≤ S.1 2 1 ∧ S.1 2 1 ≤ 120 := hW 2 rfl
  have z75 : 0 ≤ S.1 75 1 ∧ S.1 75 1 ≤ 6 := hW 75 rfl
  have z84 : 0 ≤ S.1 84 1 ∧ S.1 84 1 ≤ 6 := hW 84 rfl
  refine go_aload_n (pc' := 1) h ⟨dX_rate_0, rfl⟩ rfl ?_
  refine gs_get (v := .ref p) (pc' := 4) h ⟨dX_rate_1, rfl⟩ fgX_19 rfl (by decide) (by show (fl _ _ S.2.2 0 7)[1]? = _; rw [epq]; rfl) ?_
  refine go_iload_n (pc' := 5) h ⟨dX_rate_4, rfl⟩ rfl ?_
  refine gd_callVI (e := if 0 ≤ y ∧ y < S.1 (p + 1) 1 then 1 else 0) (E := S) (pc' := 8) (As := [.int (iI (y))]) (st := []) h hF ⟨dX_rate_5, rfl⟩ kvX_96 (cP_hasStretch X hk hok (by omega)) (by omega) hk (by decide) ⟨_, _, rfl⟩ rfl (Nat.le_of_ble_eq_true rfl) rfl ?_
  refine gi_if_ne (tgt := 14) (pc' := 11) h dX_rate_8 rfl rfl (by split <;> omega) (fun c8 => ?_) (fun c8 => ?_)
  · have c8 := b1 c8
    have hR : RA S p q y := ⟨epq, hk, by omega, z39, hth, hmk⟩
    refine go_iload_n (pc' := 15) h ⟨dX_rate_14, rfl⟩ rfl ?_
    rcases (show (x < 0 ∨ 5 < x) ∨ x = 0 ∨ x = 1 ∨ x = 2 ∨ x = 3 ∨ x = 4 ∨ x = 5 by omega) with c15 | c15 | c15 | c15 | c15 | c15 | c15
    · refine gi_tabOut (tgt := 88) h dX_rate_15 (by omega) c15 rfl ?_
      refine gi_ldc (n := -1000000) (pc' := 90) h ⟨dX_rate_88, rfl⟩ csX_100 ?_
      exact gs_iret h hE dX_rate_90 (by unfold xRate; rw [if_neg (by omega), if_neg (by omega), if_neg (by omega), if_neg (by omega), if_neg (by omega), if_neg (by omega), if_neg (by omega)]; exact ⟨rfl, rfl⟩)
    · rw [c15]
      refine gi_tabIn (tgt := 52) (a := 0) h dX_rate_15 (by decide) (by decide) rfl rfl ?_
      refine go_aload_n (pc' := 53) h ⟨dX_rate_52, rfl⟩ rfl ?_
      refine go_iload_n (pc' := 54) h ⟨dX_rate_53, rfl⟩ rfl ?_
      refine gd_callVI (e := rStr S p y) (E := tpS S 1) (pc' := 57) (As := [.int (iI (y))]) (st := []) h hF ⟨dX_rate_54, rfl⟩ kvX_245 (cX_rStr X hR) (by omega) rfl (by decide) ⟨_, _, rfl⟩ rfl (Nat.le_of_ble_eq_true rfl) rfl ?_
      exact gs_iret h hE dX_rate_57 (by unfold xRate; rw [if_neg (by omega), if_pos (by omega)]; exact ⟨rfl, rfl⟩)
    · rw [c15]
      refine gi_tabIn (tgt := 58) (a := 1) h dX_rate_15 (by decide) (by decide) rfl rfl ?_
      refine go_aload_n (pc' := 59) h ⟨dX_rate_58, rfl⟩ rfl ?_
      refine go_iload_n (pc' := 60) h ⟨dX_rate_59, rfl⟩ rfl ?_
      refine gd_callVI (e := rFea S p y) (E := tpS (tpS S 10) 1) (pc' := 63) (As := [.int (iI (y))]) (st := []) h hF ⟨dX_rate_60, rfl⟩ kvX_248 (cX_rFea X hR) (by omega) rfl (by decide) ⟨_, _, rfl⟩ rfl (Nat.le_of_ble_eq_true rfl) rfl ?_
      exact gs_iret h hE dX_rate_63 (by unfold xRate; rw [if_neg (by omega), if_neg (by omega), if_pos (by omega)]; exact ⟨rfl, rfl⟩)
    · rw [c15]
      refine gi_tabIn (tgt := 64) (a := 2) h dX_rate_15 (by decide) (by decide) rfl rfl ?_
      refine go_aload_n (pc' := 65) h ⟨dX_rate_64, rfl⟩ rfl ?_
      refine go_iload_n (pc' := 66) h ⟨dX_rate_65, rfl⟩ rfl ?_
      refine gd_callVI (e := rStr S p y - S.1 (p + 2) y) (E := tpS (tpS S 100) 1) (pc' := 69) (As := [.int (iI (y))]) (st := []) h hF ⟨dX_rate_66, rfl⟩ kvX_251 (cX_rBen X hR) (by omega) rfl (by decide) ⟨_, _, rfl⟩ rfl (Nat.le_of_ble_eq_true rfl) rfl ?_
      exact gs_iret h hE dX_rate_69 (by unfold xRate; rw [if_neg (by omega), if_neg (by omega), if_neg (by omega), if_pos (by omega)]; exact ⟨rfl, rfl⟩)
    · rw [c15]
      refine gi_tabIn (tgt := 70) (a := 3) h dX_rate_15 (by decide) (by decide) rfl rfl ?_
      refine go_aload_n (pc' := 71) h ⟨dX_rate_70, rfl⟩ rfl ?_
      refine go_iload_n (pc' := 72) h ⟨dX_rate_71, rfl⟩ rfl ?_
      refine gd_callVI (e := 2 * rFea S p y) (E := tpS (tpS (tpS S 1000) 10) 1) (pc' := 75) (As := [.int (iI (y))]) (st := []) h hF ⟨dX_rate_72, rfl⟩ kvX_254 (cX_rWin X hR) (by omega) rfl (by decide) ⟨_, _, rfl⟩ rfl (Nat.le_of_ble_eq_true rfl) rfl ?_
      exact gs_iret h hE dX_rate_75 (by unfold xRate; rw [if_neg (by omega), if_neg (by omega), if_neg (by omega), if_neg (by omega), if_pos (by omega)]; exact ⟨rfl, rfl⟩)
    · rw [c15]
      refine gi_tabIn (tgt := 76) (a := 4) h dX_rate_15 (by decide) (by decide) rfl rfl ?_
      refine go_aload_n (pc' := 77) h ⟨dX_rate_76, rfl⟩ rfl ?_
      refine go_iload_n (pc' := 78) h ⟨dX_rate_77, rfl⟩ rfl ?_
      refine gd_callVI (e := rStr S p y - S.1 (p + 2) y + y) (E := tpS (tpS (tpS S 10000) 100) 1) (pc' := 81) (As := [.int (iI (y))]) (st := []) h hF ⟨dX_rate_78, rfl⟩ kvX_257 (cX_rNam X hR) (by omega) rfl (by decide) ⟨_, _, rfl⟩ rfl (Nat.le_of_ble_eq_true rfl) rfl ?_
      exact gs_iret h hE dX_rate_81 (by unfold xRate; rw [if_neg (by omega), if_neg (by omega), if_neg (by omega), if_neg (by omega), if_neg (by omega), if_pos (by omega)]; exact ⟨rfl, rfl⟩)
    · rw [c15]
      refine gi_tabIn (tgt := 82) (a := 5) h dX_rate_15 (by decide) (by decide) rfl rfl ?_
      refine go_aload_n (pc' := 83) h ⟨dX_rate_82, rfl⟩ rfl ?_
      refine go_iload_n (pc' := 84) h ⟨dX_rate_83, rfl⟩ rfl ?_
      refine gd_callVI (e := rStr S p y + sumI (S.1 34) 4) (E := tpS (tpS S 100000) 1) (pc' := 87) (As := [.int (iI (y))]) (st := []) h hF ⟨dX_rate_84, rfl⟩ kvX_260 (cX_rClo X hR) (by omega) rfl (by decide) ⟨_, _, rfl⟩ rfl (Nat.le_of_ble_eq_true rfl) rfl ?_
      exact gs_iret h hE dX_rate_87 (by unfold xRate; rw [if_neg (by omega), if_neg (by omega), if_neg (by omega), if_neg (by omega), if_neg (by omega), if_neg (by omega), if_pos (by omega)]; exact ⟨rfl, rfl⟩)
  · have c8 := b0 c8
    refine gi_ldc (n := -1000000) (pc' := 13) h ⟨dX_rate_11, rfl⟩ csX_100 ?_
    exact gs_iret h hE dX_rate_13 (by unfold xRate; rw [if_pos (by omega)]; exact ⟨rfl, rfl⟩)
def rkP (S : Sg) (p : Nat) (t : Int) : Int := sumI (fun u => if S.1 (p + 12) t < S.1 (p + 12) u ∨ (S.1 (p + 12) u = S.1 (p + 12) t ∧ u < t) then 1 else 0) (S.1 (p + 11) 1)
def xCan (S : Sg) (p : Nat) (x r : Int) (S' : Sg) : Prop := ((x < -2 ∨ S.1 (p + 11) 1 ≤ x) ∧ r = -1 ∧ S' = S) ∨ (x = -1 ∧ r = wayN S (S.1 (p + 11) 1) (-1) 0 ∧ ∃ f, S' = nst S f) ∨ (x = -2 ∧ (∃ f, S' = nst S f) ∧ ((r = -9 ∧ ∀ j : Int, 0 ≤ j → j ≤ 40 → cw S (S.1 (p + 11) 1) (-1) 0 j ≤ 0) ∨ (0 ≤ r ∧ r ≤ 40 ∧ 0 < cw S (S.1 (p + 11) 1) (-1) 0 r ∧ ∀ j : Int, 0 ≤ j → j < r → cw S (S.1 (p + 11) 1) (-1) 0 j ≤ 0))) ∨ ((0 ≤ x ∧ x < S.1 (p + 11) 1) ∧ (∃ f, S' = nst S f) ∧ ((r = -9 ∧ (wayN S (S.1 (p + 11) 1) (-1) 0 ≤ 0 ∨ ∀ t : Int, 0 ≤ t → t ≤ 9 → wayN S (S.1 (p + 11) 1) (rkP S p x) t ≠ wayN S (S.1 (p + 11) 1) (-1) 0)) ∨ (0 ≤ r ∧ r ≤ 9 ∧ 0 < wayN S (S.1 (p + 11) 1) (-1) 0 ∧ wayN S (S.1 (p + 11) 1) (rkP S p x) r = wayN S (S.1 (p + 11) 1) (-1) 0 ∧ ∀ t : Int, 0 ≤ t → t < r → wayN S (S.1 (p + 11) 1) (rkP S p x) t ≠ wayN S (S.1 (p + 11) 1) (-1) 0)))
theorem rkP_bd {S : Sg} {p : Nat} (h : planOk S p) (t : Int) : 0 ≤ rkP S p t ∧ rkP S p t ≤ 4 := by
  have h3 := h.2.2.1
  have := sumI_bd (f := fun u => if S.1 (p + 12) t < S.1 (p + 12) u ∨ (S.1 (p + 12) u = S.1 (p + 12) t ∧ u < t) then 1 else 0) (B := 1) (n := S.1 (p + 11) 1) h3.1 (fun i _ _ => by
    show 0 ≤ (if _ then (1 : Int) else 0) ∧ (if _ then (1 : Int) else 0) ≤ 1
    split <;> omega)
  unfold rkP
  omega
set_option maxRecDepth 4000 in
theorem cX_can (X : XT) {S : Sg} {p q : Nat} (hC : CI S p q) {x : Int} (hx : -2147483648 ≤ x ∧ x ≤ 2147483647) (hb1 : ∀ j : Int, 0 ≤ j → j ≤ 40 → 0 ≤ cw S (S.1 (p + 11) 1) (-1) 0 j ∧ cw S (S.1 (p + 11) 1) (-1) 0 j ≤ 2147483647) (hb2 : ∀ q t : Int, 0 ≤ wayN S (S.1 (p + 11) 1) q t ∧ wayN S (S.1 (p + 11) 1) q t ≤ 2147483647) : Ctr X 6 yX_can bX_can 3 (some .int) [.ref 0, .int (iI (x))] (mk S) (PI (fun r S' => xCan S p x r S')) 0 0 := by
  refine Ctr.ofS (by decide) rfl (Nat.le_of_ble_eq_true rfl) (fun F h hF hE => ?_)
  obtain ⟨epq, opq, hW, hok, cb, hlt, hmk, hsc, hwl, hwr, hth, hdd, hse, hme, hke⟩ := id hC
  have hp : p = 4 ∨ p = 17 := by omega
  have hk := kd_p hp
  obtain ⟨k1, k3, k5, k7, k9, k11, l2, l4, l6, l8, l10, l12⟩ := plan_ok hk
  obtain ⟨o1, o2, o3, o4, o5, o6, o7⟩ := id hok
  have z39 : 0 ≤ S.1 39 1 ∧ S.1 39 1 ≤ 6 := hW 39 rfl
  have z66 : 0 ≤ S.1 66 1 ∧ S.1 66 1 ≤ 10 := hW 66 rfl
  have z2 : 0 ≤ S.1 2 1 ∧ S.1 2 1 ≤ 120 := hW 2 rfl
  have z75 : 0 ≤ S.1 75 1 ∧ S.1 75 1 ≤ 6 := hW 75 rfl
  have z84 : 0 ≤ S.1 84 1 ∧ S.1 84 1 ≤ 6 := hW 84 rfl
  refine go_iload_n (pc' := 1) h ⟨dX_can_0, rfl⟩ rfl ?_
  refine gi_bipush (pc' := 3) h ⟨dX_can_1, rfl⟩ rfl ?_
  refine gi_icmp_lt (tgt := 20) (pc' := 6) h dX_can_3 rfl rfl (by omega) (fun c3 => ?_) (fun c3 => ?_)
  · refine gi_iconst (pc' := 21) h ⟨dX_can_20, rfl⟩ ?_
    exact gs_iret h hE dX_can_21 (Or.inl ⟨by omega, rfl, rfl⟩)
  · refine go_iload_n (pc' := 7) h ⟨dX_can_6, rfl⟩ rfl ?_
    refine go_aload_n (pc' := 8) h ⟨dX_can_7, rfl⟩ rfl ?_
    refine gs_get (v := .ref p) (pc' := 11) h ⟨dX_can_8, rfl⟩ fgX_19 rfl (by decide) (by show (fl _ _ S.2.2 0 7)[1]? = _; rw [epq]; rfl) ?_
    refine gs_get (v := .ref (p + 11)) (pc' := 14) h ⟨dX_can_11, rfl⟩ fgX_120 hk (by decide) (rfl) ?_
    refine gd_callVI (e := S.1 (p + 11) 1) (E := S) (pc' := 17) (As := []) (st := [.int (iI (x))]) h hF ⟨dX_can_14, rfl⟩ kvX_79 (cR_size X k11) (by omega) k11 (by decide) ⟨_, _, rfl⟩ rfl (Nat.le_of_ble_eq_true rfl) rfl ?_
    refine gi_icmp_lt (tgt := 22) (pc' := 20) h dX_can_17 rfl rfl (by omega) (fun c17 => ?_) (fun c17 => ?_)
    · have hrk := rkP_bd hok x
      refine go_aload_n (pc' := 23) h ⟨dX_can_22, rfl⟩ rfl ?_
      refine gs_get (v := .ref p) (pc' := 26) h ⟨dX_can_23, rfl⟩ fgX_19 rfl (by decide) (by show (fl _ _ S.2.2 0 7)[1]? = _; rw [epq]; rfl) ?_
      refine gs_get (v := .ref (p + 11)) (pc' := 29) h ⟨dX_can_26, rfl⟩ fgX_120 hk (by decide) (rfl) ?_
      refine gd_callVI (e := S.1 (p + 11) 1) (E := S) (pc' := 32) (As := []) (st := []) h hF ⟨dX_can_29, rfl⟩ kvX_79 (cR_size X k11) (by omega) k11 (by decide) ⟨_, _, rfl⟩ rfl (Nat.le_of_ble_eq_true rfl) rfl ?_
      refine go_istore_n (L' := [.ref 0, .int (iI (x)), .int (iI (S.1 (p + 11) 1))]) (pc' := 33) h ⟨dX_can_32, rfl⟩ (by decide) rfl rfl ?_
      refine go_iload_n (pc' := 34) h ⟨dX_can_33, rfl⟩ rfl ?_
      refine gi_iconst (pc' := 35) h ⟨dX_can_34, rfl⟩ ?_
      refine gi_icmp_ne (tgt := 49) (pc' := 38) h dX_can_35 rfl rfl (by omega) (fun c35 => ?_) (fun c35 => ?_)
      · refine go_iload_n (pc' := 50) h ⟨dX_can_49, rfl⟩ rfl ?_
        refine gi_bipush (pc' := 52) h ⟨dX_can_50, rfl⟩ rfl ?_
        refine gi_icmp_ne (tgt := 64) (pc' := 55) h dX_can_52 rfl rfl (by omega) (fun c52 => ?_) (fun c52 => ?_)
        · refine go_aload_n (pc' := 65) h ⟨dX_can_64, rfl⟩ rfl ?_
          refine gs_get (v := .ref 72) (pc' := 68) h ⟨dX_can_65, rfl⟩ fgX_58 rfl (by decide) (rfl) ?_
          refine go_iload_n (pc' := 69) h ⟨dX_can_68, rfl⟩ rfl ?_
          refine go_aload_n (pc' := 70) h ⟨dX_can_69, rfl⟩ rfl ?_
          refine gs_get (v := .ref p) (pc' := 73) h ⟨dX_can_70, rfl⟩ fgX_19 rfl (by decide) (by show (fl _ _ S.2.2 0 7)[1]? = _; rw [epq]; rfl) ?_
          refine go_iload_n (pc' := 74) h ⟨dX_can_73, rfl⟩ rfl ?_
          refine gd_callVI (e := rkP S p x) (E := S) (pc' := 77) (As := [.int (iI (x))]) (st := [.int (iI (S.1 (p + 11) 1)), .ref 72]) h hF ⟨dX_can_74, rfl⟩ kvX_212 (cP_rank X hk hok (by omega)) (by omega) hk (by decide) ⟨_, _, rfl⟩ rfl (Nat.le_of_ble_eq_true rfl) rfl ?_
          refine gs_callVI (pc' := 80) (As := [.int (iI (S.1 (p + 11) 1)), .int (iI (rkP S p x))]) (st := []) h hF ⟨dX_can_77, rfl⟩ kvX_215 (cN_times X hse (by omega) (by omega) hb2) (by omega) rfl (by decide) ⟨_, _, rfl⟩ rfl (Nat.le_of_ble_eq_true rfl) rfl (fun r77 S77 h77 => ?_)
          exact gs_iret h hE dX_can_80 (Or.inr (Or.inr (Or.inr ⟨by omega, h77.1, h77.2⟩)))
        · refine go_aload_n (pc' := 56) h ⟨dX_can_55, rfl⟩ rfl ?_
          refine gs_get (v := .ref 72) (pc' := 59) h ⟨dX_can_56, rfl⟩ fgX_58 rfl (by decide) (rfl) ?_
          refine go_iload_n (pc' := 60) h ⟨dX_can_59, rfl⟩ rfl ?_
          refine gs_callVI (pc' := 63) (As := [.int (iI (S.1 (p + 11) 1))]) (st := []) h hF ⟨dX_can_60, rfl⟩ kvX_209 (cN_fewest X hse (by omega) hb1) (by omega) rfl (by decide) ⟨_, _, rfl⟩ rfl (Nat.le_of_ble_eq_true rfl) rfl (fun r60 S60 h60 => ?_)
          exact gs_iret h hE dX_can_63 (Or.inr (Or.inr (Or.inl ⟨by omega, ⟨_, h60.1⟩, h60.2⟩)))
      · refine go_aload_n (pc' := 39) h ⟨dX_can_38, rfl⟩ rfl ?_
        refine gs_get (v := .ref 72) (pc' := 42) h ⟨dX_can_39, rfl⟩ fgX_58 rfl (by decide) (rfl) ?_
        refine go_iload_n (pc' := 43) h ⟨dX_can_42, rfl⟩ rfl ?_
        refine gi_iconst (pc' := 44) h ⟨dX_can_43, rfl⟩ ?_
        refine gi_iconst (pc' := 45) h ⟨dX_can_44, rfl⟩ ?_
        refine gd_callVI (e := wayN S (S.1 (p + 11) 1) (-1) 0) (E := nst S (cw S (S.1 (p + 11) 1) (-1) 0)) (pc' := 48) (As := [.int (iI (S.1 (p + 11) 1)), .int (iI (-1)), .int (iI (0))]) (st := []) h hF ⟨dX_can_45, rfl⟩ kvX_205 (cN_countWays X hse (by omega) (by omega) (by omega)) (by omega) rfl (by decide) ⟨_, _, rfl⟩ rfl (Nat.le_of_ble_eq_true rfl) rfl ?_
        exact gs_iret h hE dX_can_48 (Or.inr (Or.inl ⟨by omega, rfl, _, rfl⟩))
    · refine gi_iconst (pc' := 21) h ⟨dX_can_20, rfl⟩ ?_
      exact gs_iret h hE dX_can_21 (Or.inl ⟨by omega, rfl, rfl⟩)
def xAgree (S : Sg) (p : Nat) (x r : Int) (S' : Sg) : Prop := (x = 0 ∧ r = mxF S (3 ^ measN S) ∧ ∃ f, S' = bst S f) ∨ (x = 1 ∧ r = sumI (offF S p) (S.1 84 1) ∧ S' = S) ∨ ((x ≠ 0 ∧ x ≠ 1) ∧ r = -1 ∧ S' = S)
set_option maxRecDepth 4000 in
theorem cX_agree (X : XT) {S : Sg} {p q : Nat} (hC : CI S p q) {x : Int} (hx : -2147483648 ≤ x ∧ x ≤ 2147483647) : Ctr X 6 yX_agree bX_agree 2 (some .int) [.ref 0, .int (iI (x))] (mk S) (PI (fun r S' => xAgree S p x r S')) 0 0 := by
  refine Ctr.ofS (by decide) rfl (Nat.le_of_ble_eq_true rfl) (fun F h hF hE => ?_)
  obtain ⟨epq, opq, hW, hok, cb, hlt, hmk, hsc, hwl, hwr, hth, hdd, hse, hme, hke⟩ := id hC
  have hp : p = 4 ∨ p = 17 := by omega
  have hk := kd_p hp
  obtain ⟨k1, k3, k5, k7, k9, k11, l2, l4, l6, l8, l10, l12⟩ := plan_ok hk
  obtain ⟨o1, o2, o3, o4, o5, o6, o7⟩ := id hok
  have z39 : 0 ≤ S.1 39 1 ∧ S.1 39 1 ≤ 6 := hW 39 rfl
  have z66 : 0 ≤ S.1 66 1 ∧ S.1 66 1 ≤ 10 := hW 66 rfl
  have z2 : 0 ≤ S.1 2 1 ∧ S.1 2 1 ≤ 120 := hW 2 rfl
  have z75 : 0 ≤ S.1 75 1 ∧ S.1 75 1 ≤ 6 := hW 75 rfl
  have z84 : 0 ≤ S.1 84 1 ∧ S.1 84 1 ≤ 6 := hW 84 rfl
  refine go_iload_n (pc' := 1) h ⟨dX_agree_0, rfl⟩ rfl ?_
  rcases (show x = 0 ∨ x = 1 ∨ ¬ (x = 0 ∨ x = 1) by omega) with c1 | c1 | c1
  · rw [c1]
    refine gi_lookup (tgt := 28) (a := 0) (off := 27) h dX_agree_1 (by decide) (by decide) rfl rfl ?_
    refine go_aload_n (pc' := 29) h ⟨dX_agree_28, rfl⟩ rfl ?_
    refine gs_get (v := .ref 79) (pc' := 32) h ⟨dX_agree_29, rfl⟩ fgX_65 rfl (by decide) (rfl) ?_
    refine gs_callVI (pc' := 35) (As := []) (st := []) h hF ⟨dX_agree_32, rfl⟩ kvX_226 (cM_least X hme) (by omega) rfl (by decide) ⟨_, _, rfl⟩ rfl (Nat.le_of_ble_eq_true rfl) rfl (fun r32 S32 h32 => ?_)
    exact gs_iret h hE dX_agree_35 (by subst c1; exact Or.inl ⟨rfl, h32.1, h32.2⟩)
  · rw [c1]
    refine gi_lookup (tgt := 36) (a := 1) (off := 35) h dX_agree_1 (by decide) (by decide) rfl rfl ?_
    refine go_aload_n (pc' := 37) h ⟨dX_agree_36, rfl⟩ rfl ?_
    refine gs_get (v := .ref 79) (pc' := 40) h ⟨dX_agree_37, rfl⟩ fgX_65 rfl (by decide) (rfl) ?_
    refine go_aload_n (pc' := 41) h ⟨dX_agree_40, rfl⟩ rfl ?_
    refine gs_get (v := .ref p) (pc' := 44) h ⟨dX_agree_41, rfl⟩ fgX_19 rfl (by decide) (by show (fl _ _ S.2.2 0 7)[1]? = _; rw [epq]; rfl) ?_
    refine gd_callVI (e := sumI (offF S p) (S.1 84 1)) (E := S) (pc' := 47) (As := [.ref p]) (st := []) h hF ⟨dX_agree_44, rfl⟩ kvX_229 (cM_off X hk hok hme hmk) (by omega) rfl (by decide) ⟨_, _, rfl⟩ rfl (Nat.le_of_ble_eq_true rfl) rfl ?_
    exact gs_iret h hE dX_agree_47 (by subst c1; exact Or.inr (Or.inl ⟨rfl, rfl, rfl⟩))
  · refine gi_lookup (tgt := 48) (off := 47) h dX_agree_1 (by omega) (by decide) (by show Op.lookupswitch.offset [(0, 27), (1, 35)] 47 _ = 47; rw [Op.lookupswitch.offset_cons, if_neg (by omega), Op.lookupswitch.offset_cons, if_neg (by omega)]; rfl) rfl ?_
    refine gi_iconst (pc' := 49) h ⟨dX_agree_48, rfl⟩ ?_
    exact gs_iret h hE dX_agree_49 (Or.inr (Or.inr ⟨by omega, rfl, rfl⟩))
/-! whose the things are -/
def cO (th br : Int → Int) (nt nb fx ow : Int) : Nat → Int → Int → Int
  | 0, _, _ => 1
  | n + 1, i, tk => if nt ≤ i then 1 else sumI (fun t => if bitI tk t = 0 ∧ (i ≠ fx ∨ t = ow) ∧ th i ≤ br t then cO th br nt nb fx ow n (i + 1) (tk + 2 ^ t.toNat) else 0) nb
theorem p4 : ∀ n : Nat, (1 : Int) ≤ 4 ^ n
  | 0 => by decide
  | n + 1 => by have := p4 n; rw [Int.pow_succ]; omega
theorem cO_bd (th br : Int → Int) {nt nb : Int} (fx ow : Int) (hn : 0 ≤ nb ∧ nb ≤ 4) : ∀ (n : Nat) (i tk : Int), 0 ≤ cO th br nt nb fx ow n i tk ∧ cO th br nt nb fx ow n i tk ≤ 4 ^ n
  | 0, _, _ => by rw [cO]; decide
  | n + 1, i, tk => by
    have hp := p4 n
    rw [cO, Int.pow_succ]
    split
    · omega
    · have h1 := sumI_bd (f := fun t => if bitI tk t = 0 ∧ (i ≠ fx ∨ t = ow) ∧ th i ≤ br t then cO th br nt nb fx ow n (i + 1) (tk + 2 ^ t.toNat) else 0) (B := 4 ^ n) (n := nb) hn.1 (fun t _ _ => by
        have h2 := cO_bd th br (nt := nt) fx ow hn n (i + 1) (tk + 2 ^ t.toNat)
        show 0 ≤ (if _ then _ else (0 : Int)) ∧ (if _ then _ else (0 : Int)) ≤ _
        split <;> omega)
      refine ⟨h1.1, Int.le_trans h1.2 (Int.mul_le_mul_of_nonneg_left hn.2 (by omega))⟩
def oG (th br : Int → Int) (nt nb fx ow : Int) (n : Nat) (i tk : Int) : Int → Int := fun t => if bitI tk t = 0 ∧ (i ≠ fx ∨ t = ow) ∧ th i ≤ br t then cO th br nt nb fx ow n (i + 1) (tk + 2 ^ t.toNat) else 0
theorem cO_s (th br : Int → Int) (nt nb fx ow : Int) (n : Nat) {i : Int} (tk : Int) (h : i < nt) : cO th br nt nb fx ow (n + 1) i tk = sumI (oG th br nt nb fx ow n i tk) nb := by
  rw [cO, if_neg (by omega)]
  rfl
theorem oG_y {th br : Int → Int} {nt nb fx ow : Int} {n : Nat} {i tk t : Int} (h : bitI tk t = 0) (h1 : i ≠ fx ∨ t = ow) (h2 : th i ≤ br t) : oG th br nt nb fx ow n i tk t = cO th br nt nb fx ow n (i + 1) (tk + 2 ^ t.toNat) := if_pos ⟨h, h1, h2⟩
theorem oG_n {th br : Int → Int} {nt nb fx ow : Int} {n : Nat} {i tk t : Int} (h : bitI tk t ≠ 0 ∨ (i = fx ∧ t ≠ ow) ∨ br t < th i) : oG th br nt nb fx ow n i tk t = 0 := if_neg (by omega)
set_option maxRecDepth 4000 in
theorem cX_own (X : XT) {S : Sg} {p : Nat} (hk : kd p = 2) (hok : planOk S p) (hz : 0 ≤ S.1 39 1 ∧ S.1 39 1 ≤ 6) (hth : ∀ i : Int, 0 ≤ i → i < S.1 39 1 → 0 ≤ S.1 40 i ∧ S.1 40 i ≤ 100) {fx ow : Int} (hfx : -1 ≤ fx ∧ fx ≤ 6) (how : 0 ≤ ow ∧ ow ≤ 4) : ∀ (n : Nat) (i tk : Int), 0 ≤ i → i ≤ S.1 39 1 → S.1 39 1 ≤ i + n → 0 ≤ tk ∧ tk ≤ 15 → Ctr X (n + 1) yX_countOwners bX_countOwners 10 (some .int) [.ref 39, .ref (p + 11), .int (iI (i)), .int (iI (tk)), .int (iI (fx)), .int (iI (ow))] (mk S) (PI (fun r S' => r = cO (S.1 40) (S.1 (p + 12)) (S.1 39 1) (S.1 (p + 11) 1) fx ow n i tk ∧ S' = S)) 0 0 := by
  obtain ⟨k1, k3, k5, k7, k9, k11, l2, l4, l6, l8, l10, l12⟩ := plan_ok hk
  obtain ⟨o1, o2, o3, o4, o5, o6, o7⟩ := id hok
  intro n
  induction n with
  | zero =>
    intro i tk g1 g2 g3 g4
    refine Ctr.ofS (by decide) rfl (Nat.le_of_ble_eq_true rfl) (fun F h hF hE => ?_)
    refine go_iload_n (pc' := 1) h ⟨dX_countOwners_0, rfl⟩ rfl ?_
    refine go_aload_n (pc' := 2) h ⟨dX_countOwners_1, rfl⟩ rfl ?_
    refine gd_callVI (e := S.1 39 1) (E := S) (pc' := 5) (As := []) (st := [.int (iI (i))]) h hF ⟨dX_countOwners_2, rfl⟩ kvX_79 (cR_size X rfl) (by omega) rfl (by decide) ⟨_, _, rfl⟩ rfl (Nat.le_of_ble_eq_true rfl) rfl ?_
    refine gi_icmp_lt (tgt := 10) (pc' := 8) h dX_countOwners_5 rfl rfl (by omega) (fun c5 => ?_) (fun c5 => ?_)
    · exfalso; omega
    · refine gi_iconst (pc' := 9) h ⟨dX_countOwners_8, rfl⟩ ?_
      exact gs_iret h hE dX_countOwners_9 (⟨rfl, rfl⟩)
  | succ n ih =>
    intro i tk g1 g2 g3 g4
    have hi := hth i
    refine Ctr.ofS (by decide) rfl (Nat.le_of_ble_eq_true rfl) (fun F h hF hE => ?_)
    have loop : ∀ (m : Nat) (t : Int), S.1 (p + 11) 1 < t + m → 0 ≤ t → t ≤ S.1 (p + 11) 1 → i < S.1 39 1 → Go F 10 (mk S) 0 0 16 [.ref 39, .ref (p + 11), .int (iI i), .int (iI tk), .int (iI fx), .int (iI ow), .int (iI (sumI (oG (S.1 40) (S.1 (p + 12)) (S.1 39 1) (S.1 (p + 11) 1) fx ow n i tk) t)), .int (iI t)] [] := by
      intro m
      induction m with
      | zero => intro t g5 g6 g7; exfalso; omega
      | succ m ihm =>
        intro t g5 g6 g7 gi
        refine go_iload (pc' := 18) h ⟨dX_countOwners_16, rfl⟩ rfl ?_
        refine go_aload_n (pc' := 19) h ⟨dX_countOwners_18, rfl⟩ rfl ?_
        refine gd_callVI (e := S.1 (p + 11) 1) (E := S) (pc' := 22) (As := []) (st := [.int (iI (t))]) h hF ⟨dX_countOwners_19, rfl⟩ kvX_79 (cR_size X k11) (by omega) k11 (by decide) ⟨_, _, rfl⟩ rfl (Nat.le_of_ble_eq_true rfl) rfl ?_
        refine gi_icmp_ge (tgt := 114) (pc' := 25) h dX_countOwners_22 rfl rfl (by omega) (fun c22 => ?_) (fun c22 => ?_)
        · refine go_iload (pc' := 116) h ⟨dX_countOwners_114, rfl⟩ rfl ?_
          exact gs_iret h hE dX_countOwners_116 (⟨by rw [cO_s _ _ _ _ _ _ _ _ gi, show S.1 (p + 11) 1 = t by omega], rfl⟩)
        · have p1 := pow2le (k := t) (by omega)
          have b1 := bitI_01 tk t
          have b2 : (bitI tk t = 0 ∧ bitI tk t * 2 ^ t.toNat = 0) ∨ (bitI tk t = 1 ∧ bitI tk t * 2 ^ t.toNat = 2 ^ t.toNat) := by
            rcases b1 with b1 | b1
            · exact Or.inl ⟨b1, by rw [b1, Int.zero_mul]⟩
            · exact Or.inr ⟨b1, by rw [b1, Int.one_mul]⟩
          have bt := o6 t (by omega) (by omega)
          have bh := hi g1 gi
          refine go_iload_n (pc' := 26) h ⟨dX_countOwners_25, rfl⟩ rfl ?_
          refine gi_iconst (pc' := 27) h ⟨dX_countOwners_26, rfl⟩ ?_
          refine go_iload (pc' := 29) h ⟨dX_countOwners_27, rfl⟩ rfl ?_
          refine gi_ishl (c := 2 ^ t.toNat) (pc' := 30) h ⟨dX_countOwners_29, rfl⟩ (shl1 (by omega)) ?_
          refine gi_iand (c := bitI tk t * 2 ^ t.toNat) (pc' := 31) h ⟨dX_countOwners_30, rfl⟩ (and1 g4 (by omega)) ?_
          refine gi_if_ne (tgt := 38) (pc' := 34) h dX_countOwners_31 rfl rfl (by omega) (fun c31 => ?_) (fun c31 => ?_)
          · refine gi_iconst (pc' := 39) h ⟨dX_countOwners_38, rfl⟩ ?_
            refine go_istore (L' := [.ref 39, .ref (p + 11), .int (iI (i)), .int (iI (tk)), .int (iI (fx)), .int (iI (ow)), .int (iI (sumI (oG (S.1 40) (S.1 (p + 12)) (S.1 39 1) (S.1 (p + 11) 1) fx ow n i tk) t)), .int (iI (t)), .int (iI (0))]) (pc' := 41) h ⟨dX_countOwners_39, rfl⟩ (by decide) rfl rfl ?_
            refine go_iload_n (pc' := 42) h ⟨dX_countOwners_41, rfl⟩ rfl ?_
            refine go_iload (pc' := 44) h ⟨dX_countOwners_42, rfl⟩ rfl ?_
            refine gi_icmp_ne (tgt := 54) (pc' := 47) h dX_countOwners_44 rfl rfl (by omega) (fun c44 => ?_) (fun c44 => ?_)
            · refine gi_iconst (pc' := 55) h ⟨dX_countOwners_54, rfl⟩ ?_
              refine gi_goto (tgt := 59) h dX_countOwners_55 rfl ?_
              refine go_istore (L' := [.ref 39, .ref (p + 11), .int (iI (i)), .int (iI (tk)), .int (iI (fx)), .int (iI (ow)), .int (iI (sumI (oG (S.1 40) (S.1 (p + 12)) (S.1 39 1) (S.1 (p + 11) 1) fx ow n i tk) t)), .int (iI (t)), .int (iI (0)), .int (iI (1))]) (pc' := 61) h ⟨dX_countOwners_59, rfl⟩ (by decide) rfl rfl ?_
              refine go_iload (pc' := 63) h ⟨dX_countOwners_61, rfl⟩ rfl ?_
              refine gi_if_eq (tgt := 108) (pc' := 66) h dX_countOwners_63 rfl rfl (by omega) (fun c63 => ?_) (fun c63 => ?_)
              · refine gi_iinc (L' := [.ref 39, .ref (p + 11), .int (iI (i)), .int (iI (tk)), .int (iI (fx)), .int (iI (ow)), .int (iI (sumI (oG (S.1 40) (S.1 (p + 12)) (S.1 39 1) (S.1 (p + 11) 1) fx ow n i tk) t)), .int (iI (t + 1)), .int (iI (0)), .int (iI (1))]) (pc' := 111) h ⟨dX_countOwners_108, rfl⟩ rfl (by decide) rfl rfl ?_
                refine gi_goto (tgt := 16) h dX_countOwners_111 rfl ?_
                refine Go.cut [.ref 39, .ref (p + 11), .int (iI (i)), .int (iI (tk)), .int (iI (fx)), .int (iI (ow)), .int (iI (sumI (oG (S.1 40) (S.1 (p + 12)) (S.1 39 1) (S.1 (p + 11) 1) fx ow n i tk) t)), .int (iI (t + 1))] 8 rfl ?_
                have g9 := ihm (t + 1) (by omega) (by omega) (by omega) gi
                rw [sumI_s _ g6] at g9
                rw [oG_n (by omega), Int.add_zero] at g9
                exact g9
              · exact absurd c63 (by decide)
            · refine go_iload (pc' := 49) h ⟨dX_countOwners_47, rfl⟩ rfl ?_
              refine go_iload (pc' := 51) h ⟨dX_countOwners_49, rfl⟩ rfl ?_
              refine gi_icmp_ne (tgt := 58) (pc' := 54) h dX_countOwners_51 rfl rfl (by omega) (fun c51 => ?_) (fun c51 => ?_)
              · refine gi_iconst (pc' := 59) h ⟨dX_countOwners_58, rfl⟩ ?_
                refine go_istore (L' := [.ref 39, .ref (p + 11), .int (iI (i)), .int (iI (tk)), .int (iI (fx)), .int (iI (ow)), .int (iI (sumI (oG (S.1 40) (S.1 (p + 12)) (S.1 39 1) (S.1 (p + 11) 1) fx ow n i tk) t)), .int (iI (t)), .int (iI (0)), .int (iI (0))]) (pc' := 61) h ⟨dX_countOwners_59, rfl⟩ (by decide) rfl rfl ?_
                refine go_iload (pc' := 63) h ⟨dX_countOwners_61, rfl⟩ rfl ?_
                refine gi_if_eq (tgt := 108) (pc' := 66) h dX_countOwners_63 rfl rfl (by omega) (fun c63 => ?_) (fun c63 => ?_)
                · refine gi_iinc (L' := [.ref 39, .ref (p + 11), .int (iI (i)), .int (iI (tk)), .int (iI (fx)), .int (iI (ow)), .int (iI (sumI (oG (S.1 40) (S.1 (p + 12)) (S.1 39 1) (S.1 (p + 11) 1) fx ow n i tk) t)), .int (iI (t + 1)), .int (iI (0)), .int (iI (0))]) (pc' := 111) h ⟨dX_countOwners_108, rfl⟩ rfl (by decide) rfl rfl ?_
                  refine gi_goto (tgt := 16) h dX_countOwners_111 rfl ?_
                  refine Go.cut [.ref 39, .ref (p + 11), .int (iI (i)), .int (iI (tk)), .int (iI (fx)), .int (iI (ow)), .int (iI (sumI (oG (S.1 40) (S.1 (p + 12)) (S.1 39 1) (S.1 (p + 11) 1) fx ow n i tk) t)), .int (iI (t + 1))] 8 rfl ?_
                  have g9 := ihm (t + 1) (by omega) (by omega) (by omega) gi
                  rw [sumI_s _ g6] at g9
                  rw [oG_n (by omega), Int.add_zero] at g9
                  exact g9
                · exact absurd c63 (by decide)
              · refine gi_iconst (pc' := 55) h ⟨dX_countOwners_54, rfl⟩ ?_
                refine gi_goto (tgt := 59) h dX_countOwners_55 rfl ?_
                refine go_istore (L' := [.ref 39, .ref (p + 11), .int (iI (i)), .int (iI (tk)), .int (iI (fx)), .int (iI (ow)), .int (iI (sumI (oG (S.1 40) (S.1 (p + 12)) (S.1 39 1) (S.1 (p + 11) 1) fx ow n i tk) t)), .int (iI (t)), .int (iI (0)), .int (iI (1))]) (pc' := 61) h ⟨dX_countOwners_59, rfl⟩ (by decide) rfl rfl ?_
                refine go_iload (pc' := 63) h ⟨dX_countOwners_61, rfl⟩ rfl ?_
                refine gi_if_eq (tgt := 108) (pc' := 66) h dX_countOwners_63 rfl rfl (by omega) (fun c63 => ?_) (fun c63 => ?_)
                · refine gi_iinc (L' := [.ref 39, .ref (p + 11), .int (iI (i)), .int (iI (tk)), .int (iI (fx)), .int (iI (ow)), .int (iI (sumI (oG (S.1 40) (S.1 (p + 12)) (S.1 39 1) (S.1 (p + 11) 1) fx ow n i tk) t)), .int (iI (t + 1)), .int (iI (0)), .int (iI (1))]) (pc' := 111) h ⟨dX_countOwners_108, rfl⟩ rfl (by decide) rfl rfl ?_
                  refine gi_goto (tgt := 16) h dX_countOwners_111 rfl ?_
                  refine Go.cut [.ref 39, .ref (p + 11), .int (iI (i)), .int (iI (tk)), .int (iI (fx)), .int (iI (ow)), .int (iI (sumI (oG (S.1 40) (S.1 (p + 12)) (S.1 39 1) (S.1 (p + 11) 1) fx ow n i tk) t)), .int (iI (t + 1))] 8 rfl ?_
                  have g9 := ihm (t + 1) (by omega) (by omega) (by omega) gi
                  rw [sumI_s _ g6] at g9
                  rw [oG_n (by omega), Int.add_zero] at g9
                  exact g9
                · exact absurd c63 (by decide)
          · refine gi_iconst (pc' := 35) h ⟨dX_countOwners_34, rfl⟩ ?_
            refine gi_goto (tgt := 39) h dX_countOwners_35 rfl ?_
            refine go_istore (L' := [.ref 39, .ref (p + 11), .int (iI (i)), .int (iI (tk)), .int (iI (fx)), .int (iI (ow)), .int (iI (sumI (oG (S.1 40) (S.1 (p + 12)) (S.1 39 1) (S.1 (p + 11) 1) fx ow n i tk) t)), .int (iI (t)), .int (iI (1))]) (pc' := 41) h ⟨dX_countOwners_39, rfl⟩ (by decide) rfl rfl ?_
            refine go_iload_n (pc' := 42) h ⟨dX_countOwners_41, rfl⟩ rfl ?_
            refine go_iload (pc' := 44) h ⟨dX_countOwners_42, rfl⟩ rfl ?_
            refine gi_icmp_ne (tgt := 54) (pc' := 47) h dX_countOwners_44 rfl rfl (by omega) (fun c44 => ?_) (fun c44 => ?_)
            · refine gi_iconst (pc' := 55) h ⟨dX_countOwners_54, rfl⟩ ?_
              refine gi_goto (tgt := 59) h dX_countOwners_55 rfl ?_
              refine go_istore (L' := [.ref 39, .ref (p + 11), .int (iI (i)), .int (iI (tk)), .int (iI (fx)), .int (iI (ow)), .int (iI (sumI (oG (S.1 40) (S.1 (p + 12)) (S.1 39 1) (S.1 (p + 11) 1) fx ow n i tk) t)), .int (iI (t)), .int (iI (1)), .int (iI (1))]) (pc' := 61) h ⟨dX_countOwners_59, rfl⟩ (by decide) rfl rfl ?_
              refine go_iload (pc' := 63) h ⟨dX_countOwners_61, rfl⟩ rfl ?_
              refine gi_if_eq (tgt := 108) (pc' := 66) h dX_countOwners_63 rfl rfl (by omega) (fun c63 => ?_) (fun c63 => ?_)
              · exact absurd c63 (by decide)
              · refine go_iload (pc' := 68) h ⟨dX_countOwners_66, rfl⟩ rfl ?_
                refine gi_if_eq (tgt := 108) (pc' := 71) h dX_countOwners_68 rfl rfl (by omega) (fun c68 => ?_) (fun c68 => ?_)
                · exact absurd c68 (by decide)
                · refine go_aload_n (pc' := 72) h ⟨dX_countOwners_71, rfl⟩ rfl ?_
                  refine go_iload (pc' := 74) h ⟨dX_countOwners_72, rfl⟩ rfl ?_
                  refine gd_callVI (e := S.1 (p + 12) t) (E := S) (pc' := 77) (As := [.int (iI (t))]) (st := []) h hF ⟨dX_countOwners_74, rfl⟩ kvX_104 (cR_ati X (n := 4) k11 l12 (by omega)) (by omega) k11 (by decide) ⟨_, _, rfl⟩ rfl (Nat.le_of_ble_eq_true rfl) rfl ?_
                  refine go_aload_n (pc' := 78) h ⟨dX_countOwners_77, rfl⟩ rfl ?_
                  refine go_iload_n (pc' := 79) h ⟨dX_countOwners_78, rfl⟩ rfl ?_
                  refine gd_callVI (e := S.1 40 i) (E := S) (pc' := 82) (As := [.int (iI (i))]) (st := [.int (iI (S.1 (p + 12) t))]) h hF ⟨dX_countOwners_79, rfl⟩ kvX_104 (cR_ati X (n := 6) rfl rfl (by omega)) (by omega) rfl (by decide) ⟨_, _, rfl⟩ rfl (Nat.le_of_ble_eq_true rfl) rfl ?_
                  refine gi_icmp_lt (tgt := 108) (pc' := 85) h dX_countOwners_82 rfl rfl (by omega) (fun c82 => ?_) (fun c82 => ?_)
                  · refine gi_iinc (L' := [.ref 39, .ref (p + 11), .int (iI (i)), .int (iI (tk)), .int (iI (fx)), .int (iI (ow)), .int (iI (sumI (oG (S.1 40) (S.1 (p + 12)) (S.1 39 1) (S.1 (p + 11) 1) fx ow n i tk) t)), .int (iI (t + 1)), .int (iI (1)), .int (iI (1))]) (pc' := 111) h ⟨dX_countOwners_108, rfl⟩ rfl (by decide) rfl rfl ?_
                    refine gi_goto (tgt := 16) h dX_countOwners_111 rfl ?_
                    refine Go.cut [.ref 39, .ref (p + 11), .int (iI (i)), .int (iI (tk)), .int (iI (fx)), .int (iI (ow)), .int (iI (sumI (oG (S.1 40) (S.1 (p + 12)) (S.1 39 1) (S.1 (p + 11) 1) fx ow n i tk) t)), .int (iI (t + 1))] 8 rfl ?_
                    have g9 := ihm (t + 1) (by omega) (by omega) (by omega) gi
                    rw [sumI_s _ g6] at g9
                    rw [oG_n (by omega), Int.add_zero] at g9
                    exact g9
                  · have g10 : bitI tk t = 0 := by omega
                    have g11 := (or1 g4 (k := t) (by omega) g10).2
                    refine go_iload (pc' := 87) h ⟨dX_countOwners_85, rfl⟩ rfl ?_
                    refine go_aload_n (pc' := 88) h ⟨dX_countOwners_87, rfl⟩ rfl ?_
                    refine go_aload_n (pc' := 89) h ⟨dX_countOwners_88, rfl⟩ rfl ?_
                    refine go_iload_n (pc' := 90) h ⟨dX_countOwners_89, rfl⟩ rfl ?_
                    refine gi_iconst (pc' := 91) h ⟨dX_countOwners_90, rfl⟩ ?_
                    refine gi_iadd (pc' := 92) h ⟨dX_countOwners_91, rfl⟩ ?_
                    refine go_iload_n (pc' := 93) h ⟨dX_countOwners_92, rfl⟩ rfl ?_
                    refine gi_iconst (pc' := 94) h ⟨dX_countOwners_93, rfl⟩ ?_
                    refine go_iload (pc' := 96) h ⟨dX_countOwners_94, rfl⟩ rfl ?_
                    refine gi_ishl (c := 2 ^ t.toNat) (pc' := 97) h ⟨dX_countOwners_96, rfl⟩ (shl1 (by omega)) ?_
                    refine gi_ior (c := tk + 2 ^ t.toNat) (pc' := 98) h ⟨dX_countOwners_97, rfl⟩ ((or1 g4 (by omega) g10).1) ?_
                    refine go_iload (pc' := 100) h ⟨dX_countOwners_98, rfl⟩ rfl ?_
                    refine go_iload (pc' := 102) h ⟨dX_countOwners_100, rfl⟩ rfl ?_
                    refine gd_callSI (e := cO (S.1 40) (S.1 (p + 12)) (S.1 39 1) (S.1 (p + 11) 1) fx ow n (i + 1) (tk + 2 ^ t.toNat)) (E := S) (pc' := 105) (As := [.ref 39, .ref (p + 11), .int (iI (i + 1)), .int (iI (tk + 2 ^ t.toNat)), .int (iI (fx)), .int (iI (ow))]) (st := [.int (iI (sumI (oG (S.1 40) (S.1 (p + 12)) (S.1 39 1) (S.1 (p + 11) 1) fx ow n i tk) t))]) h hF ⟨dX_countOwners_102, rfl⟩ kvX_232 (ih (i + 1) (tk + 2 ^ t.toNat) (by omega) (by omega) (by omega) (by omega)) (by omega) rfl (Nat.le_of_ble_eq_true rfl) rfl ?_
                    refine gi_iadd (pc' := 106) h ⟨dX_countOwners_105, rfl⟩ ?_
                    refine go_istore (L' := [.ref 39, .ref (p + 11), .int (iI (i)), .int (iI (tk)), .int (iI (fx)), .int (iI (ow)), .int (iI ((sumI (oG (S.1 40) (S.1 (p + 12)) (S.1 39 1) (S.1 (p + 11) 1) fx ow n i tk) t) + (cO (S.1 40) (S.1 (p + 12)) (S.1 39 1) (S.1 (p + 11) 1) fx ow n (i + 1) (tk + 2 ^ t.toNat)))), .int (iI (t)), .int (iI (1)), .int (iI (1))]) (pc' := 108) h ⟨dX_countOwners_106, rfl⟩ (by decide) rfl rfl ?_
                    refine gi_iinc (L' := [.ref 39, .ref (p + 11), .int (iI (i)), .int (iI (tk)), .int (iI (fx)), .int (iI (ow)), .int (iI ((sumI (oG (S.1 40) (S.1 (p + 12)) (S.1 39 1) (S.1 (p + 11) 1) fx ow n i tk) t) + (cO (S.1 40) (S.1 (p + 12)) (S.1 39 1) (S.1 (p + 11) 1) fx ow n (i + 1) (tk + 2 ^ t.toNat)))), .int (iI (t + 1)), .int (iI (1)), .int (iI (1))]) (pc' := 111) h ⟨dX_countOwners_108, rfl⟩ rfl (by decide) rfl rfl ?_
                    refine gi_goto (tgt := 16) h dX_countOwners_111 rfl ?_
                    refine Go.cut [.ref 39, .ref (p + 11), .int (iI (i)), .int (iI (tk)), .int (iI (fx)), .int (iI (ow)), .int (iI ((sumI (oG (S.1 40) (S.1 (p + 12)) (S.1 39 1) (S.1 (p + 11) 1) fx ow n i tk) t) + (cO (S.1 40) (S.1 (p + 12)) (S.1 39 1) (S.1 (p + 11) 1) fx ow n (i + 1) (tk + 2 ^ t.toNat)))), .int (iI (t + 1))] 8 rfl ?_
                    have g9 := ihm (t + 1) (by omega) (by omega) (by omega) gi
                    rw [sumI_s _ g6] at g9
                    rw [oG_y g10 (by omega) (by omega)] at g9
                    exact g9
            · refine go_iload (pc' := 49) h ⟨dX_countOwners_47, rfl⟩ rfl ?_
              refine go_iload (pc' := 51) h ⟨dX_countOwners_49, rfl⟩ rfl ?_
              refine gi_icmp_ne (tgt := 58) (pc' := 54) h dX_countOwners_51 rfl rfl (by omega) (fun c51 => ?_) (fun c51 => ?_)
              · refine gi_iconst (pc' := 59) h ⟨dX_countOwners_58, rfl⟩ ?_
                refine go_istore (L' := [.ref 39, .ref (p + 11), .int (iI (i)), .int (iI (tk)), .int (iI (fx)), .int (iI (ow)), .int (iI (sumI (oG (S.1 40) (S.1 (p + 12)) (S.1 39 1) (S.1 (p + 11) 1) fx ow n i tk) t)), .int (iI (t)), .int (iI (1)), .int (iI (0))]) (pc' := 61) h ⟨dX_countOwners_59, rfl⟩ (by decide) rfl rfl ?_
                refine go_iload (pc' := 63) h ⟨dX_countOwners_61, rfl⟩ rfl ?_
                refine gi_if_eq (tgt := 108) (pc' := 66) h dX_countOwners_63 rfl rfl (by omega) (fun c63 => ?_) (fun c63 => ?_)
                · exact absurd c63 (by decide)
                · refine go_iload (pc' := 68) h ⟨dX_countOwners_66, rfl⟩ rfl ?_
                  refine gi_if_eq (tgt := 108) (pc' := 71) h dX_countOwners_68 rfl rfl (by omega) (fun c68 => ?_) (fun c68 => ?_)
                  · refine gi_iinc (L' := [.ref 39, .ref (p + 11), .int (iI (i)), .int (iI (tk)), .int (iI (fx)), .int (iI (ow)), .int (iI (sumI (oG (S.1 40) (S.1 (p + 12)) (S.1 39 1) (S.1 (p + 11) 1) fx ow n i tk) t)), .int (iI (t + 1)), .int (iI (1)), .int (iI (0))]) (pc' := 111) h ⟨dX_countOwners_108, rfl⟩ rfl (by decide) rfl rfl ?_
                    refine gi_goto (tgt := 16) h dX_countOwners_111 rfl ?_
                    refine Go.cut [.ref 39, .ref (p + 11), .int (iI (i)), .int (iI (tk)), .int (iI (fx)), .int (iI (ow)), .int (iI (sumI (oG (S.1 40) (S.1 (p + 12)) (S.1 39 1) (S.1 (p + 11) 1) fx ow n i tk) t)), .int (iI (t + 1))] 8 rfl ?_
                    have g9 := ihm (t + 1) (by omega) (by omega) (by omega) gi
                    rw [sumI_s _ g6] at g9
                    rw [oG_n (by omega), Int.add_zero] at g9
                    exact g9
                  · exact absurd c68 (by decide)
              · refine gi_iconst (pc' := 55) h ⟨dX_countOwners_54, rfl⟩ ?_
                refine gi_goto (tgt := 59) h dX_countOwners_55 rfl ?_
                refine go_istore (L' := [.ref 39, .ref (p + 11), .int (iI (i)), .int (iI (tk)), .int (iI (fx)), .int (iI (ow)), .int (iI (sumI (oG (S.1 40) (S.1 (p + 12)) (S.1 39 1) (S.1 (p + 11) 1) fx ow n i tk) t)), .int (iI (t)), .int (iI (1)), .int (iI (1))]) (pc' := 61) h ⟨dX_countOwners_59, rfl⟩ (by decide) rfl rfl ?_
                refine go_iload (pc' := 63) h ⟨dX_countOwners_61, rfl⟩ rfl ?_
                refine gi_if_eq (tgt := 108) (pc' := 66) h dX_countOwners_63 rfl rfl (by omega) (fun c63 => ?_) (fun c63 => ?_)
                · exact absurd c63 (by decide)
                · refine go_iload (pc' := 68) h ⟨dX_countOwners_66, rfl⟩ rfl ?_
                  refine gi_if_eq (tgt := 108) (pc' := 71) h dX_countOwners_68 rfl rfl (by omega) (fun c68 => ?_) (fun c68 => ?_)
                  · exact absurd c68 (by decide)
                  · refine go_aload_n (pc' := 72) h ⟨dX_countOwners_71, rfl⟩ rfl ?_
                    refine go_iload (pc' := 74) h ⟨dX_countOwners_72, rfl⟩ rfl ?_
                    refine gd_callVI (e := S.1 (p + 12) t) (E := S) (pc' := 77) (As := [.int (iI (t))]) (st := []) h hF ⟨dX_countOwners_74, rfl⟩ kvX_104 (cR_ati X (n := 4) k11 l12 (by omega)) (by omega) k11 (by decide) ⟨_, _, rfl⟩ rfl (Nat.le_of_ble_eq_true rfl) rfl ?_
                    refine go_aload_n (pc' := 78) h ⟨dX_countOwners_77, rfl⟩ rfl ?_
                    refine go_iload_n (pc' := 79) h ⟨dX_countOwners_78, rfl⟩ rfl ?_
                    refine gd_callVI (e := S.1 40 i) (E := S) (pc' := 82) (As := [.int (iI (i))]) (st := [.int (iI (S.1 (p + 12) t))]) h hF ⟨dX_countOwners_79, rfl⟩ kvX_104 (cR_ati X (n := 6) rfl rfl (by omega)) (by omega) rfl (by decide) ⟨_, _, rfl⟩ rfl (Nat.le_of_ble_eq_true rfl) rfl ?_
                    refine gi_icmp_lt (tgt := 108) (pc' := 85) h dX_countOwners_82 rfl rfl (by omega) (fun c82 => ?_) (fun c82 => ?_)
                    · refine gi_iinc (L' := [.ref 39, .ref (p + 11), .int (iI (i)), .int (iI (tk)), .int (iI (fx)), .int (iI (ow)), .int (iI (sumI (oG (S.1 40) (S.1 (p + 12)) (S.1 39 1) (S.1 (p + 11) 1) fx ow n i tk) t)), .int (iI (t + 1)), .int (iI (1)), .int (iI (1))]) (pc' := 111) h ⟨dX_countOwners_108, rfl⟩ rfl (by decide) rfl rfl ?_
                      refine gi_goto (tgt := 16) h dX_countOwners_111 rfl ?_
                      refine Go.cut [.ref 39, .ref (p + 11), .int (iI (i)), .int (iI (tk)), .int (iI (fx)), .int (iI (ow)), .int (iI (sumI (oG (S.1 40) (S.1 (p + 12)) (S.1 39 1) (S.1 (p + 11) 1) fx ow n i tk) t)), .int (iI (t + 1))] 8 rfl ?_
                      have g9 := ihm (t + 1) (by omega) (by omega) (by omega) gi
                      rw [sumI_s _ g6] at g9
                      rw [oG_n (by omega), Int.add_zero] at g9
                      exact g9
                    · have g10 : bitI tk t = 0 := by omega
                      have g11 := (or1 g4 (k := t) (by omega) g10).2
                      refine go_iload (pc' := 87) h ⟨dX_countOwners_85, rfl⟩ rfl ?_
                      refine go_aload_n (pc' := 88) h ⟨dX_countOwners_87, rfl⟩ rfl ?_
                      refine go_aload_n (pc' := 89) h ⟨dX_countOwners_88, rfl⟩ rfl ?_
                      refine go_iload_n (pc' := 90) h ⟨dX_countOwners_89, rfl⟩ rfl ?_
                      refine gi_iconst (pc' := 91) h ⟨dX_countOwners_90, rfl⟩ ?_
                      refine gi_iadd (pc' := 92) h ⟨dX_countOwners_91, rfl⟩ ?_
                      refine go_iload_n (pc' := 93) h ⟨dX_countOwners_92, rfl⟩ rfl ?_
                      refine gi_iconst (pc' := 94) h ⟨dX_countOwners_93, rfl⟩ ?_
                      refine go_iload (pc' := 96) h ⟨dX_countOwners_94, rfl⟩ rfl ?_
                      refine gi_ishl (c := 2 ^ t.toNat) (pc' := 97) h ⟨dX_countOwners_96, rfl⟩ (shl1 (by omega)) ?_
                      refine gi_ior (c := tk + 2 ^ t.toNat) (pc' := 98) h ⟨dX_countOwners_97, rfl⟩ ((or1 g4 (by omega) g10).1) ?_
                      refine go_iload (pc' := 100) h ⟨dX_countOwners_98, rfl⟩ rfl ?_
                      refine go_iload (pc' := 102) h ⟨dX_countOwners_100, rfl⟩ rfl ?_
                      refine gd_callSI (e := cO (S.1 40) (S.1 (p + 12)) (S.1 39 1) (S.1 (p + 11) 1) fx ow n (i + 1) (tk + 2 ^ t.toNat)) (E := S) (pc' := 105) (As := [.ref 39, .ref (p + 11), .int (iI (i + 1)), .int (iI (tk + 2 ^ t.toNat)), .int (iI (fx)), .int (iI (ow))]) (st := [.int (iI (sumI (oG (S.1 40) (S.1 (p + 12)) (S.1 39 1) (S.1 (p + 11) 1) fx ow n i tk) t))]) h hF ⟨dX_countOwners_102, rfl⟩ kvX_232 (ih (i + 1) (tk + 2 ^ t.toNat) (by omega) (by omega) (by omega) (by omega)) (by omega) rfl (Nat.le_of_ble_eq_true rfl) rfl ?_
                      refine gi_iadd (pc' := 106) h ⟨dX_countOwners_105, rfl⟩ ?_
                      refine go_istore (L' := [.ref 39, .ref (p + 11), .int (iI (i)), .int (iI (tk)), .int (iI (fx)), .int (iI (ow)), .int (iI ((sumI (oG (S.1 40) (S.1 (p + 12)) (S.1 39 1) (S.1 (p + 11) 1) fx ow n i tk) t) + (cO (S.1 40) (S.1 (p + 12)) (S.1 39 1) (S.1 (p + 11) 1) fx ow n (i + 1) (tk + 2 ^ t.toNat)))), .int (iI (t)), .int (iI (1)), .int (iI (1))]) (pc' := 108) h ⟨dX_countOwners_106, rfl⟩ (by decide) rfl rfl ?_
                      refine gi_iinc (L' := [.ref 39, .ref (p + 11), .int (iI (i)), .int (iI (tk)), .int (iI (fx)), .int (iI (ow)), .int (iI ((sumI (oG (S.1 40) (S.1 (p + 12)) (S.1 39 1) (S.1 (p + 11) 1) fx ow n i tk) t) + (cO (S.1 40) (S.1 (p + 12)) (S.1 39 1) (S.1 (p + 11) 1) fx ow n (i + 1) (tk + 2 ^ t.toNat)))), .int (iI (t + 1)), .int (iI (1)), .int (iI (1))]) (pc' := 111) h ⟨dX_countOwners_108, rfl⟩ rfl (by decide) rfl rfl ?_
                      refine gi_goto (tgt := 16) h dX_countOwners_111 rfl ?_
                      refine Go.cut [.ref 39, .ref (p + 11), .int (iI (i)), .int (iI (tk)), .int (iI (fx)), .int (iI (ow)), .int (iI ((sumI (oG (S.1 40) (S.1 (p + 12)) (S.1 39 1) (S.1 (p + 11) 1) fx ow n i tk) t) + (cO (S.1 40) (S.1 (p + 12)) (S.1 39 1) (S.1 (p + 11) 1) fx ow n (i + 1) (tk + 2 ^ t.toNat)))), .int (iI (t + 1))] 8 rfl ?_
                      have g9 := ihm (t + 1) (by omega) (by omega) (by omega) gi
                      rw [sumI_s _ g6] at g9
                      rw [oG_y g10 (by omega) (by omega)] at g9
                      exact g9
    refine go_iload_n (pc' := 1) h ⟨dX_countOwners_0, rfl⟩ rfl ?_
    refine go_aload_n (pc' := 2) h ⟨dX_countOwners_1, rfl⟩ rfl ?_
    refine gd_callVI (e := S.1 39 1) (E := S) (pc' := 5) (As := []) (st := [.int (iI (i))]) h hF ⟨dX_countOwners_2, rfl⟩ kvX_79 (cR_size X rfl) (by omega) rfl (by decide) ⟨_, _, rfl⟩ rfl (Nat.le_of_ble_eq_true rfl) rfl ?_
    refine gi_icmp_lt (tgt := 10) (pc' := 8) h dX_countOwners_5 rfl rfl (by omega) (fun c5 => ?_) (fun c5 => ?_)
    · refine gi_iconst (pc' := 11) h ⟨dX_countOwners_10, rfl⟩ ?_
      refine go_istore (L' := [.ref 39, .ref (p + 11), .int (iI (i)), .int (iI (tk)), .int (iI (fx)), .int (iI (ow)), .int (iI (0))]) (pc' := 13) h ⟨dX_countOwners_11, rfl⟩ (by decide) rfl rfl ?_
      refine gi_iconst (pc' := 14) h ⟨dX_countOwners_13, rfl⟩ ?_
      refine go_istore (L' := [.ref 39, .ref (p + 11), .int (iI (i)), .int (iI (tk)), .int (iI (fx)), .int (iI (ow)), .int (iI (0)), .int (iI (0))]) (pc' := 16) h ⟨dX_countOwners_14, rfl⟩ (by decide) rfl rfl ?_
      exact loop 5 0 (by omega) (by omega) (by omega) (by omega)
    · refine gi_iconst (pc' := 9) h ⟨dX_countOwners_8, rfl⟩ ?_
      exact gs_iret h hE dX_countOwners_9 (⟨by rw [cO, if_pos (by omega)], rfl⟩)
def ownW (S : Sg) (p : Nat) (fx ow : Int) : Int := cO (S.1 40) (S.1 (p + 12)) (S.1 39 1) (S.1 (p + 11) 1) fx ow 6 0 0
def xWhose (S : Sg) (p : Nat) (x r : Int) : Prop := ((x < -1 ∨ S.1 39 1 ≤ x) ∧ r = -1) ∨ ((x = -1 ∧ x < S.1 39 1) ∧ r = ownW S p (-1) 0) ∨ ((0 ≤ x ∧ x < S.1 39 1) ∧ ((r = -9 ∧ (ownW S p (-1) 0 ≤ 0 ∨ ∀ t : Int, 0 ≤ t → t < S.1 (p + 11) 1 → ownW S p x t ≠ ownW S p (-1) 0)) ∨ ((0 ≤ r ∧ r < S.1 (p + 11) 1) ∧ 0 < ownW S p (-1) 0 ∧ ownW S p x r = ownW S p (-1) 0 ∧ ∀ t : Int, 0 ≤ t → t < r → ownW S p x t ≠ ownW S p (-1) 0)))
set_option maxRecDepth 4000 in
theorem cX_whose (X : XT) {S : Sg} {p q : Nat} (hC : CI S p q) {x : Int} (hx : -2147483648 ≤ x ∧ x ≤ 2147483647) : Ctr X 8 yX_whose bX_whose 4 (some .int) [.ref 0, .int (iI (x))] (mk S) (PI (fun r S' => xWhose S p x r ∧ S' = S)) 0 0 := by
  refine Ctr.ofS (by decide) rfl (Nat.le_of_ble_eq_true rfl) (fun F h hF hE => ?_)
  obtain ⟨epq, opq, hW, hok, cb, hlt, hmk, hsc, hwl, hwr, hth, hdd, hse, hme, hke⟩ := id hC
  have hp : p = 4 ∨ p = 17 := by omega
  have hk := kd_p hp
  obtain ⟨k1, k3, k5, k7, k9, k11, l2, l4, l6, l8, l10, l12⟩ := plan_ok hk
  obtain ⟨o1, o2, o3, o4, o5, o6, o7⟩ := id hok
  have z39 : 0 ≤ S.1 39 1 ∧ S.1 39 1 ≤ 6 := hW 39 rfl
  have z66 : 0 ≤ S.1 66 1 ∧ S.1 66 1 ≤ 10 := hW 66 rfl
  have z2 : 0 ≤ S.1 2 1 ∧ S.1 2 1 ≤ 120 := hW 2 rfl
  have z75 : 0 ≤ S.1 75 1 ∧ S.1 75 1 ≤ 6 := hW 75 rfl
  have z84 : 0 ≤ S.1 84 1 ∧ S.1 84 1 ≤ 6 := hW 84 rfl
  have hob : ∀ fx ow, 0 ≤ ownW S p fx ow ∧ ownW S p fx ow ≤ 4096 := fun fx ow => by
    have := cO_bd (S.1 40) (S.1 (p + 12)) (nt := S.1 39 1) (nb := S.1 (p + 11) 1) fx ow o3 6 0 0
    unfold ownW
    exact ⟨this.1, this.2⟩
  have hw0 := hob (-1) 0
  have loop : ∀ (n : Nat) (j : Int), 4 < j + n → 0 ≤ j → j ≤ S.1 (p + 11) 1 → (0 ≤ x ∧ x < S.1 39 1) → (∀ t : Int, 0 ≤ t → t < j → ownW S p x t ≠ ownW S p (-1) 0) → Go F 4 (mk S) 0 0 52 [.ref 0, .int (iI x), .int (iI (ownW S p (-1) 0)), .int (iI j)] [] := by
    intro n
    induction n with
    | zero => intro j g4 g5 g6; exfalso; omega
    | succ n ih =>
      intro j g4 g5 g6 gx g7
      have hwj := hob x j
      refine go_iload_n (pc' := 53) h ⟨dX_whose_52, rfl⟩ rfl ?_
      refine go_aload_n (pc' := 54) h ⟨dX_whose_53, rfl⟩ rfl ?_
      refine gs_get (v := .ref p) (pc' := 57) h ⟨dX_whose_54, rfl⟩ fgX_19 rfl (by decide) (by show (fl _ _ S.2.2 0 7)[1]? = _; rw [epq]; rfl) ?_
      refine gs_get (v := .ref (p + 11)) (pc' := 60) h ⟨dX_whose_57, rfl⟩ fgX_120 hk (by decide) (rfl) ?_
      refine gd_callVI (e := S.1 (p + 11) 1) (E := S) (pc' := 63) (As := []) (st := [.int (iI (j))]) h hF ⟨dX_whose_60, rfl⟩ kvX_79 (cR_size X k11) (by omega) k11 (by decide) ⟨_, _, rfl⟩ rfl (Nat.le_of_ble_eq_true rfl) rfl ?_
      refine gi_icmp_ge (tgt := 103) (pc' := 66) h dX_whose_63 rfl rfl (by omega) (fun c63 => ?_) (fun c63 => ?_)
      · refine gi_bipush (pc' := 105) h ⟨dX_whose_103, rfl⟩ rfl ?_
        exact gs_iret h hE dX_whose_105 (⟨Or.inr (Or.inr ⟨gx, Or.inl ⟨rfl, Or.inr (fun t t1 t2 => g7 t t1 (by omega))⟩⟩), rfl⟩)
      · refine go_iload_n (pc' := 67) h ⟨dX_whose_66, rfl⟩ rfl ?_
        refine gi_if_le (tgt := 103) (pc' := 70) h dX_whose_67 rfl rfl (by omega) (fun c67 => ?_) (fun c67 => ?_)
        · refine gi_bipush (pc' := 105) h ⟨dX_whose_103, rfl⟩ rfl ?_
          exact gs_iret h hE dX_whose_105 (⟨Or.inr (Or.inr ⟨gx, Or.inl ⟨rfl, Or.inl (by omega)⟩⟩), rfl⟩)
        · refine go_aload_n (pc' := 71) h ⟨dX_whose_70, rfl⟩ rfl ?_
          refine gs_get (v := .ref 30) (pc' := 74) h ⟨dX_whose_71, rfl⟩ fgX_29 rfl (by decide) (rfl) ?_
          refine gs_get (v := .ref 39) (pc' := 77) h ⟨dX_whose_74, rfl⟩ fgX_136 rfl (by decide) (rfl) ?_
          refine go_aload_n (pc' := 78) h ⟨dX_whose_77, rfl⟩ rfl ?_
          refine gs_get (v := .ref p) (pc' := 81) h ⟨dX_whose_78, rfl⟩ fgX_19 rfl (by decide) (by show (fl _ _ S.2.2 0 7)[1]? = _; rw [epq]; rfl) ?_
          refine gs_get (v := .ref (p + 11)) (pc' := 84) h ⟨dX_whose_81, rfl⟩ fgX_120 hk (by decide) (rfl) ?_
          refine gi_iconst (pc' := 85) h ⟨dX_whose_84, rfl⟩ ?_
          refine gi_iconst (pc' := 86) h ⟨dX_whose_85, rfl⟩ ?_
          refine go_iload_n (pc' := 87) h ⟨dX_whose_86, rfl⟩ rfl ?_
          refine go_iload_n (pc' := 88) h ⟨dX_whose_87, rfl⟩ rfl ?_
          refine gd_callSI (e := ownW S p x j) (E := S) (pc' := 91) (As := [.ref 39, .ref (p + 11), .int (iI (0)), .int (iI (0)), .int (iI (x)), .int (iI (j))]) (st := []) h hF ⟨dX_whose_88, rfl⟩ kvX_232 (cX_own X hk hok z39 hth (fx := x) (ow := j) (by omega) (by omega) 6 0 0 (by omega) (by omega) (by omega) (by omega)) (by omega) rfl (Nat.le_of_ble_eq_true rfl) rfl ?_
          refine go_iload_n (pc' := 92) h ⟨dX_whose_91, rfl⟩ rfl ?_
          refine gi_icmp_ne (tgt := 97) (pc' := 95) h dX_whose_92 rfl rfl (by omega) (fun c92 => ?_) (fun c92 => ?_)
          · refine gi_iinc (L' := [.ref 0, .int (iI (x)), .int (iI (ownW S p (-1) 0)), .int (iI (j + 1))]) (pc' := 100) h ⟨dX_whose_97, rfl⟩ rfl (by decide) rfl rfl ?_
            refine gi_goto (tgt := 52) h dX_whose_100 rfl ?_
            exact ih (j + 1) (by omega) (by omega) (by omega) gx (fun t t1 t2 => by
              by_cases ht : t = j
              · rw [ht]; omega
              · exact g7 t t1 (by omega))
          · refine go_iload_n (pc' := 96) h ⟨dX_whose_95, rfl⟩ rfl ?_
            exact gs_iret h hE dX_whose_96 (⟨Or.inr (Or.inr ⟨gx, Or.inr ⟨by omega, by omega, by omega, g7⟩⟩), rfl⟩)
  refine go_iload_n (pc' := 1) h ⟨dX_whose_0, rfl⟩ rfl ?_
  refine gi_iconst (pc' := 2) h ⟨dX_whose_1, rfl⟩ ?_
  refine gi_icmp_lt (tgt := 19) (pc' := 5) h dX_whose_2 rfl rfl (by omega) (fun c2 => ?_) (fun c2 => ?_)
  · refine gi_iconst (pc' := 20) h ⟨dX_whose_19, rfl⟩ ?_
    exact gs_iret h hE dX_whose_20 (⟨Or.inl ⟨by omega, rfl⟩, rfl⟩)
  · refine go_iload_n (pc' := 6) h ⟨dX_whose_5, rfl⟩ rfl ?_
    refine go_aload_n (pc' := 7) h ⟨dX_whose_6, rfl⟩ rfl ?_
    refine gs_get (v := .ref 30) (pc' := 10) h ⟨dX_whose_7, rfl⟩ fgX_29 rfl (by decide) (rfl) ?_
    refine gs_get (v := .ref 39) (pc' := 13) h ⟨dX_whose_10, rfl⟩ fgX_136 rfl (by decide) (rfl) ?_
    refine gd_callVI (e := S.1 39 1) (E := S) (pc' := 16) (As := []) (st := [.int (iI (x))]) h hF ⟨dX_whose_13, rfl⟩ kvX_79 (cR_size X rfl) (by omega) rfl (by decide) ⟨_, _, rfl⟩ rfl (Nat.le_of_ble_eq_true rfl) rfl ?_
    refine gi_icmp_lt (tgt := 21) (pc' := 19) h dX_whose_16 rfl rfl (by omega) (fun c16 => ?_) (fun c16 => ?_)
    · refine go_aload_n (pc' := 22) h ⟨dX_whose_21, rfl⟩ rfl ?_
      refine gs_get (v := .ref 30) (pc' := 25) h ⟨dX_whose_22, rfl⟩ fgX_29 rfl (by decide) (rfl) ?_
      refine gs_get (v := .ref 39) (pc' := 28) h ⟨dX_whose_25, rfl⟩ fgX_136 rfl (by decide) (rfl) ?_
      refine go_aload_n (pc' := 29) h ⟨dX_whose_28, rfl⟩ rfl ?_
      refine gs_get (v := .ref p) (pc' := 32) h ⟨dX_whose_29, rfl⟩ fgX_19 rfl (by decide) (by show (fl _ _ S.2.2 0 7)[1]? = _; rw [epq]; rfl) ?_
      refine gs_get (v := .ref (p + 11)) (pc' := 35) h ⟨dX_whose_32, rfl⟩ fgX_120 hk (by decide) (rfl) ?_
      refine gi_iconst (pc' := 36) h ⟨dX_whose_35, rfl⟩ ?_
      refine gi_iconst (pc' := 37) h ⟨dX_whose_36, rfl⟩ ?_
      refine gi_iconst (pc' := 38) h ⟨dX_whose_37, rfl⟩ ?_
      refine gi_iconst (pc' := 39) h ⟨dX_whose_38, rfl⟩ ?_
      refine gd_callSI (e := ownW S p (-1) 0) (E := S) (pc' := 42) (As := [.ref 39, .ref (p + 11), .int (iI (0)), .int (iI (0)), .int (iI (-1)), .int (iI (0))]) (st := []) h hF ⟨dX_whose_39, rfl⟩ kvX_232 (cX_own X hk hok z39 hth (fx := (-1)) (ow := 0) (by omega) (by omega) 6 0 0 (by omega) (by omega) (by omega) (by omega)) (by omega) rfl (Nat.le_of_ble_eq_true rfl) rfl ?_
      refine go_istore_n (L' := [.ref 0, .int (iI (x)), .int (iI (ownW S p (-1) 0))]) (pc' := 43) h ⟨dX_whose_42, rfl⟩ (by decide) rfl rfl ?_
      refine go_iload_n (pc' := 44) h ⟨dX_whose_43, rfl⟩ rfl ?_
      refine gi_iconst (pc' := 45) h ⟨dX_whose_44, rfl⟩ ?_
      refine gi_icmp_ne (tgt := 50) (pc' := 48) h dX_whose_45 rfl rfl (by omega) (fun c45 => ?_) (fun c45 => ?_)
      · refine gi_iconst (pc' := 51) h ⟨dX_whose_50, rfl⟩ ?_
        refine go_istore_n (L' := [.ref 0, .int (iI (x)), .int (iI (ownW S p (-1) 0)), .int (iI (0))]) (pc' := 52) h ⟨dX_whose_51, rfl⟩ (by decide) rfl rfl ?_
        exact loop 5 0 (by omega) (by omega) (by omega) (by omega) (fun t t1 t2 => by omega)
      · refine go_iload_n (pc' := 49) h ⟨dX_whose_48, rfl⟩ rfl ?_
        exact gs_iret h hE dX_whose_49 (⟨Or.inr (Or.inl ⟨by omega, rfl⟩), rfl⟩)
    · refine gi_iconst (pc' := 20) h ⟨dX_whose_19, rfl⟩ ?_
      exact gs_iret h hE dX_whose_20 (⟨Or.inl ⟨by omega, rfl⟩, rfl⟩)
