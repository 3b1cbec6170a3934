theorem fpT_88 : FP cN6 88 2 6 false .int := ⟨cN2, fT2, 8, fY2, rfl, by decide, fI2, mw 133 (by decide +kernel) rfl, fO2, fN2, rfl, rfl, fun q => by cases q⟩
theorem fpT_91 : FP cN6 91 2 7 false .int := ⟨cN2, fT2, 8, fY2, rfl, by decide, fI2, mw 136 (by decide +kernel) rfl, fO2, fN2, rfl, rfl, fun q => by cases q⟩
/-! the text is read into the plan at p -/
def nxS (S : Sg) : Sg := aset S 1 (nxW (S.1 3) (S.1 2 1) (S.1 1))
theorem nxS_1 (S : Sg) : (nxS S).1 1 = nxW (S.1 3) (S.1 2 1) (S.1 1) := aset_eq _ _ _
theorem nxS_ne (S : Sg) {a : Nat} (h : a ≠ 1) : (nxS S).1 a = S.1 a := aset_ne _ _ h
/-- the text is well, and where the reading stands is within it -/
def txOk (S : Sg) : Prop := (0 ≤ S.1 2 1 ∧ S.1 2 1 ≤ 120) ∧ (∀ j : Int, 0 ≤ j → j < S.1 2 1 → 0 ≤ S.1 3 j ∧ S.1 3 j ≤ 255) ∧ (0 ≤ S.1 1 1 ∧ S.1 1 1 ≤ S.1 2 1)
def kS (S : Sg) : Int := lK (S.1 3) (S.1 2 1) (S.1 1 1)
def vS (S : Sg) : Int := lV (S.1 3) (S.1 2 1) (S.1 1 1)
abbrev numS (S : Sg) (lo hi : Int) : Prop := kS S = 2 ∧ lo ≤ vS S ∧ vS S ≤ hi
abbrev stopS (S : Sg) : Prop := kS S = 1 ∧ vS S = 59
theorem nxS_place (S : Sg) : (nxS S).1 1 1 = lE (S.1 3) (S.1 2 1) (S.1 1 1) := by rw [nxS_1]; rfl
theorem nxS_tok (S : Sg) : (nxS S).1 1 2 = tkF (S.1 3) (S.1 2 1) (S.1 1 1) := by rw [nxS_1]; rfl
theorem nxS_at (S : Sg) : (nxS S).1 1 3 = lS (S.1 3) (S.1 2 1) (S.1 1 1) := by rw [nxS_1]; rfl
theorem nxS_num {S : Sg} (h : kS S = 2) : (nxS S).1 1 4 = vS S := by
  rw [nxS_1]
  show (if (4 : Int) = 1 then _ else if (4 : Int) = 2 then _ else if (4 : Int) = 3 then _ else if (4 : Int) = 4 ∧ lK (S.1 3) (S.1 2 1) (S.1 1 1) = 2 then _ else _) = _
  rw [if_neg (by decide), if_neg (by decide), if_neg (by decide), if_pos ⟨rfl, h⟩]
  rfl
theorem nxS_hi (S : Sg) {j : Int} (h : 4 < j) : (nxS S).1 1 j = S.1 1 j := by
  rw [nxS_1]
  show (if j = 1 then _ else if j = 2 then _ else if j = 3 then _ else if j = 4 ∧ _ then _ else _) = _
  rw [if_neg (by omega), if_neg (by omega), if_neg (by omega), if_neg (by omega)]
theorem txOk.nx {S : Sg} (h : txOk S) : txOk (nxS S) := by
  obtain ⟨h1, h2, h3⟩ := h
  have h4 := lE_bd (S.1 3) h3.2
  unfold txOk
  rw [nxS_ne _ (show 2 ≠ 1 by decide), nxS_ne _ (show 3 ≠ 1 by decide), nxS_place]
  exact ⟨h1, h2, by omega⟩
theorem kS_012 (S : Sg) : kS S = 0 ∨ kS S = 1 ∨ kS S = 2 := by
  unfold kS lK
  split
  · exact Or.inl rfl
  · split
    · exact Or.inr (Or.inr rfl)
    · exact Or.inr (Or.inl rfl)
theorem txOk.tok {S : Sg} (h : txOk S) : -1 ≤ (nxS S).1 1 2 ∧ (nxS S).1 1 2 ≤ 257 ∧ ((nxS S).1 1 2 = 256 ↔ kS S = 2) ∧ ((nxS S).1 1 2 = 257 ↔ kS S = 0) ∧ (kS S = 1 → (nxS S).1 1 2 = vS S) ∧ (kS S ≠ 0 → -1 ≤ vS S ∧ vS S ≤ 255) := by
  have hv : kS S ≠ 0 → -1 ≤ vS S ∧ vS S ≤ 255 := fun hk => lV_bd h.2.1 h.2.2.1 h.2.2.2 hk
  rw [nxS_tok]
  unfold tkF
  rw [show lK (S.1 3) (S.1 2 1) (S.1 1 1) = kS S from rfl, show lV (S.1 3) (S.1 2 1) (S.1 1 1) = vS S from rfl]
  rcases kS_012 S with e | e | e <;> rw [e] at hv ⊢ <;> simp at hv ⊢ <;> omega
theorem Wr.nx {S : Sg} (h : Wr S) : Wr (nxS S) := h.aset (by decide) _
theorem cT_nx (X : XT) {S : Sg} (h : txOk S) : Ctr X 1 yT_nextToken bT_nextToken 2 none [.ref 1] (mk S) (PV (fun S' => S' = nxS S)) 0 0 := cT_next X h.1 h.2.1 h.2.2
set_option maxRecDepth 4000 in
theorem cT_num (X : XT) {S : Sg} (hx : txOk S) {a b : Int} (ha : 0 ≤ a ∧ a ≤ 1000) (hb : 0 ≤ b ∧ b ≤ 1000) : Ctr X 2 yT_readNumber bT_readNumber 3 (some .boolean) [.ref 1, .int (iI (a)), .int (iI (b))] (mk S) (PI (fun r S' => r = (if numS S a b then 1 else 0) ∧ S' = nxS S)) 0 0 := by
  refine Ctr.ofS (by decide) rfl (Nat.le_of_ble_eq_true rfl) (fun F h hF hE => ?_)
  obtain ⟨g1, g2, g3, g4, g5, g6⟩ := hx.tok
  refine go_aload_n (pc' := 1) h ⟨dT_readNumber_0, rfl⟩ rfl ?_
  refine gd_callVV (E := nxS S) (pc' := 4) (As := []) (st := []) h hF ⟨dT_readNumber_1, rfl⟩ kvT_36 (cT_nx X hx) (by omega) rfl (by decide) ⟨_, _, rfl⟩ rfl (Nat.le_of_ble_eq_true rfl) rfl ?_
  refine go_aload_n (pc' := 5) h ⟨dT_readNumber_4, rfl⟩ rfl ?_
  refine gs_get (v := .int (iI ((nxS S).1 1 2))) (pc' := 8) h ⟨dT_readNumber_5, rfl⟩ fgT_39 rfl (by decide) (rfl) ?_
  refine gi_sipush (pc' := 11) h ⟨dT_readNumber_8, rfl⟩ rfl ?_
  refine gi_icmp_ne (tgt := 34) (pc' := 14) h dT_readNumber_11 rfl rfl (by omega) (fun c11 => ?_) (fun c11 => ?_)
  · refine gi_iconst (pc' := 35) h ⟨dT_readNumber_34, rfl⟩ ?_
    exact gs_zret h hE dT_readNumber_35 (by omega) (⟨(if_neg (fun q => c11 (g3.mpr q.1))).symm, rfl⟩)
  · have e_k := g3.mp c11
    have e_n := nxS_num e_k
    have e_b := g6 (by omega)
    refine go_aload_n (pc' := 15) h ⟨dT_readNumber_14, rfl⟩ rfl ?_
    refine gs_get (v := .int (iI ((nxS S).1 1 4))) (pc' := 18) h ⟨dT_readNumber_15, rfl⟩ fgT_75 rfl (by decide) (rfl) ?_
    refine go_iload_n (pc' := 19) h ⟨dT_readNumber_18, rfl⟩ rfl ?_
    refine gi_icmp_lt (tgt := 34) (pc' := 22) h dT_readNumber_19 rfl rfl (by omega) (fun c19 => ?_) (fun c19 => ?_)
    · refine gi_iconst (pc' := 35) h ⟨dT_readNumber_34, rfl⟩ ?_
      exact gs_zret h hE dT_readNumber_35 (by omega) (⟨(if_neg (fun q => by omega)).symm, rfl⟩)
    · refine go_aload_n (pc' := 23) h ⟨dT_readNumber_22, rfl⟩ rfl ?_
      refine gs_get (v := .int (iI ((nxS S).1 1 4))) (pc' := 26) h ⟨dT_readNumber_23, rfl⟩ fgT_75 rfl (by decide) (rfl) ?_
      refine go_iload_n (pc' := 27) h ⟨dT_readNumber_26, rfl⟩ rfl ?_
      refine gi_icmp_gt (tgt := 34) (pc' := 30) h dT_readNumber_27 rfl rfl (by omega) (fun c27 => ?_) (fun c27 => ?_)
      · refine gi_iconst (pc' := 35) h ⟨dT_readNumber_34, rfl⟩ ?_
        exact gs_zret h hE dT_readNumber_35 (by omega) (⟨(if_neg (fun q => by omega)).symm, rfl⟩)
      · refine gi_iconst (pc' := 31) h ⟨dT_readNumber_30, rfl⟩ ?_
        refine gi_goto (tgt := 35) h dT_readNumber_31 rfl ?_
        exact gs_zret h hE dT_readNumber_35 (by omega) (⟨(if_pos ⟨e_k, by omega, by omega⟩).symm, rfl⟩)
set_option maxRecDepth 4000 in
theorem cT_end (X : XT) {S : Sg} (hx : txOk S) : Ctr X 2 yT_readItemEnd bT_readItemEnd 1 (some .boolean) [.ref 1] (mk S) (PI (fun r S' => r = (if stopS S then 1 else 0) ∧ S' = nxS S)) 0 0 := by
  refine Ctr.ofS (by decide) rfl (Nat.le_of_ble_eq_true rfl) (fun F h hF hE => ?_)
  obtain ⟨g1, g2, g3, g4, g5, g6⟩ := hx.tok
  have g7 := kS_012 S
  refine go_aload_n (pc' := 1) h ⟨dT_readItemEnd_0, rfl⟩ rfl ?_
  refine gd_callVV (E := nxS S) (pc' := 4) (As := []) (st := []) h hF ⟨dT_readItemEnd_1, rfl⟩ kvT_36 (cT_nx X hx) (by omega) rfl (by decide) ⟨_, _, rfl⟩ rfl (Nat.le_of_ble_eq_true rfl) rfl ?_
  refine go_aload_n (pc' := 5) h ⟨dT_readItemEnd_4, rfl⟩ rfl ?_
  refine gs_get (v := .int (iI ((nxS S).1 1 2))) (pc' := 8) h ⟨dT_readItemEnd_5, rfl⟩ fgT_39 rfl (by decide) (rfl) ?_
  refine gi_bipush (pc' := 10) h ⟨dT_readItemEnd_8, rfl⟩ rfl ?_
  refine gi_icmp_ne (tgt := 17) (pc' := 13) h dT_readItemEnd_10 rfl rfl (by omega) (fun c10 => ?_) (fun c10 => ?_)
  · refine gi_iconst (pc' := 18) h ⟨dT_readItemEnd_17, rfl⟩ ?_
    exact gs_zret h hE dT_readItemEnd_18 (by omega) (⟨(if_neg (fun q => by have := g5 q.1; omega)).symm, rfl⟩)
  · refine gi_iconst (pc' := 14) h ⟨dT_readItemEnd_13, rfl⟩ ?_
    refine gi_goto (tgt := 18) h dT_readItemEnd_14 rfl ?_
    exact gs_zret h hE dT_readItemEnd_18 (by omega) (⟨(if_pos ⟨by omega, by omega⟩).symm, rfl⟩)
theorem hpush_ne (S : Sg) (p : Nat) (r b : Int) {a : Nat} (h1 : a ≠ p + 9) (h2 : a ≠ p + 10) : ∀ n, (hpush S p r b n).1 a = S.1 a
  | 0 => rfl
  | n + 1 => by rw [hpush, rpush_ne _ _ h1 h2, hpush_ne S p r b h1 h2 n]
theorem padd_ne (S : Sg) (p : Nat) (n r b : Int) {a : Nat} (h : a < p + 1 ∨ p + 10 < a) : (padd S p n r b).1 a = S.1 a := by
  unfold padd padd0
  rw [rpush_ne _ _ (by omega) (by omega), hpush_ne _ _ _ _ (by omega) (by omega), rpush_ne _ _ (by omega) (by omega), rpush_ne _ _ (by omega) (by omega), rpush_ne _ _ (by omega) (by omega)]
theorem hpush_2 (S : Sg) (p : Nat) (r b : Int) : ∀ n, (hpush S p r b n).2 = S.2
  | 0 => rfl
  | n + 1 => by rw [hpush, rpush_2, hpush_2 S p r b n]
theorem padd_2 (S : Sg) (p : Nat) (n r b : Int) : (padd S p n r b).2 = S.2 := by
  unfold padd padd0
  rw [rpush_2, hpush_2, rpush_2, rpush_2, rpush_2]
theorem Wr.addS {S : Sg} (h : Wr S) {p : Nat} (hp : kd p = 2) (n r b : Int) : Wr (padd S p n r b) := by
  obtain ⟨k1, k3, k5, k7, k9, k11, -⟩ := plan_ok hp
  unfold padd padd0
  exact (Wr.hpush (((h.push k1 _).push k3 _).push k5 _) k9 _ _ _).push k7 _
/-- a frame: what lies at 1, 2, 3 in the other is as in the one -/
theorem txOk.same {S S' : Sg} (h : txOk S) (h1 : S'.1 1 1 = S.1 1 1) (h2 : S'.1 2 = S.1 2) (h3 : S'.1 3 = S.1 3) : txOk S' := by
  unfold txOk at *
  rw [h1, h2, h3]
  exact h
theorem kd_p {p : Nat} (h : p = 4 ∨ p = 17) : kd p = 2 := by rcases h with rfl | rfl <;> rfl
def stR (S : Sg) (p : Nat) : Int × Sg := if ¬ numS S 1 20 then (0, nxS S) else if ¬ numS (nxS S) 1 20 then (0, nxS (nxS S)) else if ¬ numS (nxS (nxS S)) 0 6 then (0, nxS (nxS (nxS S))) else (if stopS (padd (nxS (nxS (nxS S))) p (vS S) (vS (nxS S)) (vS (nxS (nxS S)) - 3)) then 1 else 0, nxS (padd (nxS (nxS (nxS S))) p (vS S) (vS (nxS S)) (vS (nxS (nxS S)) - 3)))
def trR (S : Sg) (p : Nat) : Int × Sg := if ¬ numS S 1 99 then (0, nxS S) else (if stopS (rpush (nxS S) (p + 11) (vS S)) then 1 else 0, nxS (rpush (nxS S) (p + 11) (vS S)))
def reR (S : Sg) (p : Nat) : Int × Sg := if ¬ numS S 1 9 then (0, nxS S) else (if stopS (pt (pt (nxS S) p 6 (vS S)) 1 5 1) then 1 else 0, nxS (pt (pt (nxS S) p 6 (vS S)) 1 5 1))
def boR (S : Sg) (p : Nat) : Int × Sg := if ¬ numS S 2 9 then (0, nxS S) else (if stopS (pt (pt (nxS S) p 7 (vS S)) 1 6 1) then 1 else 0, nxS (pt (pt (nxS S) p 7 (vS S)) 1 6 1))
set_option maxRecDepth 4000 in
theorem cT_str (X : XT) {S : Sg} {p : Nat} (hp : p = 4 ∨ p = 17) (hx : txOk S) (hW : Wr S) : Ctr X 3 yT_readStretch bT_readStretch 4 (some .boolean) [.ref 1, .ref p] (mk S) (PI (fun r S' => r = (stR S p).1 ∧ S' = (stR S p).2)) 0 0 := by
  refine Ctr.ofS (by decide) rfl (Nat.le_of_ble_eq_true rfl) (fun F h hF hE => ?_)
  have hk := kd_p hp
  obtain ⟨k1, k3, k5, k7, k9, k11, l2, l4, l6, l8, l10, l12⟩ := plan_ok hk
  refine go_aload_n (pc' := 1) h ⟨dT_readStretch_0, rfl⟩ rfl ?_
  refine gi_iconst (pc' := 2) h ⟨dT_readStretch_1, rfl⟩ ?_
  refine gi_bipush (pc' := 4) h ⟨dT_readStretch_2, rfl⟩ rfl ?_
  refine gd_callVI (e := if numS S 1 20 then 1 else 0) (E := nxS S) (pc' := 7) (As := [.int (iI (1)), .int (iI (20))]) (st := []) h hF ⟨dT_readStretch_4, rfl⟩ kvT_71 (cT_num X hx (by decide) (by decide)) (by omega) rfl (by decide) ⟨_, _, rfl⟩ rfl (Nat.le_of_ble_eq_true rfl) rfl ?_
  refine gi_if_ne (tgt := 12) (pc' := 10) h dT_readStretch_7 rfl rfl (by split <;> omega) (fun c7 => ?_) (fun c7 => ?_)
  · have c7 := b1 c7
    refine go_aload_n (pc' := 13) h ⟨dT_readStretch_12, rfl⟩ rfl ?_
    refine gs_get (v := .int (iI (vS S))) (pc' := 16) h ⟨dT_readStretch_13, rfl⟩ fgT_75 rfl (by decide) (by show some (Value.int (iI ((nxS S).1 1 4))) = _; rw [nxS_num c7.1]) ?_
    refine go_istore_n (L' := [.ref 1, .ref p, .int (iI (vS S))]) (pc' := 17) h ⟨dT_readStretch_16, rfl⟩ (by decide) rfl rfl ?_
    refine go_aload_n (pc' := 18) h ⟨dT_readStretch_17, rfl⟩ rfl ?_
    refine gi_iconst (pc' := 19) h ⟨dT_readStretch_18, rfl⟩ ?_
    refine gi_bipush (pc' := 21) h ⟨dT_readStretch_19, rfl⟩ rfl ?_
    refine gd_callVI (e := if numS (nxS S) 1 20 then 1 else 0) (E := nxS (nxS S)) (pc' := 24) (As := [.int (iI (1)), .int (iI (20))]) (st := []) h hF ⟨dT_readStretch_21, rfl⟩ kvT_71 (cT_num X (hx.nx) (by decide) (by decide)) (by omega) rfl (by decide) ⟨_, _, rfl⟩ rfl (Nat.le_of_ble_eq_true rfl) rfl ?_
    refine gi_if_ne (tgt := 29) (pc' := 27) h dT_readStretch_24 rfl rfl (by split <;> omega) (fun c24 => ?_) (fun c24 => ?_)
    · have c24 := b1 c24
      refine go_aload_n (pc' := 30) h ⟨dT_readStretch_29, rfl⟩ rfl ?_
      refine gs_get (v := .int (iI (vS (nxS S)))) (pc' := 33) h ⟨dT_readStretch_30, rfl⟩ fgT_75 rfl (by decide) (by show some (Value.int (iI ((nxS (nxS S)).1 1 4))) = _; rw [nxS_num c24.1]) ?_
      refine go_istore_n (L' := [.ref 1, .ref p, .int (iI (vS S)), .int (iI (vS (nxS S)))]) (pc' := 34) h ⟨dT_readStretch_33, rfl⟩ (by decide) rfl rfl ?_
      refine go_aload_n (pc' := 35) h ⟨dT_readStretch_34, rfl⟩ rfl ?_
      refine gi_iconst (pc' := 36) h ⟨dT_readStretch_35, rfl⟩ ?_
      refine gi_bipush (pc' := 38) h ⟨dT_readStretch_36, rfl⟩ rfl ?_
      refine gd_callVI (e := if numS (nxS (nxS S)) 0 6 then 1 else 0) (E := nxS (nxS (nxS S))) (pc' := 41) (As := [.int (iI (0)), .int (iI (6))]) (st := []) h hF ⟨dT_readStretch_38, rfl⟩ kvT_71 (cT_num X ((hx.nx).nx) (by decide) (by decide)) (by omega) rfl (by decide) ⟨_, _, rfl⟩ rfl (Nat.le_of_ble_eq_true rfl) rfl ?_
      refine gi_if_ne (tgt := 46) (pc' := 44) h dT_readStretch_41 rfl rfl (by split <;> omega) (fun c41 => ?_) (fun c41 => ?_)
      · have c41 := b1 c41
        refine go_aload_n (pc' := 47) h ⟨dT_readStretch_46, rfl⟩ rfl ?_
        refine go_iload_n (pc' := 48) h ⟨dT_readStretch_47, rfl⟩ rfl ?_
        refine go_iload_n (pc' := 49) h ⟨dT_readStretch_48, rfl⟩ rfl ?_
        refine go_aload_n (pc' := 50) h ⟨dT_readStretch_49, rfl⟩ rfl ?_
        refine gs_get (v := .int (iI (vS (nxS (nxS S))))) (pc' := 53) h ⟨dT_readStretch_50, rfl⟩ fgT_75 rfl (by decide) (by show some (Value.int (iI ((nxS (nxS (nxS S))).1 1 4))) = _; rw [nxS_num c41.1]) ?_
        refine gi_iconst (pc' := 54) h ⟨dT_readStretch_53, rfl⟩ ?_
        refine gi_isub (pc' := 55) h ⟨dT_readStretch_54, rfl⟩ ?_
        refine gd_callVV (E := padd (nxS (nxS (nxS S))) p (vS S) (vS (nxS S)) ((vS (nxS (nxS S))) - 3)) (pc' := 58) (As := [.int (iI (vS S)), .int (iI (vS (nxS S))), .int (iI ((vS (nxS (nxS S))) - 3))]) (st := []) h hF ⟨dT_readStretch_55, rfl⟩ kvT_78 (cP_add X hk (((hW.nx).nx).nx) (by omega) (by omega) (by omega)) (by omega) hk (by decide) ⟨_, _, rfl⟩ rfl (Nat.le_of_ble_eq_true rfl) rfl ?_
        refine go_aload_n (pc' := 59) h ⟨dT_readStretch_58, rfl⟩ rfl ?_
        refine gd_callVI (e := if stopS (padd (nxS (nxS (nxS S))) p (vS S) (vS (nxS S)) ((vS (nxS (nxS S))) - 3)) then 1 else 0) (E := nxS (padd (nxS (nxS (nxS S))) p (vS S) (vS (nxS S)) ((vS (nxS (nxS S))) - 3))) (pc' := 62) (As := []) (st := []) h hF ⟨dT_readStretch_59, rfl⟩ kvT_82 (cT_end X ((((hx.nx).nx).nx).same (by rw [padd_ne _ _ _ _ _ (by omega)]) (padd_ne _ _ _ _ _ (by omega)) (padd_ne _ _ _ _ _ (by omega)))) (by omega) rfl (by decide) ⟨_, _, rfl⟩ rfl (Nat.le_of_ble_eq_true rfl) rfl ?_
        exact gs_zret h hE dT_readStretch_62 (by split <;> simp) (by unfold stR; rw [if_neg (not_not_intro c7), if_neg (not_not_intro c24), if_neg (not_not_intro c41)]; exact ⟨rfl, rfl⟩)
      · have c41 := b0 c41
        refine gi_iconst (pc' := 45) h ⟨dT_readStretch_44, rfl⟩ ?_
        exact gs_zret h hE dT_readStretch_45 (by omega) (by unfold stR; rw [if_neg (not_not_intro c7), if_neg (not_not_intro c24), if_pos c41]; exact ⟨rfl, rfl⟩)
    · have c24 := b0 c24
      refine gi_iconst (pc' := 28) h ⟨dT_readStretch_27, rfl⟩ ?_
      exact gs_zret h hE dT_readStretch_28 (by omega) (by unfold stR; rw [if_neg (not_not_intro c7), if_pos c24]; exact ⟨rfl, rfl⟩)
  · have c7 := b0 c7
    refine gi_iconst (pc' := 11) h ⟨dT_readStretch_10, rfl⟩ ?_
    exact gs_zret h hE dT_readStretch_11 (by omega) (by unfold stR; rw [if_pos c7]; exact ⟨rfl, rfl⟩)
set_option maxRecDepth 4000 in
theorem cT_tra (X : XT) {S : Sg} {p : Nat} (hp : p = 4 ∨ p = 17) (hx : txOk S) (hW : Wr S) : Ctr X 3 yT_readTraveller bT_readTraveller 2 (some .boolean) [.ref 1, .ref p] (mk S) (PI (fun r S' => r = (trR S p).1 ∧ S' = (trR S p).2)) 0 0 := by
  refine Ctr.ofS (by decide) rfl (Nat.le_of_ble_eq_true rfl) (fun F h hF hE => ?_)
  have hk := kd_p hp
  obtain ⟨k1, k3, k5, k7, k9, k11, l2, l4, l6, l8, l10, l12⟩ := plan_ok hk
  refine go_aload_n (pc' := 1) h ⟨dT_readTraveller_0, rfl⟩ rfl ?_
  refine gi_iconst (pc' := 2) h ⟨dT_readTraveller_1, rfl⟩ ?_
  refine gi_bipush (pc' := 4) h ⟨dT_readTraveller_2, rfl⟩ rfl ?_
  refine gd_callVI (e := if numS S 1 99 then 1 else 0) (E := nxS S) (pc' := 7) (As := [.int (iI (1)), .int (iI (99))]) (st := []) h hF ⟨dT_readTraveller_4, rfl⟩ kvT_71 (cT_num X hx (by decide) (by decide)) (by omega) rfl (by decide) ⟨_, _, rfl⟩ rfl (Nat.le_of_ble_eq_true rfl) rfl ?_
  refine gi_if_ne (tgt := 12) (pc' := 10) h dT_readTraveller_7 rfl rfl (by split <;> omega) (fun c7 => ?_) (fun c7 => ?_)
  · have c7 := b1 c7
    refine go_aload_n (pc' := 13) h ⟨dT_readTraveller_12, rfl⟩ rfl ?_
    refine gs_get (v := .ref (p + 11)) (pc' := 16) h ⟨dT_readTraveller_13, rfl⟩ fgT_59 hk (by decide) (rfl) ?_
    refine go_aload_n (pc' := 17) h ⟨dT_readTraveller_16, rfl⟩ rfl ?_
    refine gs_get (v := .int (iI (vS S))) (pc' := 20) h ⟨dT_readTraveller_17, rfl⟩ fgT_75 rfl (by decide) (by show some (Value.int (iI ((nxS S).1 1 4))) = _; rw [nxS_num c7.1]) ?_
    refine gd_callVV (E := rpush (nxS S) (p + 11) (vS S)) (pc' := 23) (As := [.int (iI (vS S))]) (st := []) h hF ⟨dT_readTraveller_20, rfl⟩ kvT_85 (cR_push X k11 ((hW.nx) (p + 11) k11)) (by omega) k11 (by decide) ⟨_, _, rfl⟩ rfl (Nat.le_of_ble_eq_true rfl) rfl ?_
    refine go_aload_n (pc' := 24) h ⟨dT_readTraveller_23, rfl⟩ rfl ?_
    refine gd_callVI (e := if stopS (rpush (nxS S) (p + 11) (vS S)) then 1 else 0) (E := nxS (rpush (nxS S) (p + 11) (vS S))) (pc' := 27) (As := []) (st := []) h hF ⟨dT_readTraveller_24, rfl⟩ kvT_82 (cT_end X ((hx.nx).same (by rw [rpush_ne _ _ (by omega) (by omega)]) (rpush_ne _ _ (by omega) (by omega)) (rpush_ne _ _ (by omega) (by omega)))) (by omega) rfl (by decide) ⟨_, _, rfl⟩ rfl (Nat.le_of_ble_eq_true rfl) rfl ?_
    exact gs_zret h hE dT_readTraveller_27 (by split <;> simp) (by unfold trR; rw [if_neg (not_not_intro c7)]; exact ⟨rfl, rfl⟩)
  · have c7 := b0 c7
    refine gi_iconst (pc' := 11) h ⟨dT_readTraveller_10, rfl⟩ ?_
    exact gs_zret h hE dT_readTraveller_11 (by omega) (by unfold trR; rw [if_pos c7]; exact ⟨rfl, rfl⟩)
set_option maxRecDepth 4000 in
theorem cT_rea (X : XT) {S : Sg} {p : Nat} (hp : p = 4 ∨ p = 17) (hx : txOk S) (hW : Wr S) : Ctr X 3 yT_readReach bT_readReach 2 (some .boolean) [.ref 1, .ref p] (mk S) (PI (fun r S' => r = (reR S p).1 ∧ S' = (reR S p).2)) 0 0 := by
  refine Ctr.ofS (by decide) rfl (Nat.le_of_ble_eq_true rfl) (fun F h hF hE => ?_)
  have hk := kd_p hp
  obtain ⟨k1, k3, k5, k7, k9, k11, l2, l4, l6, l8, l10, l12⟩ := plan_ok hk
  refine go_aload_n (pc' := 1) h ⟨dT_readReach_0, rfl⟩ rfl ?_
  refine gi_iconst (pc' := 2) h ⟨dT_readReach_1, rfl⟩ ?_
  refine gi_bipush (pc' := 4) h ⟨dT_readReach_2, rfl⟩ rfl ?_
  refine gd_callVI (e := if numS S 1 9 then 1 else 0) (E := nxS S) (pc' := 7) (As := [.int (iI (1)), .int (iI (9))]) (st := []) h hF ⟨dT_readReach_4, rfl⟩ kvT_71 (cT_num X hx (by decide) (by decide)) (by omega) rfl (by decide) ⟨_, _, rfl⟩ rfl (Nat.le_of_ble_eq_true rfl) rfl ?_
  refine gi_if_ne (tgt := 12) (pc' := 10) h dT_readReach_7 rfl rfl (by split <;> omega) (fun c7 => ?_) (fun c7 => ?_)
  · have c7 := b1 c7
    refine go_aload_n (pc' := 13) h ⟨dT_readReach_12, rfl⟩ rfl ?_
    refine go_aload_n (pc' := 14) h ⟨dT_readReach_13, rfl⟩ rfl ?_
    refine gs_get (v := .int (iI (vS S))) (pc' := 17) h ⟨dT_readReach_14, rfl⟩ fgT_75 rfl (by decide) (by show some (Value.int (iI ((nxS S).1 1 4))) = _; rw [nxS_num c7.1]) ?_
    refine gd_putI (i := 6) (pc' := 20) h ⟨dT_readReach_17, rfl⟩ fpT_88 hk (by decide) rfl rfl ?_
    refine go_aload_n (pc' := 21) h ⟨dT_readReach_20, rfl⟩ rfl ?_
    refine gi_iconst (pc' := 22) h ⟨dT_readReach_21, rfl⟩ ?_
    refine gd_putZ (i := 5) (pc' := 25) h ⟨dT_readReach_22, rfl⟩ fpT_29 rfl (by decide) rfl rfl (by omega) ?_
    refine go_aload_n (pc' := 26) h ⟨dT_readReach_25, rfl⟩ rfl ?_
    refine gd_callVI (e := if stopS (pt (pt (nxS S) p 6 (vS S)) 1 5 1) then 1 else 0) (E := nxS (pt (pt (nxS S) p 6 (vS S)) 1 5 1)) (pc' := 29) (As := []) (st := []) h hF ⟨dT_readReach_26, rfl⟩ kvT_82 (cT_end X ((hx.nx).same (by rw [pt_eq, pt_ne _ _ _ (by omega)]; rfl) (by rw [pt_ne _ _ _ (by decide), pt_ne _ _ _ (by omega)]) (by rw [pt_ne _ _ _ (by decide), pt_ne _ _ _ (by omega)]))) (by omega) rfl (by decide) ⟨_, _, rfl⟩ rfl (Nat.le_of_ble_eq_true rfl) rfl ?_
    exact gs_zret h hE dT_readReach_29 (by split <;> simp) (by unfold reR; rw [if_neg (not_not_intro c7)]; exact ⟨rfl, rfl⟩)
  · have c7 := b0 c7
    refine gi_iconst (pc' := 11) h ⟨dT_readReach_10, rfl⟩ ?_
    exact gs_zret h hE dT_readReach_11 (by omega) (by unfold reR; rw [if_pos c7]; exact ⟨rfl, rfl⟩)
set_option maxRecDepth 4000 in
theorem cT_boy (X : XT) {S : Sg} {p : Nat} (hp : p = 4 ∨ p = 17) (hx : txOk S) (hW : Wr S) : Ctr X 3 yT_readBoys bT_readBoys 2 (some .boolean) [.ref 1, .ref p] (mk S) (PI (fun r S' => r = (boR S p).1 ∧ S' = (boR S p).2)) 0 0 := by
  refine Ctr.ofS (by decide) rfl (Nat.le_of_ble_eq_true rfl) (fun F h hF hE => ?_)
  have hk := kd_p hp
  obtain ⟨k1, k3, k5, k7, k9, k11, l2, l4, l6, l8, l10, l12⟩ := plan_ok hk
  refine go_aload_n (pc' := 1) h ⟨dT_readBoys_0, rfl⟩ rfl ?_
  refine gi_iconst (pc' := 2) h ⟨dT_readBoys_1, rfl⟩ ?_
  refine gi_bipush (pc' := 4) h ⟨dT_readBoys_2, rfl⟩ rfl ?_
  refine gd_callVI (e := if numS S 2 9 then 1 else 0) (E := nxS S) (pc' := 7) (As := [.int (iI (2)), .int (iI (9))]) (st := []) h hF ⟨dT_readBoys_4, rfl⟩ kvT_71 (cT_num X hx (by decide) (by decide)) (by omega) rfl (by decide) ⟨_, _, rfl⟩ rfl (Nat.le_of_ble_eq_true rfl) rfl ?_
  refine gi_if_ne (tgt := 12) (pc' := 10) h dT_readBoys_7 rfl rfl (by split <;> omega) (fun c7 => ?_) (fun c7 => ?_)
  · have c7 := b1 c7
    refine go_aload_n (pc' := 13) h ⟨dT_readBoys_12, rfl⟩ rfl ?_
    refine go_aload_n (pc' := 14) h ⟨dT_readBoys_13, rfl⟩ rfl ?_
    refine gs_get (v := .int (iI (vS S))) (pc' := 17) h ⟨dT_readBoys_14, rfl⟩ fgT_75 rfl (by decide) (by show some (Value.int (iI ((nxS S).1 1 4))) = _; rw [nxS_num c7.1]) ?_
    refine gd_putI (i := 7) (pc' := 20) h ⟨dT_readBoys_17, rfl⟩ fpT_91 hk (by decide) rfl rfl ?_
    refine go_aload_n (pc' := 21) h ⟨dT_readBoys_20, rfl⟩ rfl ?_
    refine gi_iconst (pc' := 22) h ⟨dT_readBoys_21, rfl⟩ ?_
    refine gd_putZ (i := 6) (pc' := 25) h ⟨dT_readBoys_22, rfl⟩ fpT_33 rfl (by decide) rfl rfl (by omega) ?_
    refine go_aload_n (pc' := 26) h ⟨dT_readBoys_25, rfl⟩ rfl ?_
    refine gd_callVI (e := if stopS (pt (pt (nxS S) p 7 (vS S)) 1 6 1) then 1 else 0) (E := nxS (pt (pt (nxS S) p 7 (vS S)) 1 6 1)) (pc' := 29) (As := []) (st := []) h hF ⟨dT_readBoys_26, rfl⟩ kvT_82 (cT_end X ((hx.nx).same (by rw [pt_eq, pt_ne _ _ _ (by omega)]; rfl) (by rw [pt_ne _ _ _ (by decide), pt_ne _ _ _ (by omega)]) (by rw [pt_ne _ _ _ (by decide), pt_ne _ _ _ (by omega)]))) (by omega) rfl (by decide) ⟨_, _, rfl⟩ rfl (Nat.le_of_ble_eq_true rfl) rfl ?_
    exact gs_zret h hE dT_readBoys_29 (by split <;> simp) (by unfold boR; rw [if_neg (not_not_intro c7)]; exact ⟨rfl, rfl⟩)
  · have c7 := b0 c7
    refine gi_iconst (pc' := 11) h ⟨dT_readBoys_10, rfl⟩ ?_
    exact gs_zret h hE dT_readBoys_11 (by omega) (by unfold boR; rw [if_pos c7]; exact ⟨rfl, rfl⟩)
