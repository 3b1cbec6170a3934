/-! Plan, at p -/
theorem plan_ok {p : Nat} (h : kd p = 2) : kd (p + 1) = 3 ∧ kd (p + 3) = 3 ∧ kd (p + 5) = 3 ∧ kd (p + 7) = 3 ∧ kd (p + 9) = 3 ∧ kd (p + 11) = 3 ∧ ln (p + 2) = 5 ∧ ln (p + 4) = 5 ∧ ln (p + 6) = 5 ∧ ln (p + 8) = 5 ∧ ln (p + 10) = 100 ∧ ln (p + 12) = 4 := by
  by_cases hj : p < 106
  · have : ∀ p, p < 106 → kd p = 2 → kd (p + 1) = 3 ∧ kd (p + 3) = 3 ∧ kd (p + 5) = 3 ∧ kd (p + 7) = 3 ∧ kd (p + 9) = 3 ∧ kd (p + 11) = 3 ∧ ln (p + 2) = 5 ∧ ln (p + 4) = 5 ∧ ln (p + 6) = 5 ∧ ln (p + 8) = 5 ∧ ln (p + 10) = 100 ∧ ln (p + 12) = 4 := by decide +kernel
    exact this p hj h
  · have : kd p = 11 := by
      unfold kd
      have h2 : kdL.length = 106 := by decide +kernel
      rw [List.getD_eq_getElem?_getD, List.getElem?_eq_none (by omega)]
      rfl
    omega
def pbegin (S : Sg) (p : Nat) : Sg := pt (pt (rempty (rempty (rempty (rempty (rempty (rempty S (p + 1)) (p + 3)) (p + 5)) (p + 7)) (p + 9)) (p + 11)) p 6 3) p 7 3
def hpush (S : Sg) (p : Nat) (r b : Int) : Nat → Sg
  | 0 => S
  | n + 1 => rpush (hpush S p r b n) (p + 9) (max 1 (r + (n : Int) * b))
def padd0 (S : Sg) (p : Nat) (n r b : Int) : Sg := hpush (rpush (rpush (rpush S (p + 1) n) (p + 3) r) (p + 5) b) p r b n.toNat
def padd (S : Sg) (p : Nat) (n r b : Int) : Sg := rpush (padd0 S p n r b) (p + 7) ((padd0 S p n r b).1 (p + 9) 1)
theorem Wr.hpush {S : Sg} (h : Wr S) {p : Nat} (hk : kd (p + 9) = 3) (r b : Int) : ∀ n : Nat, Wr (hpush S p r b n)
  | 0 => h
  | n + 1 => (Wr.hpush h hk r b n).push hk _
theorem mul_bd {j b : Int} (hj : 0 ≤ j ∧ j ≤ 20) (hb : -3 ≤ b ∧ b ≤ 3) : -60 ≤ j * b ∧ j * b ≤ 60 := by
  rcases (show b = -3 ∨ b = -2 ∨ b = -1 ∨ b = 0 ∨ b = 1 ∨ b = 2 ∨ b = 3 by omega) with rfl | rfl | rfl | rfl | rfl | rfl | rfl <;> omega
theorem mul_80 {x y : Int} (hx : 0 ≤ x ∧ x ≤ 1000) (hy : 0 ≤ y ∧ y ≤ 80) : 0 ≤ x * y ∧ x * y ≤ 80000 := ⟨Int.mul_nonneg hx.1 hy.1, Int.le_trans (Int.mul_le_mul hx.2 hy.2 hy.1 (by omega)) (by omega)⟩
/-- what a plan's rows hold is within bounds -/
def planOk (S : Sg) (p : Nat) : Prop := (0 ≤ S.1 (p + 1) 1 ∧ S.1 (p + 1) 1 ≤ 5) ∧ (0 ≤ S.1 (p + 9) 1 ∧ S.1 (p + 9) 1 ≤ 100) ∧ (0 ≤ S.1 (p + 11) 1 ∧ S.1 (p + 11) 1 ≤ 4) ∧ (∀ i : Int, 0 ≤ i → i < S.1 (p + 1) 1 → 1 ≤ S.1 (p + 2) i ∧ S.1 (p + 2) i ≤ 20) ∧ (∀ i : Int, 0 ≤ i → i < S.1 (p + 9) 1 → 1 ≤ S.1 (p + 10) i ∧ S.1 (p + 10) i ≤ 80) ∧ (∀ i : Int, 0 ≤ i → i < S.1 (p + 11) 1 → 1 ≤ S.1 (p + 12) i ∧ S.1 (p + 12) i ≤ 99) ∧ (1 ≤ S.1 p 6 ∧ S.1 p 6 ≤ 9)
set_option maxRecDepth 4000 in
theorem cP_begin (X : XT) {S : Sg} {p : Nat} (hp : kd p = 2) : Ctr X 1 yP_begin bP_begin 1 none [.ref p] (mk S) (PV (fun S' => S' = pbegin S p)) 0 0 := by
  refine Ctr.ofS (by decide) rfl (Nat.le_of_ble_eq_true rfl) (fun F h hF hE => ?_)
  obtain ⟨k1, k3, k5, k7, k9, k11, l2, l4, l6, l8, l10, l12⟩ := plan_ok hp
  refine go_aload_n (pc' := 1) h ⟨dP_begin_0, rfl⟩ rfl ?_
  refine gs_get (v := .ref (p + 1)) (pc' := 4) h ⟨dP_begin_1, rfl⟩ fgP_14 hp (by decide) (rfl) ?_
  refine gd_callVV (E := rempty S (p + 1)) (pc' := 7) (As := []) (st := []) h hF ⟨dP_begin_4, rfl⟩ kvP_42 (cR_empty X k1) (by omega) k1 (by decide) ⟨_, _, rfl⟩ rfl (Nat.le_of_ble_eq_true rfl) rfl ?_
  refine go_aload_n (pc' := 8) h ⟨dP_begin_7, rfl⟩ rfl ?_
  refine gs_get (v := .ref (p + 3)) (pc' := 11) h ⟨dP_begin_8, rfl⟩ fgP_20 hp (by decide) (rfl) ?_
  refine gd_callVV (E := rempty (rempty S (p + 1)) (p + 3)) (pc' := 14) (As := []) (st := []) h hF ⟨dP_begin_11, rfl⟩ kvP_42 (cR_empty X k3) (by omega) k3 (by decide) ⟨_, _, rfl⟩ rfl (Nat.le_of_ble_eq_true rfl) rfl ?_
  refine go_aload_n (pc' := 15) h ⟨dP_begin_14, rfl⟩ rfl ?_
  refine gs_get (v := .ref (p + 5)) (pc' := 18) h ⟨dP_begin_15, rfl⟩ fgP_23 hp (by decide) (rfl) ?_
  refine gd_callVV (E := rempty (rempty (rempty S (p + 1)) (p + 3)) (p + 5)) (pc' := 21) (As := []) (st := []) h hF ⟨dP_begin_18, rfl⟩ kvP_42 (cR_empty X k5) (by omega) k5 (by decide) ⟨_, _, rfl⟩ rfl (Nat.le_of_ble_eq_true rfl) rfl ?_
  refine go_aload_n (pc' := 22) h ⟨dP_begin_21, rfl⟩ rfl ?_
  refine gs_get (v := .ref (p + 7)) (pc' := 25) h ⟨dP_begin_22, rfl⟩ fgP_26 hp (by decide) (rfl) ?_
  refine gd_callVV (E := rempty (rempty (rempty (rempty S (p + 1)) (p + 3)) (p + 5)) (p + 7)) (pc' := 28) (As := []) (st := []) h hF ⟨dP_begin_25, rfl⟩ kvP_42 (cR_empty X k7) (by omega) k7 (by decide) ⟨_, _, rfl⟩ rfl (Nat.le_of_ble_eq_true rfl) rfl ?_
  refine go_aload_n (pc' := 29) h ⟨dP_begin_28, rfl⟩ rfl ?_
  refine gs_get (v := .ref (p + 9)) (pc' := 32) h ⟨dP_begin_29, rfl⟩ fgP_29 hp (by decide) (rfl) ?_
  refine gd_callVV (E := rempty (rempty (rempty (rempty (rempty S (p + 1)) (p + 3)) (p + 5)) (p + 7)) (p + 9)) (pc' := 35) (As := []) (st := []) h hF ⟨dP_begin_32, rfl⟩ kvP_42 (cR_empty X k9) (by omega) k9 (by decide) ⟨_, _, rfl⟩ rfl (Nat.le_of_ble_eq_true rfl) rfl ?_
  refine go_aload_n (pc' := 36) h ⟨dP_begin_35, rfl⟩ rfl ?_
  refine gs_get (v := .ref (p + 11)) (pc' := 39) h ⟨dP_begin_36, rfl⟩ fgP_32 hp (by decide) (rfl) ?_
  refine gd_callVV (E := rempty (rempty (rempty (rempty (rempty (rempty S (p + 1)) (p + 3)) (p + 5)) (p + 7)) (p + 9)) (p + 11)) (pc' := 42) (As := []) (st := []) h hF ⟨dP_begin_39, rfl⟩ kvP_42 (cR_empty X k11) (by omega) k11 (by decide) ⟨_, _, rfl⟩ rfl (Nat.le_of_ble_eq_true rfl) rfl ?_
  refine go_aload_n (pc' := 43) h ⟨dP_begin_42, rfl⟩ rfl ?_
  refine gi_iconst (pc' := 44) h ⟨dP_begin_43, rfl⟩ ?_
  refine gd_putI (i := 6) (pc' := 47) h ⟨dP_begin_44, rfl⟩ fpP_35 hp (by decide) rfl rfl ?_
  refine go_aload_n (pc' := 48) h ⟨dP_begin_47, rfl⟩ rfl ?_
  refine gi_iconst (pc' := 49) h ⟨dP_begin_48, rfl⟩ ?_
  refine gd_putI (i := 7) (pc' := 52) h ⟨dP_begin_49, rfl⟩ fpP_39 hp (by decide) rfl rfl ?_
  exact gs_vret h hE dP_begin_52 (rfl)
set_option maxRecDepth 4000 in
theorem cP_add (X : XT) {S : Sg} {p : Nat} (hp : kd p = 2) (hW : Wr S) {n r b : Int} (hn : 1 ≤ n ∧ n ≤ 20) (hr : 1 ≤ r ∧ r ≤ 20) (hb : -3 ≤ b ∧ b ≤ 3) : Ctr X 2 yP_addStretch bP_addStretch 5 none [.ref p, .int (iI (n)), .int (iI (r)), .int (iI (b))] (mk S) (PV (fun S' => S' = padd S p n r b)) 0 0 := by
  refine Ctr.ofS (by decide) rfl (Nat.le_of_ble_eq_true rfl) (fun F h hF hE => ?_)
  obtain ⟨k1, k3, k5, k7, k9, k11, l2, l4, l6, l8, l10, l12⟩ := plan_ok hp
  have hW1 : Wr (rpush (rpush (rpush S (p + 1) n) (p + 3) r) (p + 5) b) := ((hW.push k1 _).push k3 _).push k5 _
  have loop : ∀ (m : Nat) (j : Nat), n < j + m → (j : Int) ≤ n → Go F 5 (mk (hpush (rpush (rpush (rpush S (p + 1) n) (p + 3) r) (p + 5) b) p r b j)) 0 0 27 [.ref p, .int (iI n), .int (iI r), .int (iI b), .int (iI (j : Int))] [] := by
    intro m
    induction m with
    | zero => intro j g4 g6; exfalso; omega
    | succ m ih =>
      intro j g4 g6
      have g7 := mul_bd (j := (j : Int)) (b := b) (by omega) hb
      refine go_iload (pc' := 29) h ⟨dP_addStretch_27, rfl⟩ rfl ?_
      refine go_iload_n (pc' := 30) h ⟨dP_addStretch_29, rfl⟩ rfl ?_
      refine gi_icmp_ge (tgt := 56) (pc' := 33) h dP_addStretch_30 rfl rfl (by omega) (fun c30 => ?_) (fun c30 => ?_)
      · rw [show hpush (rpush (rpush (rpush S (p + 1) n) (p + 3) r) (p + 5) b) p r b j = padd0 S p n r b from by unfold padd0; rw [show n.toNat = j by omega]]
        refine go_aload_n (pc' := 57) h ⟨dP_addStretch_56, rfl⟩ rfl ?_
        refine gs_get (v := .ref (p + 7)) (pc' := 60) h ⟨dP_addStretch_57, rfl⟩ fgP_26 hp (by decide) (rfl) ?_
        refine go_aload_n (pc' := 61) h ⟨dP_addStretch_60, rfl⟩ rfl ?_
        refine gs_get (v := .ref (p + 9)) (pc' := 64) h ⟨dP_addStretch_61, rfl⟩ fgP_29 hp (by decide) (rfl) ?_
        refine gd_callVI (e := (padd0 S p n r b).1 (p + 9) 1) (E := padd0 S p n r b) (pc' := 67) (As := []) (st := [.ref (p + 7)]) h hF ⟨dP_addStretch_64, rfl⟩ kvP_54 (cR_size X k9) (by omega) k9 (by decide) ⟨_, _, rfl⟩ rfl (Nat.le_of_ble_eq_true rfl) rfl ?_
        refine gd_callVV (E := padd S p n r b) (pc' := 70) (As := [.int (iI ((padd0 S p n r b).1 (p + 9) 1))]) (st := []) h hF ⟨dP_addStretch_67, rfl⟩ kvP_45 (cR_push X k7 (by unfold padd0; exact (Wr.hpush hW1 k9 r b _) _ k7)) (by omega) k7 (by decide) ⟨_, _, rfl⟩ rfl (Nat.le_of_ble_eq_true rfl) rfl ?_
        exact gs_vret h hE dP_addStretch_70 (rfl)
      · refine go_aload_n (pc' := 34) h ⟨dP_addStretch_33, rfl⟩ rfl ?_
        refine gs_get (v := .ref (p + 9)) (pc' := 37) h ⟨dP_addStretch_34, rfl⟩ fgP_29 hp (by decide) (rfl) ?_
        refine gi_iconst (pc' := 38) h ⟨dP_addStretch_37, rfl⟩ ?_
        refine go_iload_n (pc' := 39) h ⟨dP_addStretch_38, rfl⟩ rfl ?_
        refine go_iload (pc' := 41) h ⟨dP_addStretch_39, rfl⟩ rfl ?_
        refine go_iload_n (pc' := 42) h ⟨dP_addStretch_41, rfl⟩ rfl ?_
        refine gi_imul (pc' := 43) h ⟨dP_addStretch_42, rfl⟩ ?_
        refine gi_iadd (pc' := 44) h ⟨dP_addStretch_43, rfl⟩ ?_
        refine gd_callSI (e := max 1 (r + (((j : Int)) * b))) (E := hpush (rpush (rpush (rpush S (p + 1) n) (p + 3) r) (p + 5) b) p r b j) (pc' := 47) (As := [.int (iI (1)), .int (iI (r + (((j : Int)) * b)))]) (st := [.ref (p + 9)]) h hF ⟨dP_addStretch_44, rfl⟩ kvP_48 (cK_max X (by omega)) (by omega) rfl (Nat.le_of_ble_eq_true rfl) rfl ?_
        refine gd_callVV (E := rpush (hpush (rpush (rpush (rpush S (p + 1) n) (p + 3) r) (p + 5) b) p r b j) (p + 9) (max 1 (r + (((j : Int)) * b)))) (pc' := 50) (As := [.int (iI (max 1 (r + (((j : Int)) * b))))]) (st := []) h hF ⟨dP_addStretch_47, rfl⟩ kvP_45 (cR_push X k9 ((Wr.hpush hW1 k9 r b j) (p + 9) k9)) (by omega) k9 (by decide) ⟨_, _, rfl⟩ rfl (Nat.le_of_ble_eq_true rfl) rfl ?_
        refine gi_iinc (L' := [.ref p, .int (iI (n)), .int (iI (r)), .int (iI (b)), .int (iI ((j : Int) + 1))]) (pc' := 53) h ⟨dP_addStretch_50, rfl⟩ rfl (by decide) rfl rfl ?_
        refine gi_goto (tgt := 27) h dP_addStretch_53 rfl ?_
        exact ih (j + 1) (by omega) (by omega)
  refine go_aload_n (pc' := 1) h ⟨dP_addStretch_0, rfl⟩ rfl ?_
  refine gs_get (v := .ref (p + 1)) (pc' := 4) h ⟨dP_addStretch_1, rfl⟩ fgP_14 hp (by decide) (rfl) ?_
  refine go_iload_n (pc' := 5) h ⟨dP_addStretch_4, rfl⟩ rfl ?_
  refine gd_callVV (E := rpush S (p + 1) n) (pc' := 8) (As := [.int (iI (n))]) (st := []) h hF ⟨dP_addStretch_5, rfl⟩ kvP_45 (cR_push X k1 (hW (p + 1) k1)) (by omega) k1 (by decide) ⟨_, _, rfl⟩ rfl (Nat.le_of_ble_eq_true rfl) rfl ?_
  refine go_aload_n (pc' := 9) h ⟨dP_addStretch_8, rfl⟩ rfl ?_
  refine gs_get (v := .ref (p + 3)) (pc' := 12) h ⟨dP_addStretch_9, rfl⟩ fgP_20 hp (by decide) (rfl) ?_
  refine go_iload_n (pc' := 13) h ⟨dP_addStretch_12, rfl⟩ rfl ?_
  refine gd_callVV (E := rpush (rpush S (p + 1) n) (p + 3) r) (pc' := 16) (As := [.int (iI (r))]) (st := []) h hF ⟨dP_addStretch_13, rfl⟩ kvP_45 (cR_push X k3 ((hW.push k1 _) (p + 3) k3)) (by omega) k3 (by decide) ⟨_, _, rfl⟩ rfl (Nat.le_of_ble_eq_true rfl) rfl ?_
  refine go_aload_n (pc' := 17) h ⟨dP_addStretch_16, rfl⟩ rfl ?_
  refine gs_get (v := .ref (p + 5)) (pc' := 20) h ⟨dP_addStretch_17, rfl⟩ fgP_23 hp (by decide) (rfl) ?_
  refine go_iload_n (pc' := 21) h ⟨dP_addStretch_20, rfl⟩ rfl ?_
  refine gd_callVV (E := rpush (rpush (rpush S (p + 1) n) (p + 3) r) (p + 5) b) (pc' := 24) (As := [.int (iI (b))]) (st := []) h hF ⟨dP_addStretch_21, rfl⟩ kvP_45 (cR_push X k5 (((hW.push k1 _).push k3 _) (p + 5) k5)) (by omega) k5 (by decide) ⟨_, _, rfl⟩ rfl (Nat.le_of_ble_eq_true rfl) rfl ?_
  refine gi_iconst (pc' := 25) h ⟨dP_addStretch_24, rfl⟩ ?_
  refine go_istore (L' := [.ref p, .int (iI (n)), .int (iI (r)), .int (iI (b)), .int (iI (0))]) (pc' := 27) h ⟨dP_addStretch_25, rfl⟩ (by decide) rfl rfl ?_
  exact loop (n.toNat + 1) 0 (by omega) (by omega)
set_option maxRecDepth 4000 in
theorem cP_hasStretch (X : XT) {S : Sg} {p : Nat} (hp : kd p = 2) (hok : planOk S p) {x : Int} (hx : -2147483648 ≤ x ∧ x ≤ 2147483647) : Ctr X 1 yP_hasStretch bP_hasStretch 2 (some .boolean) [.ref p, .int (iI (x))] (mk S) (PI (fun r S' => r = (if 0 ≤ x ∧ x < S.1 (p + 1) 1 then 1 else 0) ∧ S' = S)) 0 0 := by
  refine Ctr.ofS (by decide) rfl (Nat.le_of_ble_eq_true rfl) (fun F h hF hE => ?_)
  obtain ⟨k1, k3, k5, k7, k9, k11, l2, l4, l6, l8, l10, l12⟩ := plan_ok hp
  obtain ⟨o1, o2, o3, o4, o5, o6, o7⟩ := id hok
  refine go_iload_n (pc' := 1) h ⟨dP_hasStretch_0, rfl⟩ rfl ?_
  refine gi_if_lt (tgt := 19) (pc' := 4) h dP_hasStretch_1 rfl rfl (by omega) (fun c1 => ?_) (fun c1 => ?_)
  · refine gi_iconst (pc' := 20) h ⟨dP_hasStretch_19, rfl⟩ ?_
    exact gs_zret h hE dP_hasStretch_20 (by omega) (⟨by rw [if_neg (by omega)], rfl⟩)
  · refine go_iload_n (pc' := 5) h ⟨dP_hasStretch_4, rfl⟩ rfl ?_
    refine go_aload_n (pc' := 6) h ⟨dP_hasStretch_5, rfl⟩ rfl ?_
    refine gs_get (v := .ref (p + 1)) (pc' := 9) h ⟨dP_hasStretch_6, rfl⟩ fgP_14 hp (by decide) (rfl) ?_
    refine gd_callVI (e := S.1 (p + 1) 1) (E := S) (pc' := 12) (As := []) (st := [.int (iI (x))]) h hF ⟨dP_hasStretch_9, rfl⟩ kvP_54 (cR_size X k1) (by omega) k1 (by decide) ⟨_, _, rfl⟩ rfl (Nat.le_of_ble_eq_true rfl) rfl ?_
    refine gi_icmp_ge (tgt := 19) (pc' := 15) h dP_hasStretch_12 rfl rfl (by omega) (fun c12 => ?_) (fun c12 => ?_)
    · refine gi_iconst (pc' := 20) h ⟨dP_hasStretch_19, rfl⟩ ?_
      exact gs_zret h hE dP_hasStretch_20 (by omega) (⟨by rw [if_neg (by omega)], rfl⟩)
    · refine gi_iconst (pc' := 16) h ⟨dP_hasStretch_15, rfl⟩ ?_
      refine gi_goto (tgt := 20) h dP_hasStretch_16 rfl ?_
      exact gs_zret h hE dP_hasStretch_20 (by omega) (⟨by rw [if_pos (by omega)], rfl⟩)
set_option maxRecDepth 4000 in
theorem cP_hasTraveller (X : XT) {S : Sg} {p : Nat} (hp : kd p = 2) (hok : planOk S p) {x : Int} (hx : -2147483648 ≤ x ∧ x ≤ 2147483647) : Ctr X 1 yP_hasTraveller bP_hasTraveller 2 (some .boolean) [.ref p, .int (iI (x))] (mk S) (PI (fun r S' => r = (if 0 ≤ x ∧ x < S.1 (p + 11) 1 then 1 else 0) ∧ S' = S)) 0 0 := by
  refine Ctr.ofS (by decide) rfl (Nat.le_of_ble_eq_true rfl) (fun F h hF hE => ?_)
  obtain ⟨k1, k3, k5, k7, k9, k11, l2, l4, l6, l8, l10, l12⟩ := plan_ok hp
  obtain ⟨o1, o2, o3, o4, o5, o6, o7⟩ := id hok
  refine go_iload_n (pc' := 1) h ⟨dP_hasTraveller_0, rfl⟩ rfl ?_
  refine gi_if_lt (tgt := 19) (pc' := 4) h dP_hasTraveller_1 rfl rfl (by omega) (fun c1 => ?_) (fun c1 => ?_)
  · refine gi_iconst (pc' := 20) h ⟨dP_hasTraveller_19, rfl⟩ ?_
    exact gs_zret h hE dP_hasTraveller_20 (by omega) (⟨by rw [if_neg (by omega)], rfl⟩)
  · refine go_iload_n (pc' := 5) h ⟨dP_hasTraveller_4, rfl⟩ rfl ?_
    refine go_aload_n (pc' := 6) h ⟨dP_hasTraveller_5, rfl⟩ rfl ?_
    refine gs_get (v := .ref (p + 11)) (pc' := 9) h ⟨dP_hasTraveller_6, rfl⟩ fgP_32 hp (by decide) (rfl) ?_
    refine gd_callVI (e := S.1 (p + 11) 1) (E := S) (pc' := 12) (As := []) (st := [.int (iI (x))]) h hF ⟨dP_hasTraveller_9, rfl⟩ kvP_54 (cR_size X k11) (by omega) k11 (by decide) ⟨_, _, rfl⟩ rfl (Nat.le_of_ble_eq_true rfl) rfl ?_
    refine gi_icmp_ge (tgt := 19) (pc' := 15) h dP_hasTraveller_12 rfl rfl (by omega) (fun c12 => ?_) (fun c12 => ?_)
    · refine gi_iconst (pc' := 20) h ⟨dP_hasTraveller_19, rfl⟩ ?_
      exact gs_zret h hE dP_hasTraveller_20 (by omega) (⟨by rw [if_neg (by omega)], rfl⟩)
    · refine gi_iconst (pc' := 16) h ⟨dP_hasTraveller_15, rfl⟩ ?_
      refine gi_goto (tgt := 20) h dP_hasTraveller_16 rfl ?_
      exact gs_zret h hE dP_hasTraveller_20 (by omega) (⟨by rw [if_pos (by omega)], rfl⟩)
set_option maxRecDepth 4000 in
theorem cP_hasThousand (X : XT) {S : Sg} {p : Nat} (hp : kd p = 2) (hok : planOk S p) {x : Int} (hx : -2147483648 ≤ x ∧ x ≤ 2147483647) : Ctr X 1 yP_hasThousand bP_hasThousand 2 (some .boolean) [.ref p, .int (iI (x))] (mk S) (PI (fun r S' => r = (if 0 ≤ x ∧ x < S.1 (p + 9) 1 then 1 else 0) ∧ S' = S)) 0 0 := by
  refine Ctr.ofS (by decide) rfl (Nat.le_of_ble_eq_true rfl) (fun F h hF hE => ?_)
  obtain ⟨k1, k3, k5, k7, k9, k11, l2, l4, l6, l8, l10, l12⟩ := plan_ok hp
  obtain ⟨o1, o2, o3, o4, o5, o6, o7⟩ := id hok
  refine go_iload_n (pc' := 1) h ⟨dP_hasThousand_0, rfl⟩ rfl ?_
  refine gi_if_lt (tgt := 19) (pc' := 4) h dP_hasThousand_1 rfl rfl (by omega) (fun c1 => ?_) (fun c1 => ?_)
  · refine gi_iconst (pc' := 20) h ⟨dP_hasThousand_19, rfl⟩ ?_
    exact gs_zret h hE dP_hasThousand_20 (by omega) (⟨by rw [if_neg (by omega)], rfl⟩)
  · refine go_iload_n (pc' := 5) h ⟨dP_hasThousand_4, rfl⟩ rfl ?_
    refine go_aload_n (pc' := 6) h ⟨dP_hasThousand_5, rfl⟩ rfl ?_
    refine gs_get (v := .ref (p + 9)) (pc' := 9) h ⟨dP_hasThousand_6, rfl⟩ fgP_29 hp (by decide) (rfl) ?_
    refine gd_callVI (e := S.1 (p + 9) 1) (E := S) (pc' := 12) (As := []) (st := [.int (iI (x))]) h hF ⟨dP_hasThousand_9, rfl⟩ kvP_54 (cR_size X k9) (by omega) k9 (by decide) ⟨_, _, rfl⟩ rfl (Nat.le_of_ble_eq_true rfl) rfl ?_
    refine gi_icmp_ge (tgt := 19) (pc' := 15) h dP_hasThousand_12 rfl rfl (by omega) (fun c12 => ?_) (fun c12 => ?_)
    · refine gi_iconst (pc' := 20) h ⟨dP_hasThousand_19, rfl⟩ ?_
      exact gs_zret h hE dP_hasThousand_20 (by omega) (⟨by rw [if_neg (by omega)], rfl⟩)
    · refine gi_iconst (pc' := 16) h ⟨dP_hasThousand_15, rfl⟩ ?_
      refine gi_goto (tgt := 20) h dP_hasThousand_16 rfl ?_
      exact gs_zret h hE dP_hasThousand_20 (by omega) (⟨by rw [if_pos (by omega)], rfl⟩)
set_option maxRecDepth 4000 in
theorem cP_hasLanding (X : XT) {S : Sg} {p : Nat} (hp : kd p = 2) (hok : planOk S p) {x : Int} (hx : -2147483648 ≤ x ∧ x ≤ 2147483647) : Ctr X 1 yP_hasLanding bP_hasLanding 2 (some .boolean) [.ref p, .int (iI (x))] (mk S) (PI (fun r S' => r = (if 0 ≤ x ∧ x ≤ S.1 (p + 1) 1 then 1 else 0) ∧ S' = S)) 0 0 := by
  refine Ctr.ofS (by decide) rfl (Nat.le_of_ble_eq_true rfl) (fun F h hF hE => ?_)
  obtain ⟨k1, k3, k5, k7, k9, k11, l2, l4, l6, l8, l10, l12⟩ := plan_ok hp
  obtain ⟨o1, o2, o3, o4, o5, o6, o7⟩ := id hok
  refine go_iload_n (pc' := 1) h ⟨dP_hasLanding_0, rfl⟩ rfl ?_
  refine gi_if_lt (tgt := 19) (pc' := 4) h dP_hasLanding_1 rfl rfl (by omega) (fun c1 => ?_) (fun c1 => ?_)
  · refine gi_iconst (pc' := 20) h ⟨dP_hasLanding_19, rfl⟩ ?_
    exact gs_zret h hE dP_hasLanding_20 (by omega) (⟨by rw [if_neg (by omega)], rfl⟩)
  · refine go_iload_n (pc' := 5) h ⟨dP_hasLanding_4, rfl⟩ rfl ?_
    refine go_aload_n (pc' := 6) h ⟨dP_hasLanding_5, rfl⟩ rfl ?_
    refine gs_get (v := .ref (p + 1)) (pc' := 9) h ⟨dP_hasLanding_6, rfl⟩ fgP_14 hp (by decide) (rfl) ?_
    refine gd_callVI (e := S.1 (p + 1) 1) (E := S) (pc' := 12) (As := []) (st := [.int (iI (x))]) h hF ⟨dP_hasLanding_9, rfl⟩ kvP_54 (cR_size X k1) (by omega) k1 (by decide) ⟨_, _, rfl⟩ rfl (Nat.le_of_ble_eq_true rfl) rfl ?_
    refine gi_icmp_gt (tgt := 19) (pc' := 15) h dP_hasLanding_12 rfl rfl (by omega) (fun c12 => ?_) (fun c12 => ?_)
    · refine gi_iconst (pc' := 20) h ⟨dP_hasLanding_19, rfl⟩ ?_
      exact gs_zret h hE dP_hasLanding_20 (by omega) (⟨by rw [if_neg (by omega)], rfl⟩)
    · refine gi_iconst (pc' := 16) h ⟨dP_hasLanding_15, rfl⟩ ?_
      refine gi_goto (tgt := 20) h dP_hasLanding_16 rfl ?_
      exact gs_zret h hE dP_hasLanding_20 (by omega) (⟨by rw [if_pos (by omega)], rfl⟩)
set_option maxRecDepth 4000 in
theorem cP_top (X : XT) {S : Sg} {p : Nat} (hp : kd p = 2) : Ctr X 1 yP_topMark bP_topMark 1 (some .int) [.ref p] (mk S) (PI (fun r S' => r = S.1 (p + 9) 1 ∧ S' = S)) 0 0 := by
  refine Ctr.ofS (by decide) rfl (Nat.le_of_ble_eq_true rfl) (fun F h hF hE => ?_)
  obtain ⟨k1, k3, k5, k7, k9, k11, l2, l4, l6, l8, l10, l12⟩ := plan_ok hp
  refine go_aload_n (pc' := 1) h ⟨dP_topMark_0, rfl⟩ rfl ?_
  refine gs_get (v := .ref (p + 9)) (pc' := 4) h ⟨dP_topMark_1, rfl⟩ fgP_29 hp (by decide) (rfl) ?_
  refine gd_callVI (e := S.1 (p + 9) 1) (E := S) (pc' := 7) (As := []) (st := []) h hF ⟨dP_topMark_4, rfl⟩ kvP_54 (cR_size X k9) (by omega) k9 (by decide) ⟨_, _, rfl⟩ rfl (Nat.le_of_ble_eq_true rfl) rfl ?_
  exact gs_iret h hE dP_topMark_7 (⟨rfl, rfl⟩)
set_option maxRecDepth 4000 in
theorem cP_mark (X : XT) {S : Sg} {p : Nat} (hp : kd p = 2) {x : Int} (hx : -1000 ≤ x ∧ x ≤ 1000) : Ctr X 1 yP_landingMark bP_landingMark 2 (some .int) [.ref p, .int (iI (x))] (mk S) (PI (fun r S' => r = atV (S.1 (p + 8)) 5 (x - 1) ∧ S' = S)) 0 0 := by
  refine Ctr.ofS (by decide) rfl (Nat.le_of_ble_eq_true rfl) (fun F h hF hE => ?_)
  obtain ⟨k1, k3, k5, k7, k9, k11, l2, l4, l6, l8, l10, l12⟩ := plan_ok hp
  refine go_aload_n (pc' := 1) h ⟨dP_landingMark_0, rfl⟩ rfl ?_
  refine gs_get (v := .ref (p + 7)) (pc' := 4) h ⟨dP_landingMark_1, rfl⟩ fgP_26 hp (by decide) (rfl) ?_
  refine go_iload_n (pc' := 5) h ⟨dP_landingMark_4, rfl⟩ rfl ?_
  refine gi_iconst (pc' := 6) h ⟨dP_landingMark_5, rfl⟩ ?_
  refine gi_isub (pc' := 7) h ⟨dP_landingMark_6, rfl⟩ ?_
  refine gd_callVI (e := atV (S.1 (p + 8)) 5 (x - 1)) (E := S) (pc' := 10) (As := [.int (iI (x - 1))]) (st := []) h hF ⟨dP_landingMark_7, rfl⟩ kvP_58 (cR_atn X (n := 5) k7 l8 (by omega)) (by omega) k7 (by decide) ⟨_, _, rfl⟩ rfl (Nat.le_of_ble_eq_true rfl) rfl ?_
  exact gs_iret h hE dP_landingMark_10 (⟨rfl, rfl⟩)
set_option maxRecDepth 4000 in
theorem cP_alt (X : XT) {S : Sg} {p : Nat} (hp : kd p = 2) (hok : planOk S p) {x : Int} (hx : 0 ≤ x ∧ x ≤ 1000000) : Ctr X 1 yP_altitudeOf bP_altitudeOf 5 (some .int) [.ref p, .int (iI (x))] (mk S) (PI (fun r S' => r = sumI (fun m => max 0 (min 1000 (x - 1000 * m)) * S.1 (p + 10) m) (S.1 (p + 9) 1) ∧ S' = S)) 0 0 := by
  refine Ctr.ofS (by decide) rfl (Nat.le_of_ble_eq_true rfl) (fun F h hF hE => ?_)
  obtain ⟨k1, k3, k5, k7, k9, k11, l2, l4, l6, l8, l10, l12⟩ := plan_ok hp
  obtain ⟨o1, o2, o3, o4, o5, o6, o7⟩ := id hok
  have loop : ∀ (n : Nat) (j : Int), 101 < j + n → 0 ≤ j → j ≤ S.1 (p + 9) 1 → Go F 5 (mk S) 0 0 4 [.ref p, .int (iI x), .int (iI (sumI (fun m => max 0 (min 1000 (x - 1000 * m)) * S.1 (p + 10) m) j)), .int (iI j)] [] := by
    intro n
    induction n with
    | zero => intro j g4 g5 g6; exfalso; omega
    | succ n ih =>
      intro j g4 g5 g6
      refine go_iload_n (pc' := 5) h ⟨dP_altitudeOf_4, rfl⟩ rfl ?_
      refine go_aload_n (pc' := 6) h ⟨dP_altitudeOf_5, rfl⟩ rfl ?_
      refine gs_get (v := .ref (p + 9)) (pc' := 9) h ⟨dP_altitudeOf_6, rfl⟩ fgP_29 hp (by decide) (rfl) ?_
      refine gd_callVI (e := S.1 (p + 9) 1) (E := S) (pc' := 12) (As := []) (st := [.int (iI (j))]) h hF ⟨dP_altitudeOf_9, rfl⟩ kvP_54 (cR_size X k9) (by omega) k9 (by decide) ⟨_, _, rfl⟩ rfl (Nat.le_of_ble_eq_true rfl) rfl ?_
      refine gi_icmp_ge (tgt := 54) (pc' := 15) h dP_altitudeOf_12 rfl rfl (by omega) (fun c12 => ?_) (fun c12 => ?_)
      · refine go_iload_n (pc' := 55) h ⟨dP_altitudeOf_54, rfl⟩ rfl ?_
        exact gs_iret h hE dP_altitudeOf_55 (⟨by rw [show j = S.1 (p + 9) 1 by omega], rfl⟩)
      · refine gi_iconst (pc' := 16) h ⟨dP_altitudeOf_15, rfl⟩ ?_
        refine gi_sipush (pc' := 19) h ⟨dP_altitudeOf_16, rfl⟩ rfl ?_
        refine go_iload_n (pc' := 20) h ⟨dP_altitudeOf_19, rfl⟩ rfl ?_
        refine gi_sipush (pc' := 23) h ⟨dP_altitudeOf_20, rfl⟩ rfl ?_
        refine go_iload_n (pc' := 24) h ⟨dP_altitudeOf_23, rfl⟩ rfl ?_
        refine gi_imul (pc' := 25) h ⟨dP_altitudeOf_24, rfl⟩ ?_
        refine gi_isub (pc' := 26) h ⟨dP_altitudeOf_25, rfl⟩ ?_
        refine gd_callSI (e := min 1000 (x - (1000 * j))) (E := S) (pc' := 29) (As := [.int (iI (1000)), .int (iI (x - (1000 * j)))]) (st := [.int (iI (0))]) h hF ⟨dP_altitudeOf_26, rfl⟩ kvP_62 (cK_min X (by omega)) (by omega) rfl (Nat.le_of_ble_eq_true rfl) rfl ?_
        refine gd_callSI (e := max 0 (min 1000 (x - (1000 * j)))) (E := S) (pc' := 32) (As := [.int (iI (0)), .int (iI (min 1000 (x - (1000 * j))))]) (st := []) h hF ⟨dP_altitudeOf_29, rfl⟩ kvP_48 (cK_max X (by omega)) (by omega) rfl (Nat.le_of_ble_eq_true rfl) rfl ?_
        refine go_istore (L' := [.ref p, .int (iI (x)), .int (iI (sumI (fun m => max 0 (min 1000 (x - 1000 * m)) * S.1 (p + 10) m) j)), .int (iI (j)), .int (iI (max 0 (min 1000 (x - (1000 * j)))))]) (pc' := 34) h ⟨dP_altitudeOf_32, rfl⟩ (by decide) rfl rfl ?_
        refine go_iload_n (pc' := 35) h ⟨dP_altitudeOf_34, rfl⟩ rfl ?_
        refine go_iload (pc' := 37) h ⟨dP_altitudeOf_35, rfl⟩ rfl ?_
        refine go_aload_n (pc' := 38) h ⟨dP_altitudeOf_37, rfl⟩ rfl ?_
        refine gs_get (v := .ref (p + 9)) (pc' := 41) h ⟨dP_altitudeOf_38, rfl⟩ fgP_29 hp (by decide) (rfl) ?_
        refine go_iload_n (pc' := 42) h ⟨dP_altitudeOf_41, rfl⟩ rfl ?_
        refine gd_callVI (e := S.1 (p + 10) j) (E := S) (pc' := 45) (As := [.int (iI (j))]) (st := [.int (iI (max 0 (min 1000 (x - (1000 * j))))), .int (iI (sumI (fun m => max 0 (min 1000 (x - 1000 * m)) * S.1 (p + 10) m) j))]) h hF ⟨dP_altitudeOf_42, rfl⟩ kvP_58 (cR_ati X (n := 100) k9 l10 (by omega)) (by omega) k9 (by decide) ⟨_, _, rfl⟩ rfl (Nat.le_of_ble_eq_true rfl) rfl ?_
        refine gi_imul (pc' := 46) h ⟨dP_altitudeOf_45, rfl⟩ ?_
        refine gi_iadd (pc' := 47) h ⟨dP_altitudeOf_46, rfl⟩ ?_
        refine go_istore_n (L' := [.ref p, .int (iI (x)), .int (iI ((sumI (fun m => max 0 (min 1000 (x - 1000 * m)) * S.1 (p + 10) m) j) + ((max 0 (min 1000 (x - (1000 * j)))) * (S.1 (p + 10) j)))), .int (iI (j)), .int (iI (max 0 (min 1000 (x - (1000 * j)))))]) (pc' := 48) h ⟨dP_altitudeOf_47, rfl⟩ (by decide) rfl rfl ?_
        refine gi_iinc (L' := [.ref p, .int (iI (x)), .int (iI ((sumI (fun m => max 0 (min 1000 (x - 1000 * m)) * S.1 (p + 10) m) j) + ((max 0 (min 1000 (x - (1000 * j)))) * (S.1 (p + 10) j)))), .int (iI (j + 1)), .int (iI (max 0 (min 1000 (x - (1000 * j)))))]) (pc' := 51) h ⟨dP_altitudeOf_48, rfl⟩ rfl (by decide) rfl rfl ?_
        refine gi_goto (tgt := 4) h dP_altitudeOf_51 rfl ?_
        refine Go.cut [.ref p, .int (iI x), .int (iI (sumI (fun m => max 0 (min 1000 (x - 1000 * m)) * S.1 (p + 10) m) j + max 0 (min 1000 (x - 1000 * j)) * S.1 (p + 10) j)), .int (iI (j + 1))] 4 rfl ?_
        have g7 := ih (j + 1) (by omega) (by omega) (by omega)
        rw [sumI_s _ g5] at g7
        exact g7
  refine gi_iconst (pc' := 1) h ⟨dP_altitudeOf_0, rfl⟩ ?_
  refine go_istore_n (L' := [.ref p, .int (iI (x)), .int (iI (0))]) (pc' := 2) h ⟨dP_altitudeOf_1, rfl⟩ (by decide) rfl rfl ?_
  refine gi_iconst (pc' := 3) h ⟨dP_altitudeOf_2, rfl⟩ ?_
  refine go_istore_n (L' := [.ref p, .int (iI (x)), .int (iI (0)), .int (iI (0))]) (pc' := 4) h ⟨dP_altitudeOf_3, rfl⟩ (by decide) rfl rfl ?_
  exact loop 102 0 (by omega) (by omega) (by omega)
set_option maxRecDepth 4000 in
theorem cP_climb (X : XT) {S : Sg} {p : Nat} (hp : kd p = 2) (hok : planOk S p) {x : Int} (hx : -2147483648 ≤ x ∧ x ≤ 2147483647) : Ctr X 1 yP_climbersAbove bP_climbersAbove 4 (some .int) [.ref p, .int (iI (x))] (mk S) (PI (fun r S' => r = sumI (fun t => if x < S.1 (p + 12) t then 1 else 0) (S.1 (p + 11) 1) ∧ S' = S)) 0 0 := by
  refine Ctr.ofS (by decide) rfl (Nat.le_of_ble_eq_true rfl) (fun F h hF hE => ?_)
  obtain ⟨k1, k3, k5, k7, k9, k11, l2, l4, l6, l8, l10, l12⟩ := plan_ok hp
  obtain ⟨o1, o2, o3, o4, o5, o6, o7⟩ := id hok
  have loop : ∀ (n : Nat) (j : Int), 5 < j + n → 0 ≤ j → j ≤ S.1 (p + 11) 1 → Go F 4 (mk S) 0 0 4 [.ref p, .int (iI x), .int (iI (sumI (fun t => if x < S.1 (p + 12) t then 1 else 0) j)), .int (iI j)] [] := by
    intro n
    induction n with
    | zero => intro j g4 g5 g6; exfalso; omega
    | succ n ih =>
      intro j g4 g5 g6
      have g7 := sumI_s (fun t => if x < S.1 (p + 12) t then 1 else 0) g5
      refine go_iload_n (pc' := 5) h ⟨dP_climbersAbove_4, rfl⟩ rfl ?_
      refine go_aload_n (pc' := 6) h ⟨dP_climbersAbove_5, rfl⟩ rfl ?_
      refine gs_get (v := .ref (p + 11)) (pc' := 9) h ⟨dP_climbersAbove_6, rfl⟩ fgP_32 hp (by decide) (rfl) ?_
      refine gd_callVI (e := S.1 (p + 11) 1) (E := S) (pc' := 12) (As := []) (st := [.int (iI (j))]) h hF ⟨dP_climbersAbove_9, rfl⟩ kvP_54 (cR_size X k11) (by omega) k11 (by decide) ⟨_, _, rfl⟩ rfl (Nat.le_of_ble_eq_true rfl) rfl ?_
      refine gi_icmp_ge (tgt := 36) (pc' := 15) h dP_climbersAbove_12 rfl rfl (by omega) (fun c12 => ?_) (fun c12 => ?_)
      · refine go_iload_n (pc' := 37) h ⟨dP_climbersAbove_36, rfl⟩ rfl ?_
        exact gs_iret h hE dP_climbersAbove_37 (⟨by rw [show j = S.1 (p + 11) 1 by omega], rfl⟩)
      · refine go_aload_n (pc' := 16) h ⟨dP_climbersAbove_15, rfl⟩ rfl ?_
        refine gs_get (v := .ref (p + 11)) (pc' := 19) h ⟨dP_climbersAbove_16, rfl⟩ fgP_32 hp (by decide) (rfl) ?_
        refine go_iload_n (pc' := 20) h ⟨dP_climbersAbove_19, rfl⟩ rfl ?_
        refine gd_callVI (e := S.1 (p + 12) j) (E := S) (pc' := 23) (As := [.int (iI (j))]) (st := []) h hF ⟨dP_climbersAbove_20, rfl⟩ kvP_58 (cR_ati X (n := 4) k11 l12 (by omega)) (by omega) k11 (by decide) ⟨_, _, rfl⟩ rfl (Nat.le_of_ble_eq_true rfl) rfl ?_
        have g8 := o6 j (by omega) (by omega)
        refine go_iload_n (pc' := 24) h ⟨dP_climbersAbove_23, rfl⟩ rfl ?_
        refine gi_icmp_le (tgt := 30) (pc' := 27) h dP_climbersAbove_24 rfl rfl (by omega) (fun c24 => ?_) (fun c24 => ?_)
        · refine gi_iinc (L' := [.ref p, .int (iI (x)), .int (iI (sumI (fun t => if x < S.1 (p + 12) t then 1 else 0) j)), .int (iI (j + 1))]) (pc' := 33) h ⟨dP_climbersAbove_30, rfl⟩ rfl (by decide) rfl rfl ?_
          refine gi_goto (tgt := 4) h dP_climbersAbove_33 rfl ?_
          have g10 := ih (j + 1) (by omega) (by omega) (by omega)
          rw [g7, if_neg (by omega), Int.add_zero] at g10
          exact g10
        · refine gi_iinc (L' := [.ref p, .int (iI (x)), .int (iI (sumI (fun t => if x < S.1 (p + 12) t then 1 else 0) j + 1)), .int (iI (j))]) (pc' := 30) h ⟨dP_climbersAbove_27, rfl⟩ rfl (by decide) rfl rfl ?_
          refine gi_iinc (L' := [.ref p, .int (iI (x)), .int (iI (sumI (fun t => if x < S.1 (p + 12) t then 1 else 0) j + 1)), .int (iI (j + 1))]) (pc' := 33) h ⟨dP_climbersAbove_30, rfl⟩ rfl (by decide) rfl rfl ?_
          refine gi_goto (tgt := 4) h dP_climbersAbove_33 rfl ?_
          have g10 := ih (j + 1) (by omega) (by omega) (by omega)
          rw [g7, if_pos (by omega)] at g10
          exact g10
  refine gi_iconst (pc' := 1) h ⟨dP_climbersAbove_0, rfl⟩ ?_
  refine go_istore_n (L' := [.ref p, .int (iI (x)), .int (iI (0))]) (pc' := 2) h ⟨dP_climbersAbove_1, rfl⟩ (by decide) rfl rfl ?_
  refine gi_iconst (pc' := 3) h ⟨dP_climbersAbove_2, rfl⟩ ?_
  refine go_istore_n (L' := [.ref p, .int (iI (x)), .int (iI (0)), .int (iI (0))]) (pc' := 4) h ⟨dP_climbersAbove_3, rfl⟩ (by decide) rfl rfl ?_
  exact loop 6 0 (by omega) (by omega) (by omega)
set_option maxRecDepth 4000 in
theorem cP_rank (X : XT) {S : Sg} {p : Nat} (hp : kd p = 2) (hok : planOk S p) {t : Int} (ht : 0 ≤ t ∧ t < S.1 (p + 11) 1) : Ctr X 1 yP_rankOf bP_rankOf 4 (some .int) [.ref p, .int (iI (t))] (mk S) (PI (fun r S' => r = sumI (fun u => if S.1 (p + 12) t < S.1 (p + 12) u ∨ (S.1 (p + 12) u = S.1 (p + 12) t ∧ u < t) then 1 else 0) (S.1 (p + 11) 1) ∧ S' = S)) 0 0 := by
  refine Ctr.ofS (by decide) rfl (Nat.le_of_ble_eq_true rfl) (fun F h hF hE => ?_)
  obtain ⟨k1, k3, k5, k7, k9, k11, l2, l4, l6, l8, l10, l12⟩ := plan_ok hp
  obtain ⟨o1, o2, o3, o4, o5, o6, o7⟩ := id hok
  have g9 := o6 t (by omega) (by omega)
  have loop : ∀ (n : Nat) (j : Int), 5 < j + n → 0 ≤ j → j ≤ S.1 (p + 11) 1 → Go F 4 (mk S) 0 0 4 [.ref p, .int (iI t), .int (iI (sumI (fun u => if S.1 (p + 12) t < S.1 (p + 12) u ∨ (S.1 (p + 12) u = S.1 (p + 12) t ∧ u < t) then 1 else 0) j)), .int (iI j)] [] := by
    intro n
    induction n with
    | zero => intro j g4 g5 g6; exfalso; omega
    | succ n ih =>
      intro j g4 g5 g6
      have g7 := sumI_s (fun u => if S.1 (p + 12) t < S.1 (p + 12) u ∨ (S.1 (p + 12) u = S.1 (p + 12) t ∧ u < t) then 1 else 0) g5
      refine go_iload_n (pc' := 5) h ⟨dP_rankOf_4, rfl⟩ rfl ?_
      refine go_aload_n (pc' := 6) h ⟨dP_rankOf_5, rfl⟩ rfl ?_
      refine gs_get (v := .ref (p + 11)) (pc' := 9) h ⟨dP_rankOf_6, rfl⟩ fgP_32 hp (by decide) (rfl) ?_
      refine gd_callVI (e := S.1 (p + 11) 1) (E := S) (pc' := 12) (As := []) (st := [.int (iI (j))]) h hF ⟨dP_rankOf_9, rfl⟩ kvP_54 (cR_size X k11) (by omega) k11 (by decide) ⟨_, _, rfl⟩ rfl (Nat.le_of_ble_eq_true rfl) rfl ?_
      refine gi_icmp_ge (tgt := 67) (pc' := 15) h dP_rankOf_12 rfl rfl (by omega) (fun c12 => ?_) (fun c12 => ?_)
      · refine go_iload_n (pc' := 68) h ⟨dP_rankOf_67, rfl⟩ rfl ?_
        exact gs_iret h hE dP_rankOf_68 (⟨by rw [show j = S.1 (p + 11) 1 by omega], rfl⟩)
      · refine go_aload_n (pc' := 16) h ⟨dP_rankOf_15, rfl⟩ rfl ?_
        refine gs_get (v := .ref (p + 11)) (pc' := 19) h ⟨dP_rankOf_16, rfl⟩ fgP_32 hp (by decide) (rfl) ?_
        refine go_iload_n (pc' := 20) h ⟨dP_rankOf_19, rfl⟩ rfl ?_
        refine gd_callVI (e := S.1 (p + 12) j) (E := S) (pc' := 23) (As := [.int (iI (j))]) (st := []) h hF ⟨dP_rankOf_20, rfl⟩ kvP_58 (cR_ati X (n := 4) k11 l12 (by omega)) (by omega) k11 (by decide) ⟨_, _, rfl⟩ rfl (Nat.le_of_ble_eq_true rfl) rfl ?_
        have g8 := o6 j (by omega) (by omega)
        refine go_aload_n (pc' := 24) h ⟨dP_rankOf_23, rfl⟩ rfl ?_
        refine gs_get (v := .ref (p + 11)) (pc' := 27) h ⟨dP_rankOf_24, rfl⟩ fgP_32 hp (by decide) (rfl) ?_
        refine go_iload_n (pc' := 28) h ⟨dP_rankOf_27, rfl⟩ rfl ?_
        refine gd_callVI (e := S.1 (p + 12) t) (E := S) (pc' := 31) (As := [.int (iI (t))]) (st := [.int (iI (S.1 (p + 12) j))]) h hF ⟨dP_rankOf_28, rfl⟩ kvP_58 (cR_ati X (n := 4) k11 l12 (by omega)) (by omega) k11 (by decide) ⟨_, _, rfl⟩ rfl (Nat.le_of_ble_eq_true rfl) rfl ?_
        refine gi_icmp_gt (tgt := 58) (pc' := 34) h dP_rankOf_31 rfl rfl (by omega) (fun c31 => ?_) (fun c31 => ?_)
        · refine gi_iinc (L' := [.ref p, .int (iI (t)), .int (iI (sumI (fun u => if S.1 (p + 12) t < S.1 (p + 12) u ∨ (S.1 (p + 12) u = S.1 (p + 12) t ∧ u < t) then 1 else 0) j + 1)), .int (iI (j))]) (pc' := 61) h ⟨dP_rankOf_58, rfl⟩ rfl (by decide) rfl rfl ?_
          refine gi_iinc (L' := [.ref p, .int (iI (t)), .int (iI (sumI (fun u => if S.1 (p + 12) t < S.1 (p + 12) u ∨ (S.1 (p + 12) u = S.1 (p + 12) t ∧ u < t) then 1 else 0) j + 1)), .int (iI (j + 1))]) (pc' := 64) h ⟨dP_rankOf_61, rfl⟩ rfl (by decide) rfl rfl ?_
          refine gi_goto (tgt := 4) h dP_rankOf_64 rfl ?_
          have g10 := ih (j + 1) (by omega) (by omega) (by omega)
          rw [g7, if_pos (by omega)] at g10
          exact g10
        · refine go_aload_n (pc' := 35) h ⟨dP_rankOf_34, rfl⟩ rfl ?_
          refine gs_get (v := .ref (p + 11)) (pc' := 38) h ⟨dP_rankOf_35, rfl⟩ fgP_32 hp (by decide) (rfl) ?_
          refine go_iload_n (pc' := 39) h ⟨dP_rankOf_38, rfl⟩ rfl ?_
          refine gd_callVI (e := S.1 (p + 12) j) (E := S) (pc' := 42) (As := [.int (iI (j))]) (st := []) h hF ⟨dP_rankOf_39, rfl⟩ kvP_58 (cR_ati X (n := 4) k11 l12 (by omega)) (by omega) k11 (by decide) ⟨_, _, rfl⟩ rfl (Nat.le_of_ble_eq_true rfl) rfl ?_
          refine go_aload_n (pc' := 43) h ⟨dP_rankOf_42, rfl⟩ rfl ?_
          refine gs_get (v := .ref (p + 11)) (pc' := 46) h ⟨dP_rankOf_43, rfl⟩ fgP_32 hp (by decide) (rfl) ?_
          refine go_iload_n (pc' := 47) h ⟨dP_rankOf_46, rfl⟩ rfl ?_
          refine gd_callVI (e := S.1 (p + 12) t) (E := S) (pc' := 50) (As := [.int (iI (t))]) (st := [.int (iI (S.1 (p + 12) j))]) h hF ⟨dP_rankOf_47, rfl⟩ kvP_58 (cR_ati X (n := 4) k11 l12 (by omega)) (by omega) k11 (by decide) ⟨_, _, rfl⟩ rfl (Nat.le_of_ble_eq_true rfl) rfl ?_
          refine gi_icmp_ne (tgt := 61) (pc' := 53) h dP_rankOf_50 rfl rfl (by omega) (fun c50 => ?_) (fun c50 => ?_)
          · refine gi_iinc (L' := [.ref p, .int (iI (t)), .int (iI (sumI (fun u => if S.1 (p + 12) t < S.1 (p + 12) u ∨ (S.1 (p + 12) u = S.1 (p + 12) t ∧ u < t) then 1 else 0) j)), .int (iI (j + 1))]) (pc' := 64) h ⟨dP_rankOf_61, rfl⟩ rfl (by decide) rfl rfl ?_
            refine gi_goto (tgt := 4) h dP_rankOf_64 rfl ?_
            have g10 := ih (j + 1) (by omega) (by omega) (by omega)
            rw [g7, if_neg (by omega), Int.add_zero] at g10
            exact g10
          · refine go_iload_n (pc' := 54) h ⟨dP_rankOf_53, rfl⟩ rfl ?_
            refine go_iload_n (pc' := 55) h ⟨dP_rankOf_54, rfl⟩ rfl ?_
            refine gi_icmp_ge (tgt := 61) (pc' := 58) h dP_rankOf_55 rfl rfl (by omega) (fun c55 => ?_) (fun c55 => ?_)
            · refine gi_iinc (L' := [.ref p, .int (iI (t)), .int (iI (sumI (fun u => if S.1 (p + 12) t < S.1 (p + 12) u ∨ (S.1 (p + 12) u = S.1 (p + 12) t ∧ u < t) then 1 else 0) j)), .int (iI (j + 1))]) (pc' := 64) h ⟨dP_rankOf_61, rfl⟩ rfl (by decide) rfl rfl ?_
              refine gi_goto (tgt := 4) h dP_rankOf_64 rfl ?_
              have g10 := ih (j + 1) (by omega) (by omega) (by omega)
              rw [g7, if_neg (by omega), Int.add_zero] at g10
              exact g10
            · refine gi_iinc (L' := [.ref p, .int (iI (t)), .int (iI (sumI (fun u => if S.1 (p + 12) t < S.1 (p + 12) u ∨ (S.1 (p + 12) u = S.1 (p + 12) t ∧ u < t) then 1 else 0) j + 1)), .int (iI (j))]) (pc' := 61) h ⟨dP_rankOf_58, rfl⟩ rfl (by decide) rfl rfl ?_
              refine gi_iinc (L' := [.ref p, .int (iI (t)), .int (iI (sumI (fun u => if S.1 (p + 12) t < S.1 (p + 12) u ∨ (S.1 (p + 12) u = S.1 (p + 12) t ∧ u < t) then 1 else 0) j + 1)), .int (iI (j + 1))]) (pc' := 64) h ⟨dP_rankOf_61, rfl⟩ rfl (by decide) rfl rfl ?_
              refine gi_goto (tgt := 4) h dP_rankOf_64 rfl ?_
              have g10 := ih (j + 1) (by omega) (by omega) (by omega)
              rw [g7, if_pos (by omega)] at g10
              exact g10
  refine gi_iconst (pc' := 1) h ⟨dP_rankOf_0, rfl⟩ ?_
  refine go_istore_n (L' := [.ref p, .int (iI (t)), .int (iI (0))]) (pc' := 2) h ⟨dP_rankOf_1, rfl⟩ (by decide) rfl rfl ?_
  refine gi_iconst (pc' := 3) h ⟨dP_rankOf_2, rfl⟩ ?_
  refine go_istore_n (L' := [.ref p, .int (iI (t)), .int (iI (0)), .int (iI (0))]) (pc' := 4) h ⟨dP_rankOf_3, rfl⟩ (by decide) rfl rfl ?_
  exact loop 6 0 (by omega) (by omega) (by omega)
theorem dvU_bd {a q : Int} (ha : 0 ≤ a) (hq : 1 ≤ q) : 0 ≤ dvU a q ∧ dvU a q ≤ a := by
  unfold dvU
  rw [if_neg (by omega)]
  have h1 := Int.ediv_nonneg (a := a + q - 1) (b := q) (by omega) (by omega)
  refine ⟨h1, ?_⟩
  by_cases h0 : a = 0
  · rw [h0, show (0 : Int) + q - 1 = q - 1 by omega, Int.ediv_eq_zero_of_lt (by omega) (by omega)]; omega
  · have : (a + q - 1) / q < a + 1 := Int.ediv_lt_of_lt_mul (by omega) (by
      have := Int.mul_le_mul_of_nonneg_left (show (1 : Int) ≤ q from hq) (show 0 ≤ a from ha)
      have h3 := Int.mul_comm a q
      have : (a + 1) * q = a * q + q := by rw [Int.add_mul, Int.one_mul]
      omega)
    omega
set_option maxRecDepth 4000 in
theorem cP_days (X : XT) {S : Sg} {p : Nat} (hp : kd p = 2) (hok : planOk S p) {b : Int} (hb : 2 ≤ b ∧ b ≤ 9) : Ctr X 1 yP_daysWith bP_daysWith 4 (some .int) [.ref p, .int (iI (b))] (mk S) (PI (fun r S' => r = dvU (sumI (fun s => dvU (S.1 (p + 2) s) (S.1 p 6)) (S.1 (p + 1) 1)) (b - 1) ∧ S' = S)) 0 0 := by
  refine Ctr.ofS (by decide) rfl (Nat.le_of_ble_eq_true rfl) (fun F h hF hE => ?_)
  obtain ⟨k1, k3, k5, k7, k9, k11, l2, l4, l6, l8, l10, l12⟩ := plan_ok hp
  obtain ⟨o1, o2, o3, o4, o5, o6, o7⟩ := id hok
  have loop : ∀ (n : Nat) (j : Int), 6 < j + n → 0 ≤ j → j ≤ S.1 (p + 1) 1 → 0 ≤ sumI (fun s => dvU (S.1 (p + 2) s) (S.1 p 6)) j ∧ sumI (fun s => dvU (S.1 (p + 2) s) (S.1 p 6)) j ≤ 20 * j → Go F 4 (mk S) 0 0 4 [.ref p, .int (iI b), .int (iI (sumI (fun s => dvU (S.1 (p + 2) s) (S.1 p 6)) j)), .int (iI j)] [] := by
    intro n
    induction n with
    | zero => intro j g4 g5 g6; exfalso; omega
    | succ n ih =>
      intro j g4 g5 g6 g7
      refine go_iload_n (pc' := 5) h ⟨dP_daysWith_4, rfl⟩ rfl ?_
      refine go_aload_n (pc' := 6) h ⟨dP_daysWith_5, rfl⟩ rfl ?_
      refine gs_get (v := .ref (p + 1)) (pc' := 9) h ⟨dP_daysWith_6, rfl⟩ fgP_14 hp (by decide) (rfl) ?_
      refine gd_callVI (e := S.1 (p + 1) 1) (E := S) (pc' := 12) (As := []) (st := [.int (iI (j))]) h hF ⟨dP_daysWith_9, rfl⟩ kvP_54 (cR_size X k1) (by omega) k1 (by decide) ⟨_, _, rfl⟩ rfl (Nat.le_of_ble_eq_true rfl) rfl ?_
      refine gi_icmp_ge (tgt := 39) (pc' := 15) h dP_daysWith_12 rfl rfl (by omega) (fun c12 => ?_) (fun c12 => ?_)
      · refine go_iload_n (pc' := 40) h ⟨dP_daysWith_39, rfl⟩ rfl ?_
        refine go_iload_n (pc' := 41) h ⟨dP_daysWith_40, rfl⟩ rfl ?_
        refine gi_iconst (pc' := 42) h ⟨dP_daysWith_41, rfl⟩ ?_
        refine gi_isub (pc' := 43) h ⟨dP_daysWith_42, rfl⟩ ?_
        refine gd_callSNI (e := dvU (sumI (fun s => dvU (S.1 (p + 2) s) (S.1 p 6)) j) (b - 1)) (E := S) (pc' := 46) (As := [.int (iI (sumI (fun s => dvU (S.1 (p + 2) s) (S.1 p 6)) j)), .int (iI (b - 1))]) (st := []) h hF ⟨dP_daysWith_43, rfl⟩ kvP_65 (cX_divideUp X (by omega) (by omega)) (by omega) rfl (Nat.le_of_ble_eq_true rfl) rfl ?_
        exact gs_iret h hE dP_daysWith_46 (⟨by rw [show j = S.1 (p + 1) 1 by omega], rfl⟩)
      · refine go_iload_n (pc' := 16) h ⟨dP_daysWith_15, rfl⟩ rfl ?_
        refine go_aload_n (pc' := 17) h ⟨dP_daysWith_16, rfl⟩ rfl ?_
        refine gs_get (v := .ref (p + 1)) (pc' := 20) h ⟨dP_daysWith_17, rfl⟩ fgP_14 hp (by decide) (rfl) ?_
        refine go_iload_n (pc' := 21) h ⟨dP_daysWith_20, rfl⟩ rfl ?_
        refine gd_callVI (e := S.1 (p + 2) j) (E := S) (pc' := 24) (As := [.int (iI (j))]) (st := [.int (iI (sumI (fun s => dvU (S.1 (p + 2) s) (S.1 p 6)) j))]) h hF ⟨dP_daysWith_21, rfl⟩ kvP_58 (cR_ati X (n := 5) k1 l2 (by omega)) (by omega) k1 (by decide) ⟨_, _, rfl⟩ rfl (Nat.le_of_ble_eq_true rfl) rfl ?_
        have g8 := o4 j (by omega) (by omega)
        refine go_aload_n (pc' := 25) h ⟨dP_daysWith_24, rfl⟩ rfl ?_
        refine gs_get (v := .int (iI (S.1 p 6))) (pc' := 28) h ⟨dP_daysWith_25, rfl⟩ fgP_35 hp (by decide) (rfl) ?_
        refine gd_callSNI (e := dvU (S.1 (p + 2) j) (S.1 p 6)) (E := S) (pc' := 31) (As := [.int (iI (S.1 (p + 2) j)), .int (iI (S.1 p 6))]) (st := [.int (iI (sumI (fun s => dvU (S.1 (p + 2) s) (S.1 p 6)) j))]) h hF ⟨dP_daysWith_28, rfl⟩ kvP_65 (cX_divideUp X (by omega) (by omega)) (by omega) rfl (Nat.le_of_ble_eq_true rfl) rfl ?_
        refine gi_iadd (pc' := 32) h ⟨dP_daysWith_31, rfl⟩ ?_
        refine go_istore_n (L' := [.ref p, .int (iI (b)), .int (iI ((sumI (fun s => dvU (S.1 (p + 2) s) (S.1 p 6)) j) + (dvU (S.1 (p + 2) j) (S.1 p 6)))), .int (iI (j))]) (pc' := 33) h ⟨dP_daysWith_32, rfl⟩ (by decide) rfl rfl ?_
        refine gi_iinc (L' := [.ref p, .int (iI (b)), .int (iI ((sumI (fun s => dvU (S.1 (p + 2) s) (S.1 p 6)) j) + (dvU (S.1 (p + 2) j) (S.1 p 6)))), .int (iI (j + 1))]) (pc' := 36) h ⟨dP_daysWith_33, rfl⟩ rfl (by decide) rfl rfl ?_
        refine gi_goto (tgt := 4) h dP_daysWith_36 rfl ?_
        have g9 := dvU_bd (a := S.1 (p + 2) j) (q := S.1 p 6) (by omega) (by omega)
        have g11 := sumI_s (fun s => dvU (S.1 (p + 2) s) (S.1 p 6)) g5
        have g10 := ih (j + 1) (by omega) (by omega) (by omega) (by rw [g11]; omega)
        rw [g11] at g10
        exact g10
  refine gi_iconst (pc' := 1) h ⟨dP_daysWith_0, rfl⟩ ?_
  refine go_istore_n (L' := [.ref p, .int (iI (b)), .int (iI (0))]) (pc' := 2) h ⟨dP_daysWith_1, rfl⟩ (by decide) rfl rfl ?_
  refine gi_iconst (pc' := 3) h ⟨dP_daysWith_2, rfl⟩ ?_
  refine go_istore_n (L' := [.ref p, .int (iI (b)), .int (iI (0)), .int (iI (0))]) (pc' := 4) h ⟨dP_daysWith_3, rfl⟩ (by decide) rfl rfl ?_
  exact loop 7 0 (by omega) (by omega) (by omega) (by rw [sumI_0]; omega)
def stF (h : Int → Int) (z : Int) : Nat → Int → Int → Int
  | 0, _, c => c
  | n + 1, m, c => if m < z then stF h z n (m + 1) (if c = -9 ∨ h c < h m then m else c) else c
def fsF (h : Int → Int) (z a : Int) : Nat → Int → Int → Int
  | 0, _, _ => 0
  | n + 1, m, b => if m < z ∧ b < a then (if a ≤ b + 1000 * h m then 1000 * m + dvU (a - b) (h m) else fsF h z a n (m + 1) (b + 1000 * h m)) else if a = 0 then 0 else -9
set_option maxRecDepth 4000 in
theorem cP_steep (X : XT) {S : Sg} {p : Nat} (hp : kd p = 2) (hok : planOk S p) : Ctr X 1 yP_steepest bP_steepest 3 (some .int) [.ref p] (mk S) (PI (fun r S' => r = stF (S.1 (p + 10)) (S.1 (p + 9) 1) 102 0 (-9) ∧ S' = S)) 0 0 := by
  refine Ctr.ofS (by decide) rfl (Nat.le_of_ble_eq_true rfl) (fun F h hF hE => ?_)
  obtain ⟨k1, k3, k5, k7, k9, k11, l2, l4, l6, l8, l10, l12⟩ := plan_ok hp
  obtain ⟨o1, o2, o3, o4, o5, o6, o7⟩ := id hok
  have loop : ∀ (n : Nat) (j c : Int), 101 < j + n → 0 ≤ j → j ≤ S.1 (p + 9) 1 → (c = -9 ∨ (0 ≤ c ∧ c < S.1 (p + 9) 1)) → stF (S.1 (p + 10)) (S.1 (p + 9) 1) 102 0 (-9) = stF (S.1 (p + 10)) (S.1 (p + 9) 1) n j c → Go F 3 (mk S) 0 0 5 [.ref p, .int (iI c), .int (iI j)] [] := by
    intro n
    induction n with
    | zero => intro j c g4 g5 g6; exfalso; omega
    | succ n ih =>
      intro j c g4 g5 g6 g7 g8
      refine go_iload_n (pc' := 6) h ⟨dP_steepest_5, rfl⟩ rfl ?_
      refine go_aload_n (pc' := 7) h ⟨dP_steepest_6, rfl⟩ rfl ?_
      refine gs_get (v := .ref (p + 9)) (pc' := 10) h ⟨dP_steepest_7, rfl⟩ fgP_29 hp (by decide) (rfl) ?_
      refine gd_callVI (e := S.1 (p + 9) 1) (E := S) (pc' := 13) (As := []) (st := [.int (iI (j))]) h hF ⟨dP_steepest_10, rfl⟩ kvP_54 (cR_size X k9) (by omega) k9 (by decide) ⟨_, _, rfl⟩ rfl (Nat.le_of_ble_eq_true rfl) rfl ?_
      refine gi_icmp_ge (tgt := 49) (pc' := 16) h dP_steepest_13 rfl rfl (by omega) (fun c13 => ?_) (fun c13 => ?_)
      · refine go_iload_n (pc' := 50) h ⟨dP_steepest_49, rfl⟩ rfl ?_
        exact gs_iret h hE dP_steepest_50 (⟨by rw [g8, stF, if_neg (by omega)], rfl⟩)
      · refine go_iload_n (pc' := 17) h ⟨dP_steepest_16, rfl⟩ rfl ?_
        refine gi_bipush (pc' := 19) h ⟨dP_steepest_17, rfl⟩ rfl ?_
        refine gi_icmp_eq (tgt := 41) (pc' := 22) h dP_steepest_19 rfl rfl (by omega) (fun c19 => ?_) (fun c19 => ?_)
        · refine go_iload_n (pc' := 42) h ⟨dP_steepest_41, rfl⟩ rfl ?_
          refine go_istore_n (L' := [.ref p, .int (iI (j)), .int (iI (j))]) (pc' := 43) h ⟨dP_steepest_42, rfl⟩ (by decide) rfl rfl ?_
          refine gi_iinc (L' := [.ref p, .int (iI (j)), .int (iI (j + 1))]) (pc' := 46) h ⟨dP_steepest_43, rfl⟩ rfl (by decide) rfl rfl ?_
          refine gi_goto (tgt := 5) h dP_steepest_46 rfl ?_
          exact ih (j + 1) j (by omega) (by omega) (by omega) (by omega) (by rw [g8, stF, if_pos (by omega), if_pos (by omega)])
        · refine go_aload_n (pc' := 23) h ⟨dP_steepest_22, rfl⟩ rfl ?_
          refine gs_get (v := .ref (p + 9)) (pc' := 26) h ⟨dP_steepest_23, rfl⟩ fgP_29 hp (by decide) (rfl) ?_
          refine go_iload_n (pc' := 27) h ⟨dP_steepest_26, rfl⟩ rfl ?_
          refine gd_callVI (e := S.1 (p + 10) j) (E := S) (pc' := 30) (As := [.int (iI (j))]) (st := []) h hF ⟨dP_steepest_27, rfl⟩ kvP_58 (cR_ati X (n := 100) k9 l10 (by omega)) (by omega) k9 (by decide) ⟨_, _, rfl⟩ rfl (Nat.le_of_ble_eq_true rfl) rfl ?_
          have g9 := o5 j (by omega) (by omega)
          refine go_aload_n (pc' := 31) h ⟨dP_steepest_30, rfl⟩ rfl ?_
          refine gs_get (v := .ref (p + 9)) (pc' := 34) h ⟨dP_steepest_31, rfl⟩ fgP_29 hp (by decide) (rfl) ?_
          refine go_iload_n (pc' := 35) h ⟨dP_steepest_34, rfl⟩ rfl ?_
          refine gd_callVI (e := S.1 (p + 10) c) (E := S) (pc' := 38) (As := [.int (iI (c))]) (st := [.int (iI (S.1 (p + 10) j))]) h hF ⟨dP_steepest_35, rfl⟩ kvP_58 (cR_ati X (n := 100) k9 l10 (by omega)) (by omega) k9 (by decide) ⟨_, _, rfl⟩ rfl (Nat.le_of_ble_eq_true rfl) rfl ?_
          have g10 := o5 c (by omega) (by omega)
          refine gi_icmp_le (tgt := 43) (pc' := 41) h dP_steepest_38 rfl rfl (by omega) (fun c38 => ?_) (fun c38 => ?_)
          · refine gi_iinc (L' := [.ref p, .int (iI (c)), .int (iI (j + 1))]) (pc' := 46) h ⟨dP_steepest_43, rfl⟩ rfl (by decide) rfl rfl ?_
            refine gi_goto (tgt := 5) h dP_steepest_46 rfl ?_
            exact ih (j + 1) c (by omega) (by omega) (by omega) (by omega) (by rw [g8, stF, if_pos (by omega), if_neg (by omega)])
          · refine go_iload_n (pc' := 42) h ⟨dP_steepest_41, rfl⟩ rfl ?_
            refine go_istore_n (L' := [.ref p, .int (iI (j)), .int (iI (j))]) (pc' := 43) h ⟨dP_steepest_42, rfl⟩ (by decide) rfl rfl ?_
            refine gi_iinc (L' := [.ref p, .int (iI (j)), .int (iI (j + 1))]) (pc' := 46) h ⟨dP_steepest_43, rfl⟩ rfl (by decide) rfl rfl ?_
            refine gi_goto (tgt := 5) h dP_steepest_46 rfl ?_
            exact ih (j + 1) j (by omega) (by omega) (by omega) (by omega) (by rw [g8, stF, if_pos (by omega), if_pos (by omega)])
  refine gi_bipush (pc' := 2) h ⟨dP_steepest_0, rfl⟩ rfl ?_
  refine go_istore_n (L' := [.ref p, .int (iI (-9))]) (pc' := 3) h ⟨dP_steepest_2, rfl⟩ (by decide) rfl rfl ?_
  refine gi_iconst (pc' := 4) h ⟨dP_steepest_3, rfl⟩ ?_
  refine go_istore_n (L' := [.ref p, .int (iI (-9)), .int (iI (0))]) (pc' := 5) h ⟨dP_steepest_4, rfl⟩ (by decide) rfl rfl ?_
  exact loop 102 0 (-9) (by omega) (by omega) (by omega) (by omega) rfl
set_option maxRecDepth 4000 in
theorem cP_step (X : XT) {S : Sg} {p : Nat} (hp : kd p = 2) (hok : planOk S p) {a : Int} (ha : 0 ≤ a ∧ a ≤ 100000000) : Ctr X 1 yP_firstStepAt bP_firstStepAt 5 (some .int) [.ref p, .int (iI (a))] (mk S) (PI (fun r S' => r = fsF (S.1 (p + 10)) (S.1 (p + 9) 1) a 102 0 0 ∧ S' = S)) 0 0 := by
  refine Ctr.ofS (by decide) rfl (Nat.le_of_ble_eq_true rfl) (fun F h hF hE => ?_)
  obtain ⟨k1, k3, k5, k7, k9, k11, l2, l4, l6, l8, l10, l12⟩ := plan_ok hp
  obtain ⟨o1, o2, o3, o4, o5, o6, o7⟩ := id hok
  have loop : ∀ (n : Nat) (j b : Int), 101 < j + n → 0 ≤ j → j ≤ S.1 (p + 9) 1 → 0 ≤ b ∧ b ≤ 80000 * j → fsF (S.1 (p + 10)) (S.1 (p + 9) 1) a 102 0 0 = fsF (S.1 (p + 10)) (S.1 (p + 9) 1) a n j b → Go F 5 (mk S) 0 0 4 [.ref p, .int (iI a), .int (iI b), .int (iI j)] [] := by
    intro n
    induction n with
    | zero => intro j b g4 g5 g6; exfalso; omega
    | succ n ih =>
      intro j b g4 g5 g6 g7 g8
      refine go_iload_n (pc' := 5) h ⟨dP_firstStepAt_4, rfl⟩ rfl ?_
      refine go_aload_n (pc' := 6) h ⟨dP_firstStepAt_5, rfl⟩ rfl ?_
      refine gs_get (v := .ref (p + 9)) (pc' := 9) h ⟨dP_firstStepAt_6, rfl⟩ fgP_29 hp (by decide) (rfl) ?_
      refine gd_callVI (e := S.1 (p + 9) 1) (E := S) (pc' := 12) (As := []) (st := [.int (iI (j))]) h hF ⟨dP_firstStepAt_9, rfl⟩ kvP_54 (cR_size X k9) (by omega) k9 (by decide) ⟨_, _, rfl⟩ rfl (Nat.le_of_ble_eq_true rfl) rfl ?_
      refine gi_icmp_ge (tgt := 72) (pc' := 15) h dP_firstStepAt_12 rfl rfl (by omega) (fun c12 => ?_) (fun c12 => ?_)
      · refine go_iload_n (pc' := 73) h ⟨dP_firstStepAt_72, rfl⟩ rfl ?_
        refine gi_if_ne (tgt := 80) (pc' := 76) h dP_firstStepAt_73 rfl rfl (by omega) (fun c73 => ?_) (fun c73 => ?_)
        · refine gi_bipush (pc' := 82) h ⟨dP_firstStepAt_80, rfl⟩ rfl ?_
          exact gs_iret h hE dP_firstStepAt_82 (⟨by rw [g8, fsF, if_neg (by omega), if_neg (by omega)], rfl⟩)
        · refine gi_iconst (pc' := 77) h ⟨dP_firstStepAt_76, rfl⟩ ?_
          refine gi_goto (tgt := 82) h dP_firstStepAt_77 rfl ?_
          exact gs_iret h hE dP_firstStepAt_82 (⟨by rw [g8, fsF, if_neg (by omega), if_pos (by omega)], rfl⟩)
      · refine go_iload_n (pc' := 16) h ⟨dP_firstStepAt_15, rfl⟩ rfl ?_
        refine go_iload_n (pc' := 17) h ⟨dP_firstStepAt_16, rfl⟩ rfl ?_
        refine gi_icmp_ge (tgt := 72) (pc' := 20) h dP_firstStepAt_17 rfl rfl (by omega) (fun c17 => ?_) (fun c17 => ?_)
        · refine go_iload_n (pc' := 73) h ⟨dP_firstStepAt_72, rfl⟩ rfl ?_
          refine gi_if_ne (tgt := 80) (pc' := 76) h dP_firstStepAt_73 rfl rfl (by omega) (fun c73 => ?_) (fun c73 => ?_)
          · refine gi_bipush (pc' := 82) h ⟨dP_firstStepAt_80, rfl⟩ rfl ?_
            exact gs_iret h hE dP_firstStepAt_82 (⟨by rw [g8, fsF, if_neg (by omega), if_neg (by omega)], rfl⟩)
          · refine gi_iconst (pc' := 77) h ⟨dP_firstStepAt_76, rfl⟩ ?_
            refine gi_goto (tgt := 82) h dP_firstStepAt_77 rfl ?_
            exact gs_iret h hE dP_firstStepAt_82 (⟨by rw [g8, fsF, if_neg (by omega), if_pos (by omega)], rfl⟩)
        · refine go_iload_n (pc' := 21) h ⟨dP_firstStepAt_20, rfl⟩ rfl ?_
          refine gi_sipush (pc' := 24) h ⟨dP_firstStepAt_21, rfl⟩ rfl ?_
          refine go_aload_n (pc' := 25) h ⟨dP_firstStepAt_24, rfl⟩ rfl ?_
          refine gs_get (v := .ref (p + 9)) (pc' := 28) h ⟨dP_firstStepAt_25, rfl⟩ fgP_29 hp (by decide) (rfl) ?_
          refine go_iload_n (pc' := 29) h ⟨dP_firstStepAt_28, rfl⟩ rfl ?_
          refine gd_callVI (e := S.1 (p + 10) j) (E := S) (pc' := 32) (As := [.int (iI (j))]) (st := [.int (iI (1000)), .int (iI (b))]) h hF ⟨dP_firstStepAt_29, rfl⟩ kvP_58 (cR_ati X (n := 100) k9 l10 (by omega)) (by omega) k9 (by decide) ⟨_, _, rfl⟩ rfl (Nat.le_of_ble_eq_true rfl) rfl ?_
          have g9 := o5 j (by omega) (by omega)
          refine gi_imul (pc' := 33) h ⟨dP_firstStepAt_32, rfl⟩ ?_
          refine gi_iadd (pc' := 34) h ⟨dP_firstStepAt_33, rfl⟩ ?_
          refine go_istore (L' := [.ref p, .int (iI (a)), .int (iI (b)), .int (iI (j)), .int (iI (b + (1000 * (S.1 (p + 10) j))))]) (pc' := 36) h ⟨dP_firstStepAt_34, rfl⟩ (by decide) rfl rfl ?_
          refine go_iload_n (pc' := 37) h ⟨dP_firstStepAt_36, rfl⟩ rfl ?_
          refine go_iload (pc' := 39) h ⟨dP_firstStepAt_37, rfl⟩ rfl ?_
          refine gi_icmp_gt (tgt := 63) (pc' := 42) h dP_firstStepAt_39 rfl rfl (by omega) (fun c39 => ?_) (fun c39 => ?_)
          · refine go_iload (pc' := 65) h ⟨dP_firstStepAt_63, rfl⟩ rfl ?_
            refine go_istore_n (L' := [.ref p, .int (iI (a)), .int (iI (b + (1000 * (S.1 (p + 10) j)))), .int (iI (j)), .int (iI (b + (1000 * (S.1 (p + 10) j))))]) (pc' := 66) h ⟨dP_firstStepAt_65, rfl⟩ (by decide) rfl rfl ?_
            refine gi_iinc (L' := [.ref p, .int (iI (a)), .int (iI (b + (1000 * (S.1 (p + 10) j)))), .int (iI (j + 1)), .int (iI (b + (1000 * (S.1 (p + 10) j))))]) (pc' := 69) h ⟨dP_firstStepAt_66, rfl⟩ rfl (by decide) rfl rfl ?_
            refine gi_goto (tgt := 4) h dP_firstStepAt_69 rfl ?_
            refine Go.cut [.ref p, .int (iI a), .int (iI (b + 1000 * S.1 (p + 10) j)), .int (iI (j + 1))] 4 rfl ?_
            exact ih (j + 1) _ (by omega) (by omega) (by omega) (by omega) (by rw [g8, fsF, if_pos (by omega), if_neg (by omega)])
          · refine gi_sipush (pc' := 45) h ⟨dP_firstStepAt_42, rfl⟩ rfl ?_
            refine go_iload_n (pc' := 46) h ⟨dP_firstStepAt_45, rfl⟩ rfl ?_
            refine gi_imul (pc' := 47) h ⟨dP_firstStepAt_46, rfl⟩ ?_
            refine go_iload_n (pc' := 48) h ⟨dP_firstStepAt_47, rfl⟩ rfl ?_
            refine go_iload_n (pc' := 49) h ⟨dP_firstStepAt_48, rfl⟩ rfl ?_
            refine gi_isub (pc' := 50) h ⟨dP_firstStepAt_49, rfl⟩ ?_
            refine go_aload_n (pc' := 51) h ⟨dP_firstStepAt_50, rfl⟩ rfl ?_
            refine gs_get (v := .ref (p + 9)) (pc' := 54) h ⟨dP_firstStepAt_51, rfl⟩ fgP_29 hp (by decide) (rfl) ?_
            refine go_iload_n (pc' := 55) h ⟨dP_firstStepAt_54, rfl⟩ rfl ?_
            refine gd_callVI (e := S.1 (p + 10) j) (E := S) (pc' := 58) (As := [.int (iI (j))]) (st := [.int (iI (a - b)), .int (iI (1000 * j))]) h hF ⟨dP_firstStepAt_55, rfl⟩ kvP_58 (cR_ati X (n := 100) k9 l10 (by omega)) (by omega) k9 (by decide) ⟨_, _, rfl⟩ rfl (Nat.le_of_ble_eq_true rfl) rfl ?_
            refine gd_callSNI (e := dvU (a - b) (S.1 (p + 10) j)) (E := S) (pc' := 61) (As := [.int (iI (a - b)), .int (iI (S.1 (p + 10) j))]) (st := [.int (iI (1000 * j))]) h hF ⟨dP_firstStepAt_58, rfl⟩ kvP_65 (cX_divideUp X (by omega) (by omega)) (by omega) rfl (Nat.le_of_ble_eq_true rfl) rfl ?_
            refine gi_iadd (pc' := 62) h ⟨dP_firstStepAt_61, rfl⟩ ?_
            exact gs_iret h hE dP_firstStepAt_62 (⟨by rw [g8, fsF, if_pos (by omega), if_pos (by omega)], rfl⟩)
  refine gi_iconst (pc' := 1) h ⟨dP_firstStepAt_0, rfl⟩ ?_
  refine go_istore_n (L' := [.ref p, .int (iI (a)), .int (iI (0))]) (pc' := 2) h ⟨dP_firstStepAt_1, rfl⟩ (by decide) rfl rfl ?_
  refine gi_iconst (pc' := 3) h ⟨dP_firstStepAt_2, rfl⟩ ?_
  refine go_istore_n (L' := [.ref p, .int (iI (a)), .int (iI (0)), .int (iI (0))]) (pc' := 4) h ⟨dP_firstStepAt_3, rfl⟩ (by decide) rfl rfl ?_
  exact loop 102 0 0 (by omega) (by omega) (by omega) (by omega) rfl
