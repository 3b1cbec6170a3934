/-! Deeds, at 65 -/
def dempty (S : Sg) : Sg := rempty (rempty (rempty S 66) 68) 70
def ddrop (S : Sg) (i : Int) : Sg := rremove (rremove (rremove S 66 i) 68 i) 70 i
def dpush (S : Sg) (k t x : Int) : Sg := rpush (rpush (rpush S 66 k) 68 t) 70 x
def dadd (S : Sg) (k t x : Int) : Sg := if (10 : Int) ≤ S.1 66 1 then dpush (ddrop S 0) k t x else dpush S k t x
def dback (S : Sg) (k t x : Int) : Sg := if k = 0 then rput (swear S x (S.1 32 t) (-1)) 31 t x else if k = 1 then rput S 33 t 0 else if k = 2 then rremove S 39 (S.1 39 1 - 1) else rinsert S 39 x (S.1 32 t)
theorem Wr.wear {S : Sg} (h : Wr S) (a b y : Int) : Wr (swear S a b y) := by
  unfold swear
  by_cases hab : a < b
  · rw [if_pos hab]; exact h.aset (by decide) _
  · rw [if_neg hab]; exact h.aset (by decide) _
theorem Wr.ddrop {S : Sg} (h : Wr S) (i : Int) : Wr (ddrop S i) := ((h.remove rfl _).remove rfl _).remove rfl _
set_option maxRecDepth 4000 in
theorem cD_known (X : XT) {S : Sg} : Ctr X 1 yD_known bD_known 1 (some .int) [.ref 65] (mk S) (PI (fun r S' => r = S.1 66 1 ∧ S' = S)) 0 0 := by
  refine Ctr.ofS (by decide) rfl (Nat.le_of_ble_eq_true rfl) (fun F h hF hE => ?_)
  refine go_aload_n (pc' := 1) h ⟨dD_known_0, rfl⟩ rfl ?_
  refine gs_get (v := .ref 66) (pc' := 4) h ⟨dD_known_1, rfl⟩ fgD_14 rfl (by decide) (rfl) ?_
  refine gd_callVI (e := S.1 66 1) (E := S) (pc' := 7) (As := []) (st := []) h hF ⟨dD_known_4, rfl⟩ kvD_26 (cR_size X rfl) (by omega) rfl (by decide) ⟨_, _, rfl⟩ rfl (Nat.le_of_ble_eq_true rfl) rfl ?_
  exact gs_iret h hE dD_known_7 (⟨rfl, rfl⟩)
set_option maxRecDepth 4000 in
theorem cD_empty (X : XT) {S : Sg} : Ctr X 1 yD_empty bD_empty 1 none [.ref 65] (mk S) (PV (fun S' => S' = dempty S)) 0 0 := by
  refine Ctr.ofS (by decide) rfl (Nat.le_of_ble_eq_true rfl) (fun F h hF hE => ?_)
  refine go_aload_n (pc' := 1) h ⟨dD_empty_0, rfl⟩ rfl ?_
  refine gs_get (v := .ref 66) (pc' := 4) h ⟨dD_empty_1, rfl⟩ fgD_14 rfl (by decide) (rfl) ?_
  refine gd_callVV (E := rempty S 66) (pc' := 7) (As := []) (st := []) h hF ⟨dD_empty_4, rfl⟩ kvD_30 (cR_empty X rfl) (by omega) rfl (by decide) ⟨_, _, rfl⟩ rfl (Nat.le_of_ble_eq_true rfl) rfl ?_
  refine go_aload_n (pc' := 8) h ⟨dD_empty_7, rfl⟩ rfl ?_
  refine gs_get (v := .ref 68) (pc' := 11) h ⟨dD_empty_8, rfl⟩ fgD_20 rfl (by decide) (rfl) ?_
  refine gd_callVV (E := rempty (rempty S 66) 68) (pc' := 14) (As := []) (st := []) h hF ⟨dD_empty_11, rfl⟩ kvD_30 (cR_empty X rfl) (by omega) rfl (by decide) ⟨_, _, rfl⟩ rfl (Nat.le_of_ble_eq_true rfl) rfl ?_
  refine go_aload_n (pc' := 15) h ⟨dD_empty_14, rfl⟩ rfl ?_
  refine gs_get (v := .ref 70) (pc' := 18) h ⟨dD_empty_15, rfl⟩ fgD_23 rfl (by decide) (rfl) ?_
  refine gd_callVV (E := rempty (rempty (rempty S 66) 68) 70) (pc' := 21) (As := []) (st := []) h hF ⟨dD_empty_18, rfl⟩ kvD_30 (cR_empty X rfl) (by omega) rfl (by decide) ⟨_, _, rfl⟩ rfl (Nat.le_of_ble_eq_true rfl) rfl ?_
  exact gs_vret h hE dD_empty_21 (rfl)
set_option maxRecDepth 4000 in
theorem cD_drop (X : XT) {S : Sg} (hW : Wr S) {i : Int} (hi : -2147483648 ≤ i ∧ i ≤ 2147483647) : Ctr X 2 yD_drop bD_drop 2 none [.ref 65, .int (iI (i))] (mk S) (PV (fun S' => S' = ddrop S i)) 0 0 := by
  refine Ctr.ofS (by decide) rfl (Nat.le_of_ble_eq_true rfl) (fun F h hF hE => ?_)
  refine go_aload_n (pc' := 1) h ⟨dD_drop_0, rfl⟩ rfl ?_
  refine gs_get (v := .ref 66) (pc' := 4) h ⟨dD_drop_1, rfl⟩ fgD_14 rfl (by decide) (rfl) ?_
  refine go_iload_n (pc' := 5) h ⟨dD_drop_4, rfl⟩ rfl ?_
  refine gd_callVV (E := rremove S 66 i) (pc' := 8) (As := [.int (iI (i))]) (st := []) h hF ⟨dD_drop_5, rfl⟩ kvD_66 (cR_remove X rfl (by omega) (hW 66 rfl)) (by omega) rfl (by decide) ⟨_, _, rfl⟩ rfl (Nat.le_of_ble_eq_true rfl) rfl ?_
  refine go_aload_n (pc' := 9) h ⟨dD_drop_8, rfl⟩ rfl ?_
  refine gs_get (v := .ref 68) (pc' := 12) h ⟨dD_drop_9, rfl⟩ fgD_20 rfl (by decide) (rfl) ?_
  refine go_iload_n (pc' := 13) h ⟨dD_drop_12, rfl⟩ rfl ?_
  refine gd_callVV (E := rremove (rremove S 66 i) 68 i) (pc' := 16) (As := [.int (iI (i))]) (st := []) h hF ⟨dD_drop_13, rfl⟩ kvD_66 (cR_remove X rfl (by omega) ((hW.remove rfl _) 68 rfl)) (by omega) rfl (by decide) ⟨_, _, rfl⟩ rfl (Nat.le_of_ble_eq_true rfl) rfl ?_
  refine go_aload_n (pc' := 17) h ⟨dD_drop_16, rfl⟩ rfl ?_
  refine gs_get (v := .ref 70) (pc' := 20) h ⟨dD_drop_17, rfl⟩ fgD_23 rfl (by decide) (rfl) ?_
  refine go_iload_n (pc' := 21) h ⟨dD_drop_20, rfl⟩ rfl ?_
  refine gd_callVV (E := rremove (rremove (rremove S 66 i) 68 i) 70 i) (pc' := 24) (As := [.int (iI (i))]) (st := []) h hF ⟨dD_drop_21, rfl⟩ kvD_66 (cR_remove X rfl (by omega) (((hW.remove rfl _).remove rfl _) 70 rfl)) (by omega) rfl (by decide) ⟨_, _, rfl⟩ rfl (Nat.le_of_ble_eq_true rfl) rfl ?_
  exact gs_vret h hE dD_drop_24 (rfl)
set_option maxRecDepth 4000 in
theorem cD_add (X : XT) {S : Sg} (hW : Wr S) {k t x : Int} : Ctr X 3 yD_add bD_add 4 none [.ref 65, .int (iI (k)), .int (iI (t)), .int (iI (x))] (mk S) (PV (fun S' => S' = dadd S k t x)) 0 0 := by
  refine Ctr.ofS (by decide) rfl (Nat.le_of_ble_eq_true rfl) (fun F h hF hE => ?_)
  have hz := hW 66 rfl
  unfold rw1 at hz
  have hl : (ln (66 + 1) : Int) = 10 := rfl
  refine go_aload_n (pc' := 1) h ⟨dD_add_0, rfl⟩ rfl ?_
  refine gs_get (v := .ref 66) (pc' := 4) h ⟨dD_add_1, rfl⟩ fgD_14 rfl (by decide) (rfl) ?_
  refine gd_callVI (e := if (10 : Int) ≤ S.1 66 1 then 1 else 0) (E := S) (pc' := 7) (As := []) (st := []) h hF ⟨dD_add_4, rfl⟩ kvD_33 (cR_isFull X rfl (hW 66 rfl)) (by omega) rfl (by decide) ⟨_, _, rfl⟩ rfl (Nat.le_of_ble_eq_true rfl) rfl ?_
  refine gi_if_eq (tgt := 15) (pc' := 10) h dD_add_7 rfl rfl (by split <;> omega) (fun c7 => ?_) (fun c7 => ?_)
  · have c7 := b0 c7
    refine go_aload_n (pc' := 16) h ⟨dD_add_15, rfl⟩ rfl ?_
    refine gs_get (v := .ref 66) (pc' := 19) h ⟨dD_add_16, rfl⟩ fgD_14 rfl (by decide) (rfl) ?_
    refine go_iload_n (pc' := 20) h ⟨dD_add_19, rfl⟩ rfl ?_
    refine gd_callVV (E := rpush S 66 k) (pc' := 23) (As := [.int (iI (k))]) (st := []) h hF ⟨dD_add_20, rfl⟩ kvD_40 (cR_push X rfl (hW 66 rfl)) (by omega) rfl (by decide) ⟨_, _, rfl⟩ rfl (Nat.le_of_ble_eq_true rfl) rfl ?_
    refine go_aload_n (pc' := 24) h ⟨dD_add_23, rfl⟩ rfl ?_
    refine gs_get (v := .ref 68) (pc' := 27) h ⟨dD_add_24, rfl⟩ fgD_20 rfl (by decide) (rfl) ?_
    refine go_iload_n (pc' := 28) h ⟨dD_add_27, rfl⟩ rfl ?_
    refine gd_callVV (E := rpush (rpush S 66 k) 68 t) (pc' := 31) (As := [.int (iI (t))]) (st := []) h hF ⟨dD_add_28, rfl⟩ kvD_40 (cR_push X rfl ((hW.push rfl _) 68 rfl)) (by omega) rfl (by decide) ⟨_, _, rfl⟩ rfl (Nat.le_of_ble_eq_true rfl) rfl ?_
    refine go_aload_n (pc' := 32) h ⟨dD_add_31, rfl⟩ rfl ?_
    refine gs_get (v := .ref 70) (pc' := 35) h ⟨dD_add_32, rfl⟩ fgD_23 rfl (by decide) (rfl) ?_
    refine go_iload_n (pc' := 36) h ⟨dD_add_35, rfl⟩ rfl ?_
    refine gd_callVV (E := rpush (rpush (rpush S 66 k) 68 t) 70 x) (pc' := 39) (As := [.int (iI (x))]) (st := []) h hF ⟨dD_add_36, rfl⟩ kvD_40 (cR_push X rfl (((hW.push rfl _).push rfl _) 70 rfl)) (by omega) rfl (by decide) ⟨_, _, rfl⟩ rfl (Nat.le_of_ble_eq_true rfl) rfl ?_
    exact gs_vret h hE dD_add_39 (by unfold dadd; rw [if_neg c7]; rfl)
  · have c7 := b1 c7
    refine go_aload_n (pc' := 11) h ⟨dD_add_10, rfl⟩ rfl ?_
    refine gi_iconst (pc' := 12) h ⟨dD_add_11, rfl⟩ ?_
    refine gd_callVV (E := ddrop S 0) (pc' := 15) (As := [.int (iI (0))]) (st := []) h hF ⟨dD_add_12, rfl⟩ kvD_37 (cD_drop X hW (by omega)) (by omega) rfl (by decide) ⟨_, _, rfl⟩ rfl (Nat.le_of_ble_eq_true rfl) rfl ?_
    refine go_aload_n (pc' := 16) h ⟨dD_add_15, rfl⟩ rfl ?_
    refine gs_get (v := .ref 66) (pc' := 19) h ⟨dD_add_16, rfl⟩ fgD_14 rfl (by decide) (rfl) ?_
    refine go_iload_n (pc' := 20) h ⟨dD_add_19, rfl⟩ rfl ?_
    refine gd_callVV (E := rpush (ddrop S 0) 66 k) (pc' := 23) (As := [.int (iI (k))]) (st := []) h hF ⟨dD_add_20, rfl⟩ kvD_40 (cR_push X rfl ((hW.ddrop _) 66 rfl)) (by omega) rfl (by decide) ⟨_, _, rfl⟩ rfl (Nat.le_of_ble_eq_true rfl) rfl ?_
    refine go_aload_n (pc' := 24) h ⟨dD_add_23, rfl⟩ rfl ?_
    refine gs_get (v := .ref 68) (pc' := 27) h ⟨dD_add_24, rfl⟩ fgD_20 rfl (by decide) (rfl) ?_
    refine go_iload_n (pc' := 28) h ⟨dD_add_27, rfl⟩ rfl ?_
    refine gd_callVV (E := rpush (rpush (ddrop S 0) 66 k) 68 t) (pc' := 31) (As := [.int (iI (t))]) (st := []) h hF ⟨dD_add_28, rfl⟩ kvD_40 (cR_push X rfl (((hW.ddrop _).push rfl _) 68 rfl)) (by omega) rfl (by decide) ⟨_, _, rfl⟩ rfl (Nat.le_of_ble_eq_true rfl) rfl ?_
    refine go_aload_n (pc' := 32) h ⟨dD_add_31, rfl⟩ rfl ?_
    refine gs_get (v := .ref 70) (pc' := 35) h ⟨dD_add_32, rfl⟩ fgD_23 rfl (by decide) (rfl) ?_
    refine go_iload_n (pc' := 36) h ⟨dD_add_35, rfl⟩ rfl ?_
    refine gd_callVV (E := rpush (rpush (rpush (ddrop S 0) 66 k) 68 t) 70 x) (pc' := 39) (As := [.int (iI (x))]) (st := []) h hF ⟨dD_add_36, rfl⟩ kvD_40 (cR_push X rfl ((((hW.ddrop _).push rfl _).push rfl _) 70 rfl)) (by omega) rfl (by decide) ⟨_, _, rfl⟩ rfl (Nat.le_of_ble_eq_true rfl) rfl ?_
    exact gs_vret h hE dD_add_39 (by unfold dadd; rw [if_pos c7]; rfl)
set_option maxRecDepth 4000 in
theorem cD_back (X : XT) {S : Sg} (hW : Wr S) {u k t x : Int} (eu : S.1 66 1 - 1 = u) (ek : S.1 67 u = k) (et : S.1 69 u = t) (ed : S.1 71 u = x) (hu : 0 ≤ u) (hk : 0 ≤ k ∧ k ≤ 3) (ht : 0 ≤ t ∧ t ≤ 3) (hd : 0 ≤ x ∧ x ≤ 100) (hp : 0 ≤ S.1 32 t ∧ S.1 32 t ≤ 100) (h1 : ∀ m : Int, 0 ≤ m → m < 100 → 0 ≤ S.1 36 m ∧ S.1 36 m ≤ 9999) (h2 : ∀ m : Int, 0 ≤ m → m < 100 → 0 ≤ S.1 38 m ∧ S.1 38 m ≤ 9999) : Ctr X 4 yD_takeBackLatest bD_takeBackLatest 5 none [.ref 65, .ref 30] (mk S) (PV (fun S' => S' = ddrop (dback S k t x) u)) 0 0 := by
  refine Ctr.ofS (by decide) rfl (Nat.le_of_ble_eq_true rfl) (fun F h hF hE => ?_)
  have hz := hW 66 rfl
  unfold rw1 at hz
  have hl : (ln (66 + 1) : Int) = 10 := rfl
  have hz2 := hW 39 rfl
  unfold rw1 at hz2
  have hl2 : (ln (39 + 1) : Int) = 6 := rfl
  refine go_aload_n (pc' := 1) h ⟨dD_takeBackLatest_0, rfl⟩ rfl ?_
  refine gs_get (v := .ref 66) (pc' := 4) h ⟨dD_takeBackLatest_1, rfl⟩ fgD_14 rfl (by decide) (rfl) ?_
  refine gd_callVI (e := S.1 66 1) (E := S) (pc' := 7) (As := []) (st := []) h hF ⟨dD_takeBackLatest_4, rfl⟩ kvD_26 (cR_size X rfl) (by omega) rfl (by decide) ⟨_, _, rfl⟩ rfl (Nat.le_of_ble_eq_true rfl) rfl ?_
  refine gi_iconst (pc' := 8) h ⟨dD_takeBackLatest_7, rfl⟩ ?_
  refine gi_isub (pc' := 9) h ⟨dD_takeBackLatest_8, rfl⟩ ?_
  rw [eu]
  refine go_istore_n (L' := [.ref 65, .ref 30, .int (iI (u))]) (pc' := 10) h ⟨dD_takeBackLatest_9, rfl⟩ (by decide) rfl rfl ?_
  refine go_aload_n (pc' := 11) h ⟨dD_takeBackLatest_10, rfl⟩ rfl ?_
  refine gs_get (v := .ref 68) (pc' := 14) h ⟨dD_takeBackLatest_11, rfl⟩ fgD_20 rfl (by decide) (rfl) ?_
  refine go_iload_n (pc' := 15) h ⟨dD_takeBackLatest_14, rfl⟩ rfl ?_
  refine gd_callVI (e := S.1 69 u) (E := S) (pc' := 18) (As := [.int (iI (u))]) (st := []) h hF ⟨dD_takeBackLatest_15, rfl⟩ kvD_43 (cR_ati X (n := 10) rfl rfl (by omega)) (by omega) rfl (by decide) ⟨_, _, rfl⟩ rfl (Nat.le_of_ble_eq_true rfl) rfl ?_
  rw [et]
  refine go_istore_n (L' := [.ref 65, .ref 30, .int (iI (u)), .int (iI (t))]) (pc' := 19) h ⟨dD_takeBackLatest_18, rfl⟩ (by decide) rfl rfl ?_
  refine go_aload_n (pc' := 20) h ⟨dD_takeBackLatest_19, rfl⟩ rfl ?_
  refine gs_get (v := .ref 70) (pc' := 23) h ⟨dD_takeBackLatest_20, rfl⟩ fgD_23 rfl (by decide) (rfl) ?_
  refine go_iload_n (pc' := 24) h ⟨dD_takeBackLatest_23, rfl⟩ rfl ?_
  refine gd_callVI (e := S.1 71 u) (E := S) (pc' := 27) (As := [.int (iI (u))]) (st := []) h hF ⟨dD_takeBackLatest_24, rfl⟩ kvD_43 (cR_ati X (n := 10) rfl rfl (by omega)) (by omega) rfl (by decide) ⟨_, _, rfl⟩ rfl (Nat.le_of_ble_eq_true rfl) rfl ?_
  rw [ed]
  refine go_istore (L' := [.ref 65, .ref 30, .int (iI (u)), .int (iI (t)), .int (iI (x))]) (pc' := 29) h ⟨dD_takeBackLatest_27, rfl⟩ (by decide) rfl rfl ?_
  refine go_aload_n (pc' := 30) h ⟨dD_takeBackLatest_29, rfl⟩ rfl ?_
  refine gs_get (v := .ref 66) (pc' := 33) h ⟨dD_takeBackLatest_30, rfl⟩ fgD_14 rfl (by decide) (rfl) ?_
  refine go_iload_n (pc' := 34) h ⟨dD_takeBackLatest_33, rfl⟩ rfl ?_
  refine gd_callVI (e := S.1 67 u) (E := S) (pc' := 37) (As := [.int (iI (u))]) (st := []) h hF ⟨dD_takeBackLatest_34, rfl⟩ kvD_43 (cR_ati X (n := 10) rfl rfl (by omega)) (by omega) rfl (by decide) ⟨_, _, rfl⟩ rfl (Nat.le_of_ble_eq_true rfl) rfl ?_
  rw [ek]
  rcases (show (k < 0 ∨ 3 < k) ∨ k = 0 ∨ k = 1 ∨ k = 2 ∨ k = 3 by omega) with c37 | c37 | c37 | c37 | c37
  · exfalso; omega
  · rw [c37]
    refine gi_tabIn (tgt := 68) (a := 0) h dD_takeBackLatest_37 (by decide) (by decide) rfl rfl ?_
    refine go_aload_n (pc' := 69) h ⟨dD_takeBackLatest_68, rfl⟩ rfl ?_
    refine go_iload (pc' := 71) h ⟨dD_takeBackLatest_69, rfl⟩ rfl ?_
    refine go_aload_n (pc' := 72) h ⟨dD_takeBackLatest_71, rfl⟩ rfl ?_
    refine gs_get (v := .ref 31) (pc' := 75) h ⟨dD_takeBackLatest_72, rfl⟩ fgD_47 rfl (by decide) (rfl) ?_
    refine go_iload_n (pc' := 76) h ⟨dD_takeBackLatest_75, rfl⟩ rfl ?_
    refine gd_callVI (e := S.1 32 t) (E := S) (pc' := 79) (As := [.int (iI (t))]) (st := [.int (iI (x)), .ref 30]) h hF ⟨dD_takeBackLatest_76, rfl⟩ kvD_43 (cR_ati X (n := 4) rfl rfl (by omega)) (by omega) rfl (by decide) ⟨_, _, rfl⟩ rfl (Nat.le_of_ble_eq_true rfl) rfl ?_
    refine gi_iconst (pc' := 80) h ⟨dD_takeBackLatest_79, rfl⟩ ?_
    refine gd_callVV (E := swear S x (S.1 32 t) (-1)) (pc' := 83) (As := [.int (iI (x)), .int (iI (S.1 32 t)), .int (iI (-1))]) (st := []) h hF ⟨dD_takeBackLatest_80, rfl⟩ kvD_52 (cS_wearWay X (by omega) (by omega) (by omega) h1 h2) (by omega) rfl (by decide) ⟨_, _, rfl⟩ rfl (Nat.le_of_ble_eq_true rfl) rfl ?_
    refine go_aload_n (pc' := 84) h ⟨dD_takeBackLatest_83, rfl⟩ rfl ?_
    refine gs_get (v := .ref 31) (pc' := 87) h ⟨dD_takeBackLatest_84, rfl⟩ fgD_47 rfl (by decide) (rfl) ?_
    refine go_iload_n (pc' := 88) h ⟨dD_takeBackLatest_87, rfl⟩ rfl ?_
    refine go_iload (pc' := 90) h ⟨dD_takeBackLatest_88, rfl⟩ rfl ?_
    refine gd_callVV (E := rput (swear S x (S.1 32 t) (-1)) 31 t x) (pc' := 93) (As := [.int (iI (t)), .int (iI (x))]) (st := []) h hF ⟨dD_takeBackLatest_90, rfl⟩ kvD_56 (cR_put X rfl (by omega)) (by omega) rfl (by decide) ⟨_, _, rfl⟩ rfl (Nat.le_of_ble_eq_true rfl) rfl ?_
    refine gi_goto (tgt := 147) h dD_takeBackLatest_93 rfl ?_
    refine go_aload_n (pc' := 148) h ⟨dD_takeBackLatest_147, rfl⟩ rfl ?_
    refine go_iload_n (pc' := 149) h ⟨dD_takeBackLatest_148, rfl⟩ rfl ?_
    refine gd_callVV (E := ddrop (rput (swear S x (S.1 32 t) (-1)) 31 t x) u) (pc' := 152) (As := [.int (iI (u))]) (st := []) h hF ⟨dD_takeBackLatest_149, rfl⟩ kvD_37 (cD_drop X ((hW.wear _ _ _).put rfl _ _) (by omega)) (by omega) rfl (by decide) ⟨_, _, rfl⟩ rfl (Nat.le_of_ble_eq_true rfl) rfl ?_
    exact gs_vret h hE dD_takeBackLatest_152 (by unfold dback; simp [c37])
  · rw [c37]
    refine gi_tabIn (tgt := 96) (a := 1) h dD_takeBackLatest_37 (by decide) (by decide) rfl rfl ?_
    refine go_aload_n (pc' := 97) h ⟨dD_takeBackLatest_96, rfl⟩ rfl ?_
    refine gs_get (v := .ref 33) (pc' := 100) h ⟨dD_takeBackLatest_97, rfl⟩ fgD_60 rfl (by decide) (rfl) ?_
    refine go_iload_n (pc' := 101) h ⟨dD_takeBackLatest_100, rfl⟩ rfl ?_
    refine gi_iconst (pc' := 102) h ⟨dD_takeBackLatest_101, rfl⟩ ?_
    refine gd_callVV (E := rput S 33 t 0) (pc' := 105) (As := [.int (iI (t)), .int (iI (0))]) (st := []) h hF ⟨dD_takeBackLatest_102, rfl⟩ kvD_56 (cR_put X rfl (by omega)) (by omega) rfl (by decide) ⟨_, _, rfl⟩ rfl (Nat.le_of_ble_eq_true rfl) rfl ?_
    refine gi_goto (tgt := 147) h dD_takeBackLatest_105 rfl ?_
    refine go_aload_n (pc' := 148) h ⟨dD_takeBackLatest_147, rfl⟩ rfl ?_
    refine go_iload_n (pc' := 149) h ⟨dD_takeBackLatest_148, rfl⟩ rfl ?_
    refine gd_callVV (E := ddrop (rput S 33 t 0) u) (pc' := 152) (As := [.int (iI (u))]) (st := []) h hF ⟨dD_takeBackLatest_149, rfl⟩ kvD_37 (cD_drop X (hW.put rfl _ _) (by omega)) (by omega) rfl (by decide) ⟨_, _, rfl⟩ rfl (Nat.le_of_ble_eq_true rfl) rfl ?_
    exact gs_vret h hE dD_takeBackLatest_152 (by unfold dback; simp [c37])
  · rw [c37]
    refine gi_tabIn (tgt := 108) (a := 2) h dD_takeBackLatest_37 (by decide) (by decide) rfl rfl ?_
    refine go_aload_n (pc' := 109) h ⟨dD_takeBackLatest_108, rfl⟩ rfl ?_
    refine gs_get (v := .ref 39) (pc' := 112) h ⟨dD_takeBackLatest_109, rfl⟩ fgD_63 rfl (by decide) (rfl) ?_
    refine go_aload_n (pc' := 113) h ⟨dD_takeBackLatest_112, rfl⟩ rfl ?_
    refine gs_get (v := .ref 39) (pc' := 116) h ⟨dD_takeBackLatest_113, rfl⟩ fgD_63 rfl (by decide) (rfl) ?_
    refine gd_callVI (e := S.1 39 1) (E := S) (pc' := 119) (As := []) (st := [.ref 39]) h hF ⟨dD_takeBackLatest_116, rfl⟩ kvD_26 (cR_size X rfl) (by omega) rfl (by decide) ⟨_, _, rfl⟩ rfl (Nat.le_of_ble_eq_true rfl) rfl ?_
    refine gi_iconst (pc' := 120) h ⟨dD_takeBackLatest_119, rfl⟩ ?_
    refine gi_isub (pc' := 121) h ⟨dD_takeBackLatest_120, rfl⟩ ?_
    refine gd_callVV (E := rremove S 39 ((S.1 39 1) - 1)) (pc' := 124) (As := [.int (iI ((S.1 39 1) - 1))]) (st := []) h hF ⟨dD_takeBackLatest_121, rfl⟩ kvD_66 (cR_remove X rfl (by omega) (hW 39 rfl)) (by omega) rfl (by decide) ⟨_, _, rfl⟩ rfl (Nat.le_of_ble_eq_true rfl) rfl ?_
    refine gi_goto (tgt := 147) h dD_takeBackLatest_124 rfl ?_
    refine go_aload_n (pc' := 148) h ⟨dD_takeBackLatest_147, rfl⟩ rfl ?_
    refine go_iload_n (pc' := 149) h ⟨dD_takeBackLatest_148, rfl⟩ rfl ?_
    refine gd_callVV (E := ddrop (rremove S 39 ((S.1 39 1) - 1)) u) (pc' := 152) (As := [.int (iI (u))]) (st := []) h hF ⟨dD_takeBackLatest_149, rfl⟩ kvD_37 (cD_drop X (hW.remove rfl _) (by omega)) (by omega) rfl (by decide) ⟨_, _, rfl⟩ rfl (Nat.le_of_ble_eq_true rfl) rfl ?_
    exact gs_vret h hE dD_takeBackLatest_152 (by unfold dback; simp [c37])
  · rw [c37]
    refine gi_tabIn (tgt := 127) (a := 3) h dD_takeBackLatest_37 (by decide) (by decide) rfl rfl ?_
    refine go_aload_n (pc' := 128) h ⟨dD_takeBackLatest_127, rfl⟩ rfl ?_
    refine gs_get (v := .ref 39) (pc' := 131) h ⟨dD_takeBackLatest_128, rfl⟩ fgD_63 rfl (by decide) (rfl) ?_
    refine go_iload (pc' := 133) h ⟨dD_takeBackLatest_131, rfl⟩ rfl ?_
    refine go_aload_n (pc' := 134) h ⟨dD_takeBackLatest_133, rfl⟩ rfl ?_
    refine gs_get (v := .ref 31) (pc' := 137) h ⟨dD_takeBackLatest_134, rfl⟩ fgD_47 rfl (by decide) (rfl) ?_
    refine go_iload_n (pc' := 138) h ⟨dD_takeBackLatest_137, rfl⟩ rfl ?_
    refine gd_callVI (e := S.1 32 t) (E := S) (pc' := 141) (As := [.int (iI (t))]) (st := [.int (iI (x)), .ref 39]) h hF ⟨dD_takeBackLatest_138, rfl⟩ kvD_43 (cR_ati X (n := 4) rfl rfl (by omega)) (by omega) rfl (by decide) ⟨_, _, rfl⟩ rfl (Nat.le_of_ble_eq_true rfl) rfl ?_
    refine gd_callVV (E := rinsert S 39 x (S.1 32 t)) (pc' := 144) (As := [.int (iI (x)), .int (iI (S.1 32 t))]) (st := []) h hF ⟨dD_takeBackLatest_141, rfl⟩ kvD_69 (cR_insert X rfl (by omega) (hW 39 rfl)) (by omega) rfl (by decide) ⟨_, _, rfl⟩ rfl (Nat.le_of_ble_eq_true rfl) rfl ?_
    refine gi_goto (tgt := 147) h dD_takeBackLatest_144 rfl ?_
    refine go_aload_n (pc' := 148) h ⟨dD_takeBackLatest_147, rfl⟩ rfl ?_
    refine go_iload_n (pc' := 149) h ⟨dD_takeBackLatest_148, rfl⟩ rfl ?_
    refine gd_callVV (E := ddrop (rinsert S 39 x (S.1 32 t)) u) (pc' := 152) (As := [.int (iI (u))]) (st := []) h hF ⟨dD_takeBackLatest_149, rfl⟩ kvD_37 (cD_drop X (hW.insert rfl _ _) (by omega)) (by omega) rfl (by decide) ⟨_, _, rfl⟩ rfl (Nat.le_of_ble_eq_true rfl) rfl ?_
    exact gs_vret h hE dD_takeBackLatest_152 (by unfold dback; simp [c37])
/-! Seen, at 72 -/
def nst (S : Sg) (f : Int → Int) : Sg := aset (pt S 77 1 0) 78 f
theorem nst_78 (S : Sg) (f : Int → Int) : (nst S f).1 78 = f := aset_eq _ _ _
theorem nst_ne (S : Sg) (f : Int → Int) {a : Nat} (h1 : a ≠ 77) (h2 : a ≠ 78) : (nst S f).1 a = S.1 a := by
  unfold nst
  rw [aset_ne _ _ h2, pt_ne _ _ _ h1]
theorem nst_77 (S : Sg) (f : Int → Int) : (nst S f).1 77 = uF (S.1 77) 1 0 := by
  unfold nst
  rw [aset_ne _ _ (by decide), pt_eq]
theorem uF_uF (f : Int → Int) (i x y : Int) : uF (uF f i x) i y = uF f i y := by
  funext j
  unfold uF
  by_cases h : j = i
  · rw [if_pos h, if_pos h]
  · rw [if_neg h, if_neg h, if_neg h]
theorem nst_nst (S : Sg) (f g : Int → Int) : nst (nst S f) g = nst S g := by
  unfold nst
  rw [pt_sw _ f _ _ (by decide), aset_aset, pt_aset, pt_aset, aset_eq, aset_aset, uF_uF]
theorem nst_aset (S : Sg) (f g : Int → Int) : aset (nst S f) 78 g = nst S g := by unfold nst; rw [aset_aset]
theorem Wr.nst {S : Sg} (h : Wr S) (f : Int → Int) : Wr (nst S f) := by
  refine h.one (k := 77) rfl (fun a h1 h2 => nst_ne S f h1 h2) ?_
  unfold rw1
  rw [nst_77, uF_eq]
  exact ⟨by omega, by decide⟩
def keepF (f : Int → Int) (s : Int) : Int → Int := uF (fun _ => 0) s (f s)
theorem nst_pt (S : Sg) (g : Int → Int) : pt (nst S g) 77 1 0 = nst S g := by
  unfold nst
  rw [pt_sw _ g _ _ (by decide), pt_aset, pt_aset, aset_eq, aset_aset, uF_uF]
theorem nst_keep (S : Sg) (f : Int → Int) {s v : Int} (hs : 0 ≤ s ∧ s ≤ 40) : rput (rempty (nst S f) 77) 77 s v = nst S (uF (fun _ => 0) s v) := by
  have hl : (ln (77 + 1) : Int) = 41 := rfl
  rw [rput_in _ (by omega)]
  unfold rempty
  rw [show (77 + 1 : Nat) = 78 from rfl, nst_aset, nst_pt, pt_aset, nst_78, nst_aset]
def dF (cl we : Int → Int) (x : Int) (f : Int → Int) : Nat → Int → Int
  | 0 => f
  | n + 1 => if cl (n : Int) = x then keepF (dF cl we x f n) (we (n : Int)) else dF cl we x f n
def addv (g : Int → Int) (l m j : Int) : Int := sumI (fun t => atV g 41 (j - (l + t))) (m + 1 - l)
def aF (g : Int → Int) (l m s : Int) : Int → Int := fun j => if s < j ∧ j ≤ 40 then addv g l m j else g j
theorem aF_s (g : Int → Int) (l m : Int) {s : Int} (h : 0 ≤ s ∧ s ≤ 40) : uF (aF g l m s) s (addv g l m s) = aF g l m (s + -1) := by
  funext j
  unfold uF aF
  by_cases hj : j = s
  · rw [if_pos hj, if_pos (by omega), hj]
  · rw [if_neg hj]
    by_cases h2 : s < j ∧ j ≤ 40
    · rw [if_pos h2, if_pos (by omega)]
    · rw [if_neg h2, if_neg (by omega)]
theorem aF_0 (g : Int → Int) (l m : Int) : aF g l m 40 = g := by
  funext j
  unfold aF
  rw [if_neg (by omega)]
theorem aF_at (g : Int → Int) (l m s : Int) {j : Int} (h : j ≤ s) : atV (aF g l m s) 41 j = atV g 41 j := by
  unfold atV aF
  rw [if_neg (show ¬ (s < j ∧ j ≤ 40) by omega)]
set_option maxRecDepth 4000 in
theorem cN_empty (X : XT) {S : Sg} : Ctr X 1 yN_empty bN_empty 1 none [.ref 72] (mk S) (PV (fun S' => S' = rempty (rempty S 73) 75)) 0 0 := by
  refine Ctr.ofS (by decide) rfl (Nat.le_of_ble_eq_true rfl) (fun F h hF hE => ?_)
  refine go_aload_n (pc' := 1) h ⟨dN_empty_0, rfl⟩ rfl ?_
  refine gs_get (v := .ref 73) (pc' := 4) h ⟨dN_empty_1, rfl⟩ fgN_14 rfl (by decide) (rfl) ?_
  refine gd_callVV (E := rempty S 73) (pc' := 7) (As := []) (st := []) h hF ⟨dN_empty_4, rfl⟩ kvN_26 (cR_empty X rfl) (by omega) rfl (by decide) ⟨_, _, rfl⟩ rfl (Nat.le_of_ble_eq_true rfl) rfl ?_
  refine go_aload_n (pc' := 8) h ⟨dN_empty_7, rfl⟩ rfl ?_
  refine gs_get (v := .ref 75) (pc' := 11) h ⟨dN_empty_8, rfl⟩ fgN_20 rfl (by decide) (rfl) ?_
  refine gd_callVV (E := rempty (rempty S 73) 75) (pc' := 14) (As := []) (st := []) h hF ⟨dN_empty_11, rfl⟩ kvN_26 (cR_empty X rfl) (by omega) rfl (by decide) ⟨_, _, rfl⟩ rfl (Nat.le_of_ble_eq_true rfl) rfl ?_
  exact gs_vret h hE dN_empty_14 (rfl)
set_option maxRecDepth 4000 in
theorem cN_add (X : XT) {S : Sg} (hW : Wr S) {a b : Int} : Ctr X 2 yN_add bN_add 3 none [.ref 72, .int (iI (a)), .int (iI (b))] (mk S) (PV (fun S' => S' = rpush (rpush S 73 a) 75 b)) 0 0 := by
  refine Ctr.ofS (by decide) rfl (Nat.le_of_ble_eq_true rfl) (fun F h hF hE => ?_)
  refine go_aload_n (pc' := 1) h ⟨dN_add_0, rfl⟩ rfl ?_
  refine gs_get (v := .ref 73) (pc' := 4) h ⟨dN_add_1, rfl⟩ fgN_14 rfl (by decide) (rfl) ?_
  refine go_iload_n (pc' := 5) h ⟨dN_add_4, rfl⟩ rfl ?_
  refine gd_callVV (E := rpush S 73 a) (pc' := 8) (As := [.int (iI (a))]) (st := []) h hF ⟨dN_add_5, rfl⟩ kvN_29 (cR_push X rfl (hW 73 rfl)) (by omega) rfl (by decide) ⟨_, _, rfl⟩ rfl (Nat.le_of_ble_eq_true rfl) rfl ?_
  refine go_aload_n (pc' := 9) h ⟨dN_add_8, rfl⟩ rfl ?_
  refine gs_get (v := .ref 75) (pc' := 12) h ⟨dN_add_9, rfl⟩ fgN_20 rfl (by decide) (rfl) ?_
  refine go_iload_n (pc' := 13) h ⟨dN_add_12, rfl⟩ rfl ?_
  refine gd_callVV (E := rpush (rpush S 73 a) 75 b) (pc' := 16) (As := [.int (iI (b))]) (st := []) h hF ⟨dN_add_13, rfl⟩ kvN_29 (cR_push X rfl ((hW.push rfl _) 75 rfl)) (by omega) rfl (by decide) ⟨_, _, rfl⟩ rfl (Nat.le_of_ble_eq_true rfl) rfl ?_
  exact gs_vret h hE dN_add_16 (rfl)
set_option maxRecDepth 4000 in
theorem cN_keepOnly (X : XT) {S : Sg} {f : Int → Int} {x : Int} (hx : 0 ≤ x ∧ x ≤ 40) : Ctr X 1 yN_keepOnly bN_keepOnly 3 none [.ref 72, .int (iI (x))] (mk (nst S f)) (PV (fun S' => S' = nst S (keepF f x))) 0 0 := by
  refine Ctr.ofS (by decide) rfl (Nat.le_of_ble_eq_true rfl) (fun F h hF hE => ?_)
  refine go_aload_n (pc' := 1) h ⟨dN_keepOnly_0, rfl⟩ rfl ?_
  refine gs_get (v := .ref 77) (pc' := 4) h ⟨dN_keepOnly_1, rfl⟩ fgN_23 rfl (by decide) (rfl) ?_
  refine go_iload_n (pc' := 5) h ⟨dN_keepOnly_4, rfl⟩ rfl ?_
  refine gd_callVI (e := f x) (E := nst S f) (pc' := 8) (As := [.int (iI (x))]) (st := []) h hF ⟨dN_keepOnly_5, rfl⟩ kvN_50 (by have h0 := cR_ati X (S := nst S f) (k := 77) rfl (n := 41) rfl (i := x) (by omega); rw [nst_78] at h0; exact h0) (by omega) rfl (by decide) ⟨_, _, rfl⟩ rfl (Nat.le_of_ble_eq_true rfl) rfl ?_
  refine go_istore_n (L' := [.ref 72, .int (iI (x)), .int (iI (f x))]) (pc' := 9) h ⟨dN_keepOnly_8, rfl⟩ (by decide) rfl rfl ?_
  refine go_aload_n (pc' := 10) h ⟨dN_keepOnly_9, rfl⟩ rfl ?_
  refine gs_get (v := .ref 77) (pc' := 13) h ⟨dN_keepOnly_10, rfl⟩ fgN_23 rfl (by decide) (rfl) ?_
  refine gd_callVV (E := rempty (nst S f) 77) (pc' := 16) (As := []) (st := []) h hF ⟨dN_keepOnly_13, rfl⟩ kvN_26 (cR_empty X rfl) (by omega) rfl (by decide) ⟨_, _, rfl⟩ rfl (Nat.le_of_ble_eq_true rfl) rfl ?_
  refine go_aload_n (pc' := 17) h ⟨dN_keepOnly_16, rfl⟩ rfl ?_
  refine gs_get (v := .ref 77) (pc' := 20) h ⟨dN_keepOnly_17, rfl⟩ fgN_23 rfl (by decide) (rfl) ?_
  refine go_iload_n (pc' := 21) h ⟨dN_keepOnly_20, rfl⟩ rfl ?_
  refine go_iload_n (pc' := 22) h ⟨dN_keepOnly_21, rfl⟩ rfl ?_
  refine gd_callVV (E := rput (rempty (nst S f) 77) 77 x (f x)) (pc' := 25) (As := [.int (iI (x)), .int (iI (f x))]) (st := []) h hF ⟨dN_keepOnly_22, rfl⟩ kvN_32 (cR_put X rfl (by omega)) (by omega) rfl (by decide) ⟨_, _, rfl⟩ rfl (Nat.le_of_ble_eq_true rfl) rfl ?_
  exact gs_vret h hE dN_keepOnly_25 (nst_keep _ _ hx)
set_option maxRecDepth 4000 in
theorem cN_addGoings (X : XT) {S : Sg} {f : Int → Int} {l u : Int} (hl : 0 ≤ l ∧ l ≤ 9 ∧ l ≤ u + 1 ∧ u ≤ 9) : Ctr X 1 yN_addGoings bN_addGoings 6 none [.ref 72, .int (iI (l)), .int (iI (u))] (mk (nst S f)) (PV (fun S' => S' = nst S (aF f l u (-1)))) 0 0 := by
  refine Ctr.ofS (by decide) rfl (Nat.le_of_ble_eq_true rfl) (fun F h hF hE => ?_)
  have inner : ∀ (s : Int), 0 ≤ s → s ≤ 40 → (∀ v : Int, v = addv f l u s → Go F 6 (mk (nst S (aF f l u s))) 0 0 41 [.ref 72, .int (iI l), .int (iI u), .int (iI s), .int (iI v), .int (iI (u + 1))] []) → ∀ (n : Nat) (j : Int), u + 1 - j < n → l ≤ j → j ≤ u + 1 → Go F 6 (mk (nst S (aF f l u s))) 0 0 13 [.ref 72, .int (iI l), .int (iI u), .int (iI s), .int (iI (sumI (fun t => atV f 41 (s - (l + t))) (j - l))), .int (iI j)] [] := by
    intro s g1 g2 hk n
    induction n with
    | zero => intro j g4 g5 g6; exfalso; omega
    | succ n ih =>
      intro j g4 g5 g6
      refine go_iload (pc' := 15) h ⟨dN_addGoings_13, rfl⟩ rfl ?_
      refine go_iload_n (pc' := 16) h ⟨dN_addGoings_15, rfl⟩ rfl ?_
      refine gi_icmp_gt (tgt := 41) (pc' := 19) h dN_addGoings_16 rfl rfl (by omega) (fun c16 => ?_) (fun c16 => ?_)
      · have e1 : j = u + 1 := by omega
        subst e1
        exact hk _ rfl
      · refine go_iload (pc' := 21) h ⟨dN_addGoings_19, rfl⟩ rfl ?_
        refine go_aload_n (pc' := 22) h ⟨dN_addGoings_21, rfl⟩ rfl ?_
        refine gs_get (v := .ref 77) (pc' := 25) h ⟨dN_addGoings_22, rfl⟩ fgN_23 rfl (by decide) (rfl) ?_
        refine go_iload_n (pc' := 26) h ⟨dN_addGoings_25, rfl⟩ rfl ?_
        refine go_iload (pc' := 28) h ⟨dN_addGoings_26, rfl⟩ rfl ?_
        refine gi_isub (pc' := 29) h ⟨dN_addGoings_28, rfl⟩ ?_
        refine gd_callVI (e := atV f 41 (s - j)) (E := nst S (aF f l u s)) (pc' := 32) (As := [.int (iI (s - j))]) (st := [.int (iI (sumI (fun t => atV f 41 (s - (l + t))) (j - l)))]) h hF ⟨dN_addGoings_29, rfl⟩ kvN_50 (by have h0 := cR_atn X (S := nst S (aF f l u s)) (k := 77) rfl (n := 41) rfl (i := s - j) (by omega); rw [nst_78, aF_at _ _ _ _ (by omega)] at h0; exact h0) (by omega) rfl (by decide) ⟨_, _, rfl⟩ rfl (Nat.le_of_ble_eq_true rfl) rfl ?_
        refine gi_iadd (pc' := 33) h ⟨dN_addGoings_32, rfl⟩ ?_
        refine go_istore (L' := [.ref 72, .int (iI (l)), .int (iI (u)), .int (iI (s)), .int (iI ((sumI (fun t => atV f 41 (s - (l + t))) (j - l)) + (atV f 41 (s - j)))), .int (iI (j))]) (pc' := 35) h ⟨dN_addGoings_33, rfl⟩ (by decide) rfl rfl ?_
        refine gi_iinc (L' := [.ref 72, .int (iI (l)), .int (iI (u)), .int (iI (s)), .int (iI ((sumI (fun t => atV f 41 (s - (l + t))) (j - l)) + (atV f 41 (s - j)))), .int (iI (j + 1))]) (pc' := 38) h ⟨dN_addGoings_35, rfl⟩ rfl (by decide) rfl rfl ?_
        refine gi_goto (tgt := 13) h dN_addGoings_38 rfl ?_
        have g7 := ih (j + 1) (by omega) (by omega) (by omega)
        rw [show j + 1 - l = (j - l) + 1 by omega, sumI_s _ (by omega), show l + (j - l) = j by omega] at g7
        exact g7
  have outer : ∀ (n : Nat) (s : Int), s + 1 < n → -1 ≤ s → s ≤ 40 → ∀ (L0 : List Value), L0 <+: [.ref 72, .int (iI l), .int (iI u), .int (iI s)] → Go F 6 (mk (nst S (aF f l u s))) 0 0 3 [.ref 72, .int (iI l), .int (iI u), .int (iI s)] [] := by
    intro n
    induction n with
    | zero => intro s g4 g5 g6; exfalso; omega
    | succ n ih =>
      intro s g4 g5 g6 L0 hL0
      refine go_iload_n (pc' := 4) h ⟨dN_addGoings_3, rfl⟩ rfl ?_
      refine gi_if_lt (tgt := 57) (pc' := 7) h dN_addGoings_4 rfl rfl (by omega) (fun c4 => ?_) (fun c4 => ?_)
      · exact gs_vret h hE dN_addGoings_57 (by rw [show s = -1 by omega])
      · refine gi_iconst (pc' := 8) h ⟨dN_addGoings_7, rfl⟩ ?_
        refine go_istore (L' := [.ref 72, .int (iI (l)), .int (iI (u)), .int (iI (s)), .int (iI (0))]) (pc' := 10) h ⟨dN_addGoings_8, rfl⟩ (by decide) rfl rfl ?_
        refine go_iload_n (pc' := 11) h ⟨dN_addGoings_10, rfl⟩ rfl ?_
        refine go_istore (L' := [.ref 72, .int (iI (l)), .int (iI (u)), .int (iI (s)), .int (iI (0)), .int (iI (l))]) (pc' := 13) h ⟨dN_addGoings_11, rfl⟩ (by decide) rfl rfl ?_
        have h0 := inner s (by omega) (by omega) ?_ 12 l (by omega) (by omega) (by omega)
        · rw [Int.sub_self, sumI_0] at h0
          exact h0
        intro v hv
        refine go_aload_n (pc' := 42) h ⟨dN_addGoings_41, rfl⟩ rfl ?_
        refine gs_get (v := .ref 77) (pc' := 45) h ⟨dN_addGoings_42, rfl⟩ fgN_23 rfl (by decide) (rfl) ?_
        refine go_iload_n (pc' := 46) h ⟨dN_addGoings_45, rfl⟩ rfl ?_
        refine go_iload (pc' := 48) h ⟨dN_addGoings_46, rfl⟩ rfl ?_
        refine gd_callVV (E := rput (nst S (aF f l u s)) 77 s v) (pc' := 51) (As := [.int (iI (s)), .int (iI (v))]) (st := []) h hF ⟨dN_addGoings_48, rfl⟩ kvN_32 (cR_put X rfl (by omega)) (by omega) rfl (by decide) ⟨_, _, rfl⟩ rfl (Nat.le_of_ble_eq_true rfl) rfl ?_
        refine gi_iinc (L' := [.ref 72, .int (iI (l)), .int (iI (u)), .int (iI (s + (-1))), .int (iI (v)), .int (iI (u + 1))]) (pc' := 54) h ⟨dN_addGoings_51, rfl⟩ rfl (by decide) rfl rfl ?_
        refine gi_goto (tgt := 3) h dN_addGoings_54 rfl ?_
        rw [hv, rput_in _ (show 0 ≤ s ∧ s < (ln (77 + 1) : Int) from ⟨by omega, by show s < 41; omega⟩), pt_aset, show (77 + 1 : Nat) = 78 from rfl, nst_78, nst_aset, aF_s _ _ _ (by omega)]
        refine Go.cut [.ref 72, .int (iI l), .int (iI u), .int (iI (s + -1))] 4 rfl ?_
        exact ih (s + -1) (by omega) (by omega) (by omega) _ (List.prefix_refl _)
  refine gi_bipush (pc' := 2) h ⟨dN_addGoings_0, rfl⟩ rfl ?_
  refine go_istore_n (L' := [.ref 72, .int (iI (l)), .int (iI (u)), .int (iI (40))]) (pc' := 3) h ⟨dN_addGoings_2, rfl⟩ (by decide) rfl rfl ?_
  have h0 := outer 42 40 (by omega) (by omega) (by omega) _ (List.prefix_refl _)
  rw [aF_0] at h0
  exact h0
set_option maxRecDepth 4000 in
theorem cN_drop (X : XT) {S : Sg} {f : Int → Int} {x : Int} (hx : 0 ≤ x ∧ x ≤ 100) (hz : 0 ≤ S.1 75 1 ∧ S.1 75 1 ≤ 6) (hc : ∀ i : Int, 0 ≤ i → i < S.1 75 1 → 0 ≤ S.1 74 i ∧ S.1 74 i ≤ 100) (hw : ∀ i : Int, 0 ≤ i → i < S.1 75 1 → 0 ≤ S.1 76 i ∧ S.1 76 i ≤ 40) : Ctr X 2 yN_dropUnlikeSeen bN_dropUnlikeSeen 3 none [.ref 72, .int (iI (x))] (mk (nst S f)) (PV (fun S' => S' = nst S (dF (S.1 74) (S.1 76) x f (S.1 75 1).toNat))) 0 0 := by
  refine Ctr.ofS (by decide) rfl (Nat.le_of_ble_eq_true rfl) (fun F h hF hE => ?_)
  have loop : ∀ (n : Nat) (j : Nat), 7 < j + n → (j : Int) ≤ S.1 75 1 → Go F 3 (mk (nst S (dF (S.1 74) (S.1 76) x f j))) 0 0 2 [.ref 72, .int (iI x), .int (iI (j : Int))] [] := by
    intro n
    induction n with
    | zero => intro j g4 g6; exfalso; omega
    | succ n ih =>
      intro j g4 g6
      refine go_iload_n (pc' := 3) h ⟨dN_dropUnlikeSeen_2, rfl⟩ rfl ?_
      refine go_aload_n (pc' := 4) h ⟨dN_dropUnlikeSeen_3, rfl⟩ rfl ?_
      refine gs_get (v := .ref 75) (pc' := 7) h ⟨dN_dropUnlikeSeen_4, rfl⟩ fgN_20 rfl (by decide) (rfl) ?_
      refine gd_callVI (e := S.1 75 1) (E := nst S (dF (S.1 74) (S.1 76) x f j)) (pc' := 10) (As := []) (st := [.int (iI ((j : Int)))]) h hF ⟨dN_dropUnlikeSeen_7, rfl⟩ kvN_54 (by have h0 := cR_size X (S := nst S (dF (S.1 74) (S.1 76) x f j)) (k := 75) rfl; rw [nst_ne _ _ (by decide) (by decide)] at h0; exact h0) (by omega) rfl (by decide) ⟨_, _, rfl⟩ rfl (Nat.le_of_ble_eq_true rfl) rfl ?_
      refine gi_icmp_ge (tgt := 43) (pc' := 13) h dN_dropUnlikeSeen_10 rfl rfl (by omega) (fun c10 => ?_) (fun c10 => ?_)
      · exact gs_vret h hE dN_dropUnlikeSeen_43 (by rw [show (S.1 75 1).toNat = j by omega])
      · refine go_aload_n (pc' := 14) h ⟨dN_dropUnlikeSeen_13, rfl⟩ rfl ?_
        refine gs_get (v := .ref 73) (pc' := 17) h ⟨dN_dropUnlikeSeen_14, rfl⟩ fgN_14 rfl (by decide) (rfl) ?_
        refine go_iload_n (pc' := 18) h ⟨dN_dropUnlikeSeen_17, rfl⟩ rfl ?_
        refine gd_callVI (e := S.1 74 (j : Int)) (E := nst S (dF (S.1 74) (S.1 76) x f j)) (pc' := 21) (As := [.int (iI ((j : Int)))]) (st := []) h hF ⟨dN_dropUnlikeSeen_18, rfl⟩ kvN_50 (by have h0 := cR_ati X (S := nst S (dF (S.1 74) (S.1 76) x f j)) (k := 73) rfl (n := 6) rfl (i := (j : Int)) (by omega); rw [show (73 + 1 : Nat) = 74 from rfl, nst_ne _ _ (by decide) (by decide)] at h0; exact h0) (by omega) rfl (by decide) ⟨_, _, rfl⟩ rfl (Nat.le_of_ble_eq_true rfl) rfl ?_
        have g8 := hc j (by omega) (by omega)
        refine go_iload_n (pc' := 22) h ⟨dN_dropUnlikeSeen_21, rfl⟩ rfl ?_
        refine gi_icmp_ne (tgt := 37) (pc' := 25) h dN_dropUnlikeSeen_22 rfl rfl (by omega) (fun c22 => ?_) (fun c22 => ?_)
        · refine gi_iinc (L' := [.ref 72, .int (iI (x)), .int (iI ((j : Int) + 1))]) (pc' := 40) h ⟨dN_dropUnlikeSeen_37, rfl⟩ rfl (by decide) rfl rfl ?_
          refine gi_goto (tgt := 2) h dN_dropUnlikeSeen_40 rfl ?_
          have g10 := ih (j + 1) (by omega) (by omega)
          rw [show dF (S.1 74) (S.1 76) x f (j + 1) = _ from rfl, dF, if_neg (by omega)] at g10
          exact g10
        · refine go_aload_n (pc' := 26) h ⟨dN_dropUnlikeSeen_25, rfl⟩ rfl ?_
          refine go_aload_n (pc' := 27) h ⟨dN_dropUnlikeSeen_26, rfl⟩ rfl ?_
          refine gs_get (v := .ref 75) (pc' := 30) h ⟨dN_dropUnlikeSeen_27, rfl⟩ fgN_20 rfl (by decide) (rfl) ?_
          refine go_iload_n (pc' := 31) h ⟨dN_dropUnlikeSeen_30, rfl⟩ rfl ?_
          refine gd_callVI (e := S.1 76 (j : Int)) (E := nst S (dF (S.1 74) (S.1 76) x f j)) (pc' := 34) (As := [.int (iI ((j : Int)))]) (st := [.ref 72]) h hF ⟨dN_dropUnlikeSeen_31, rfl⟩ kvN_50 (by have h0 := cR_ati X (S := nst S (dF (S.1 74) (S.1 76) x f j)) (k := 75) rfl (n := 6) rfl (i := (j : Int)) (by omega); rw [show (75 + 1 : Nat) = 76 from rfl, nst_ne _ _ (by decide) (by decide)] at h0; exact h0) (by omega) rfl (by decide) ⟨_, _, rfl⟩ rfl (Nat.le_of_ble_eq_true rfl) rfl ?_
          have g9 := hw j (by omega) (by omega)
          refine gd_callVV (E := nst S (keepF (dF (S.1 74) (S.1 76) x f j) (S.1 76 (j : Int)))) (pc' := 37) (As := [.int (iI (S.1 76 (j : Int)))]) (st := []) h hF ⟨dN_dropUnlikeSeen_34, rfl⟩ kvN_57 (cN_keepOnly X (by omega)) (by omega) rfl (by decide) ⟨_, _, rfl⟩ rfl (Nat.le_of_ble_eq_true rfl) rfl ?_
          refine gi_iinc (L' := [.ref 72, .int (iI (x)), .int (iI ((j : Int) + 1))]) (pc' := 40) h ⟨dN_dropUnlikeSeen_37, rfl⟩ rfl (by decide) rfl rfl ?_
          refine gi_goto (tgt := 2) h dN_dropUnlikeSeen_40 rfl ?_
          have g10 := ih (j + 1) (by omega) (by omega)
          rw [show dF (S.1 74) (S.1 76) x f (j + 1) = _ from rfl, dF, if_pos (by omega)] at g10
          exact g10
  refine gi_iconst (pc' := 1) h ⟨dN_dropUnlikeSeen_0, rfl⟩ ?_
  refine go_istore_n (L' := [.ref 72, .int (iI (x)), .int (iI (0))]) (pc' := 2) h ⟨dN_dropUnlikeSeen_1, rfl⟩ (by decide) rfl rfl ?_
  exact loop 8 0 (by omega) (by omega)
