/-! LadderSurvey, at 0: what holds of its half of the world -/
def CI (S : Sg) (p q : Nat) : Prop := S.2.2 = (p, q) ∧ ((p = 4 ∧ q = 17) ∨ (p = 17 ∧ q = 4)) ∧ Wr S ∧ planOk S p ∧ (2 ≤ S.1 p 7 ∧ S.1 p 7 ≤ 9) ∧ ltOk S ∧ (∀ l : Int, 0 ≤ l → l ≤ 5 → 0 ≤ markP S p l ∧ markP S p l ≤ 100) ∧ (∀ t : Int, 0 ≤ t → t < 4 → (0 ≤ S.1 32 t ∧ S.1 32 t ≤ 100) ∧ (S.1 34 t = 0 ∨ S.1 34 t = 1)) ∧ (∀ m : Int, 0 ≤ m → m < 100 → 0 ≤ S.1 36 m ∧ S.1 36 m ≤ 9999) ∧ (∀ m : Int, 0 ≤ m → m < 100 → 0 ≤ S.1 38 m ∧ S.1 38 m ≤ 9999) ∧ (∀ i : Int, 0 ≤ i → i < S.1 39 1 → 0 ≤ S.1 40 i ∧ S.1 40 i ≤ 100) ∧ (∀ i : Int, 0 ≤ i → i < S.1 66 1 → (0 ≤ S.1 67 i ∧ S.1 67 i ≤ 3) ∧ (0 ≤ S.1 69 i ∧ S.1 69 i ≤ 3) ∧ (0 ≤ S.1 71 i ∧ S.1 71 i ≤ 100)) ∧ seenOk S ∧ measOk S ∧ (∀ i : Int, 0 ≤ i → i < 2 → S.1 64 i = 0 ∨ S.1 64 i = 1)
theorem sum4_bd {S : Sg} (h : ∀ t : Int, 0 ≤ t → t < 4 → (0 ≤ S.1 32 t ∧ S.1 32 t ≤ 100) ∧ (S.1 34 t = 0 ∨ S.1 34 t = 1)) : 0 ≤ sumI (S.1 34) 4 ∧ sumI (S.1 34) 4 ≤ 4 := by
  have := sumI_bd (f := S.1 34) (B := 1) (n := 4) (by omega) (fun i i1 i2 => by have := (h i i1 i2).2; omega)
  omega
def ivP (S : Sg) (p : Nat) : Int := sumI (fun s => dvU (S.1 (p + 2) s) (S.1 p 6)) (S.1 (p + 1) 1)
theorem ivP_bd {S : Sg} {p : Nat} (h : planOk S p) : 0 ≤ ivP S p ∧ ivP S p ≤ 100 := by
  obtain ⟨o1, o2, o3, o4, o5, o6, o7⟩ := h
  have := sumI_bd (f := fun s => dvU (S.1 (p + 2) s) (S.1 p 6)) (B := 20) (n := S.1 (p + 1) 1) o1.1 (fun i i1 i2 => by
    have h1 := o4 i i1 i2
    have h2 := dvU_bd (a := S.1 (p + 2) i) (q := S.1 p 6) (by omega) (by omega)
    omega)
  unfold ivP
  omega
def xType (S : Sg) (p : Nat) (x : Int) : Int × Sg := if x < 0 ∨ 255 < x then (-1, S) else if 120 ≤ S.1 2 1 then (-3, S) else ((rpush S 2 x).1 2 1, rpush S 2 x)
set_option maxRecDepth 4000 in
theorem cX_type (X : XT) {S : Sg} {p q : Nat} (hC : CI S p q) {x : Int} (hx : -2147483648 ≤ x ∧ x ≤ 2147483647) : Ctr X 6 yX_type bX_type 2 (some .int) [.ref 0, .int (iI (x))] (mk S) (PI (fun r S' => r = (xType S p x).1 ∧ S' = (xType S p x).2)) 0 0 := by
  refine Ctr.ofS (by decide) rfl (Nat.le_of_ble_eq_true rfl) (fun F h hF hE => ?_)
  obtain ⟨epq, opq, hW, hok, cb, hlt, hmk, hsc, hwl, hwr, hth, hdd, hse, hme, hke⟩ := id hC
  have hp : p = 4 ∨ p = 17 := by omega
  have hk := kd_p hp
  obtain ⟨k1, k3, k5, k7, k9, k11, l2, l4, l6, l8, l10, l12⟩ := plan_ok hk
  obtain ⟨o1, o2, o3, o4, o5, o6, o7⟩ := id hok
  have z39 : 0 ≤ S.1 39 1 ∧ S.1 39 1 ≤ 6 := hW 39 rfl
  have z66 : 0 ≤ S.1 66 1 ∧ S.1 66 1 ≤ 10 := hW 66 rfl
  have z2 : 0 ≤ S.1 2 1 ∧ S.1 2 1 ≤ 120 := hW 2 rfl
  have z75 : 0 ≤ S.1 75 1 ∧ S.1 75 1 ≤ 6 := hW 75 rfl
  have z84 : 0 ≤ S.1 84 1 ∧ S.1 84 1 ≤ 6 := hW 84 rfl
  refine go_iload_n (pc' := 1) h ⟨dX_type_0, rfl⟩ rfl ?_
  refine gi_if_lt (tgt := 11) (pc' := 4) h dX_type_1 rfl rfl (by omega) (fun c1 => ?_) (fun c1 => ?_)
  · refine gi_iconst (pc' := 12) h ⟨dX_type_11, rfl⟩ ?_
    exact gs_iret h hE dX_type_12 (by unfold xType; rw [if_pos (by omega)]; exact ⟨rfl, rfl⟩)
  · refine go_iload_n (pc' := 5) h ⟨dX_type_4, rfl⟩ rfl ?_
    refine gi_sipush (pc' := 8) h ⟨dX_type_5, rfl⟩ rfl ?_
    refine gi_icmp_le (tgt := 13) (pc' := 11) h dX_type_8 rfl rfl (by omega) (fun c8 => ?_) (fun c8 => ?_)
    · refine go_aload_n (pc' := 14) h ⟨dX_type_13, rfl⟩ rfl ?_
      refine gs_get (v := .ref 1) (pc' := 17) h ⟨dX_type_14, rfl⟩ fgX_12 rfl (by decide) (rfl) ?_
      refine gs_get (v := .ref 2) (pc' := 20) h ⟨dX_type_17, rfl⟩ fgX_69 rfl (by decide) (rfl) ?_
      refine gd_callVI (e := if (120 : Int) ≤ S.1 2 1 then 1 else 0) (E := S) (pc' := 23) (As := []) (st := []) h hF ⟨dX_type_20, rfl⟩ kvX_72 (cR_isFull X rfl (hW 2 rfl)) (by omega) rfl (by decide) ⟨_, _, rfl⟩ rfl (Nat.le_of_ble_eq_true rfl) rfl ?_
      refine gi_if_eq (tgt := 29) (pc' := 26) h dX_type_23 rfl rfl (by split <;> omega) (fun c23 => ?_) (fun c23 => ?_)
      · have c23 := b0 c23
        refine go_aload_n (pc' := 30) h ⟨dX_type_29, rfl⟩ rfl ?_
        refine gs_get (v := .ref 1) (pc' := 33) h ⟨dX_type_30, rfl⟩ fgX_12 rfl (by decide) (rfl) ?_
        refine gs_get (v := .ref 2) (pc' := 36) h ⟨dX_type_33, rfl⟩ fgX_69 rfl (by decide) (rfl) ?_
        refine go_iload_n (pc' := 37) h ⟨dX_type_36, rfl⟩ rfl ?_
        refine gd_callVV (E := rpush S 2 x) (pc' := 40) (As := [.int (iI (x))]) (st := []) h hF ⟨dX_type_37, rfl⟩ kvX_76 (cR_push X rfl (hW 2 rfl)) (by omega) rfl (by decide) ⟨_, _, rfl⟩ rfl (Nat.le_of_ble_eq_true rfl) rfl ?_
        refine go_aload_n (pc' := 41) h ⟨dX_type_40, rfl⟩ rfl ?_
        refine gs_get (v := .ref 1) (pc' := 44) h ⟨dX_type_41, rfl⟩ fgX_12 rfl (by decide) (rfl) ?_
        refine gs_get (v := .ref 2) (pc' := 47) h ⟨dX_type_44, rfl⟩ fgX_69 rfl (by decide) (rfl) ?_
        refine gd_callVI (e := (rpush S 2 x).1 2 1) (E := rpush S 2 x) (pc' := 50) (As := []) (st := []) h hF ⟨dX_type_47, rfl⟩ kvX_79 (cR_size X rfl) (by omega) rfl (by decide) ⟨_, _, rfl⟩ rfl (Nat.le_of_ble_eq_true rfl) rfl ?_
        exact gs_iret h hE dX_type_50 (by unfold xType; rw [if_neg (by omega), if_neg (by omega)]; exact ⟨rfl, rfl⟩)
      · have c23 := b1 c23
        refine gi_bipush (pc' := 28) h ⟨dX_type_26, rfl⟩ rfl ?_
        exact gs_iret h hE dX_type_28 (by unfold xType; rw [if_neg (by omega), if_pos (by omega)]; exact ⟨rfl, rfl⟩)
    · refine gi_iconst (pc' := 12) h ⟨dX_type_11, rfl⟩ ?_
      exact gs_iret h hE dX_type_12 (by unfold xType; rw [if_pos (by omega)]; exact ⟨rfl, rfl⟩)
def xClear (S : Sg) (p : Nat) : Int × Sg := (S.1 2 1, rempty S 2)
set_option maxRecDepth 4000 in
theorem cX_clear (X : XT) {S : Sg} {p q : Nat} (hC : CI S p q) : Ctr X 6 yX_clear bX_clear 2 (some .int) [.ref 0] (mk S) (PI (fun r S' => r = (xClear S p).1 ∧ S' = (xClear S p).2)) 0 0 := by
  refine Ctr.ofS (by decide) rfl (Nat.le_of_ble_eq_true rfl) (fun F h hF hE => ?_)
  obtain ⟨epq, opq, hW, hok, cb, hlt, hmk, hsc, hwl, hwr, hth, hdd, hse, hme, hke⟩ := id hC
  have hp : p = 4 ∨ p = 17 := by omega
  have hk := kd_p hp
  obtain ⟨k1, k3, k5, k7, k9, k11, l2, l4, l6, l8, l10, l12⟩ := plan_ok hk
  obtain ⟨o1, o2, o3, o4, o5, o6, o7⟩ := id hok
  have z39 : 0 ≤ S.1 39 1 ∧ S.1 39 1 ≤ 6 := hW 39 rfl
  have z66 : 0 ≤ S.1 66 1 ∧ S.1 66 1 ≤ 10 := hW 66 rfl
  have z2 : 0 ≤ S.1 2 1 ∧ S.1 2 1 ≤ 120 := hW 2 rfl
  have z75 : 0 ≤ S.1 75 1 ∧ S.1 75 1 ≤ 6 := hW 75 rfl
  have z84 : 0 ≤ S.1 84 1 ∧ S.1 84 1 ≤ 6 := hW 84 rfl
  refine go_aload_n (pc' := 1) h ⟨dX_clear_0, rfl⟩ rfl ?_
  refine gs_get (v := .ref 1) (pc' := 4) h ⟨dX_clear_1, rfl⟩ fgX_12 rfl (by decide) (rfl) ?_
  refine gs_get (v := .ref 2) (pc' := 7) h ⟨dX_clear_4, rfl⟩ fgX_69 rfl (by decide) (rfl) ?_
  refine gd_callVI (e := S.1 2 1) (E := S) (pc' := 10) (As := []) (st := []) h hF ⟨dX_clear_7, rfl⟩ kvX_79 (cR_size X rfl) (by omega) rfl (by decide) ⟨_, _, rfl⟩ rfl (Nat.le_of_ble_eq_true rfl) rfl ?_
  refine go_istore_n (L' := [.ref 0, .int (iI (S.1 2 1))]) (pc' := 11) h ⟨dX_clear_10, rfl⟩ (by decide) rfl rfl ?_
  refine go_aload_n (pc' := 12) h ⟨dX_clear_11, rfl⟩ rfl ?_
  refine gs_get (v := .ref 1) (pc' := 15) h ⟨dX_clear_12, rfl⟩ fgX_12 rfl (by decide) (rfl) ?_
  refine gs_get (v := .ref 2) (pc' := 18) h ⟨dX_clear_15, rfl⟩ fgX_69 rfl (by decide) (rfl) ?_
  refine gd_callVV (E := rempty S 2) (pc' := 21) (As := []) (st := []) h hF ⟨dX_clear_18, rfl⟩ kvX_83 (cR_empty X rfl) (by omega) rfl (by decide) ⟨_, _, rfl⟩ rfl (Nat.le_of_ble_eq_true rfl) rfl ?_
  refine go_iload_n (pc' := 22) h ⟨dX_clear_21, rfl⟩ rfl ?_
  exact gs_iret h hE dX_clear_22 (⟨rfl, rfl⟩)
def xStretch (S : Sg) (p : Nat) (x y : Int) : Int × Sg := if ¬ (0 ≤ x ∧ x < S.1 (p + 1) 1) then (-1000000, S) else if y = 0 then (S.1 (p + 2) x, S) else if y = 1 then (S.1 (p + 4) x, S) else if y = 2 then (S.1 (p + 6) x, S) else if y = 3 then (markP S p (x + 1), S) else (-1000000, S)
set_option maxRecDepth 4000 in
theorem cX_stretch (X : XT) {S : Sg} {p q : Nat} (hC : CI S p q) {x : Int} (hx : -2147483648 ≤ x ∧ x ≤ 2147483647) {y : Int} (hy : -2147483648 ≤ y ∧ y ≤ 2147483647) : Ctr X 6 yX_stretch bX_stretch 3 (some .int) [.ref 0, .int (iI (x)), .int (iI (y))] (mk S) (PI (fun r S' => r = (xStretch S p x y).1 ∧ S' = (xStretch S p x y).2)) 0 0 := by
  refine Ctr.ofS (by decide) rfl (Nat.le_of_ble_eq_true rfl) (fun F h hF hE => ?_)
  obtain ⟨epq, opq, hW, hok, cb, hlt, hmk, hsc, hwl, hwr, hth, hdd, hse, hme, hke⟩ := id hC
  have hp : p = 4 ∨ p = 17 := by omega
  have hk := kd_p hp
  obtain ⟨k1, k3, k5, k7, k9, k11, l2, l4, l6, l8, l10, l12⟩ := plan_ok hk
  obtain ⟨o1, o2, o3, o4, o5, o6, o7⟩ := id hok
  have z39 : 0 ≤ S.1 39 1 ∧ S.1 39 1 ≤ 6 := hW 39 rfl
  have z66 : 0 ≤ S.1 66 1 ∧ S.1 66 1 ≤ 10 := hW 66 rfl
  have z2 : 0 ≤ S.1 2 1 ∧ S.1 2 1 ≤ 120 := hW 2 rfl
  have z75 : 0 ≤ S.1 75 1 ∧ S.1 75 1 ≤ 6 := hW 75 rfl
  have z84 : 0 ≤ S.1 84 1 ∧ S.1 84 1 ≤ 6 := hW 84 rfl
  refine go_aload_n (pc' := 1) h ⟨dX_stretch_0, rfl⟩ rfl ?_
  refine gs_get (v := .ref p) (pc' := 4) h ⟨dX_stretch_1, rfl⟩ fgX_19 rfl (by decide) (by show (fl _ _ S.2.2 0 7)[1]? = _; rw [epq]; rfl) ?_
  refine go_iload_n (pc' := 5) h ⟨dX_stretch_4, rfl⟩ rfl ?_
  refine gd_callVI (e := if 0 ≤ x ∧ x < S.1 (p + 1) 1 then 1 else 0) (E := S) (pc' := 8) (As := [.int (iI (x))]) (st := []) h hF ⟨dX_stretch_5, rfl⟩ kvX_96 (cP_hasStretch X hk hok (by omega)) (by omega) hk (by decide) ⟨_, _, rfl⟩ rfl (Nat.le_of_ble_eq_true rfl) rfl ?_
  refine gi_if_ne (tgt := 14) (pc' := 11) h dX_stretch_8 rfl rfl (by split <;> omega) (fun c8 => ?_) (fun c8 => ?_)
  · have c8 := b1 c8
    refine go_iload_n (pc' := 15) h ⟨dX_stretch_14, rfl⟩ rfl ?_
    rcases (show (y < 0 ∨ 3 < y) ∨ y = 0 ∨ y = 1 ∨ y = 2 ∨ y = 3 by omega) with c15 | c15 | c15 | c15 | c15
    · refine gi_tabOut (tgt := 91) h dX_stretch_15 (by omega) c15 rfl ?_
      refine gi_ldc (n := -1000000) (pc' := 93) h ⟨dX_stretch_91, rfl⟩ csX_100 ?_
      exact gs_iret h hE dX_stretch_93 (by unfold xStretch; rw [if_neg (by omega), if_neg (by omega), if_neg (by omega), if_neg (by omega), if_neg (by omega)]; exact ⟨rfl, rfl⟩)
    · rw [c15]
      refine gi_tabIn (tgt := 44) (a := 0) h dX_stretch_15 (by decide) (by decide) rfl rfl ?_
      refine go_aload_n (pc' := 45) h ⟨dX_stretch_44, rfl⟩ rfl ?_
      refine gs_get (v := .ref p) (pc' := 48) h ⟨dX_stretch_45, rfl⟩ fgX_19 rfl (by decide) (by show (fl _ _ S.2.2 0 7)[1]? = _; rw [epq]; rfl) ?_
      refine gs_get (v := .ref (p + 1)) (pc' := 51) h ⟨dX_stretch_48, rfl⟩ fgX_101 hk (by decide) (rfl) ?_
      refine go_iload_n (pc' := 52) h ⟨dX_stretch_51, rfl⟩ rfl ?_
      refine gd_callVI (e := S.1 (p + 2) x) (E := S) (pc' := 55) (As := [.int (iI (x))]) (st := []) h hF ⟨dX_stretch_52, rfl⟩ kvX_104 (cR_ati X (n := 5) k1 l2 (by omega)) (by omega) k1 (by decide) ⟨_, _, rfl⟩ rfl (Nat.le_of_ble_eq_true rfl) rfl ?_
      exact gs_iret h hE dX_stretch_55 (by unfold xStretch; rw [if_neg (by omega), if_pos (by omega)]; exact ⟨rfl, rfl⟩)
    · rw [c15]
      refine gi_tabIn (tgt := 56) (a := 1) h dX_stretch_15 (by decide) (by decide) rfl rfl ?_
      refine go_aload_n (pc' := 57) h ⟨dX_stretch_56, rfl⟩ rfl ?_
      refine gs_get (v := .ref p) (pc' := 60) h ⟨dX_stretch_57, rfl⟩ fgX_19 rfl (by decide) (by show (fl _ _ S.2.2 0 7)[1]? = _; rw [epq]; rfl) ?_
      refine gs_get (v := .ref (p + 3)) (pc' := 63) h ⟨dX_stretch_60, rfl⟩ fgX_108 hk (by decide) (rfl) ?_
      refine go_iload_n (pc' := 64) h ⟨dX_stretch_63, rfl⟩ rfl ?_
      refine gd_callVI (e := S.1 (p + 4) x) (E := S) (pc' := 67) (As := [.int (iI (x))]) (st := []) h hF ⟨dX_stretch_64, rfl⟩ kvX_104 (cR_ati X (n := 5) k3 l4 (by omega)) (by omega) k3 (by decide) ⟨_, _, rfl⟩ rfl (Nat.le_of_ble_eq_true rfl) rfl ?_
      exact gs_iret h hE dX_stretch_67 (by unfold xStretch; rw [if_neg (by omega), if_neg (by omega), if_pos (by omega)]; exact ⟨rfl, rfl⟩)
    · rw [c15]
      refine gi_tabIn (tgt := 68) (a := 2) h dX_stretch_15 (by decide) (by decide) rfl rfl ?_
      refine go_aload_n (pc' := 69) h ⟨dX_stretch_68, rfl⟩ rfl ?_
      refine gs_get (v := .ref p) (pc' := 72) h ⟨dX_stretch_69, rfl⟩ fgX_19 rfl (by decide) (by show (fl _ _ S.2.2 0 7)[1]? = _; rw [epq]; rfl) ?_
      refine gs_get (v := .ref (p + 5)) (pc' := 75) h ⟨dX_stretch_72, rfl⟩ fgX_111 hk (by decide) (rfl) ?_
      refine go_iload_n (pc' := 76) h ⟨dX_stretch_75, rfl⟩ rfl ?_
      refine gd_callVI (e := S.1 (p + 6) x) (E := S) (pc' := 79) (As := [.int (iI (x))]) (st := []) h hF ⟨dX_stretch_76, rfl⟩ kvX_104 (cR_ati X (n := 5) k5 l6 (by omega)) (by omega) k5 (by decide) ⟨_, _, rfl⟩ rfl (Nat.le_of_ble_eq_true rfl) rfl ?_
      exact gs_iret h hE dX_stretch_79 (by unfold xStretch; rw [if_neg (by omega), if_neg (by omega), if_neg (by omega), if_pos (by omega)]; exact ⟨rfl, rfl⟩)
    · rw [c15]
      refine gi_tabIn (tgt := 80) (a := 3) h dX_stretch_15 (by decide) (by decide) rfl rfl ?_
      refine go_aload_n (pc' := 81) h ⟨dX_stretch_80, rfl⟩ rfl ?_
      refine gs_get (v := .ref p) (pc' := 84) h ⟨dX_stretch_81, rfl⟩ fgX_19 rfl (by decide) (by show (fl _ _ S.2.2 0 7)[1]? = _; rw [epq]; rfl) ?_
      refine go_iload_n (pc' := 85) h ⟨dX_stretch_84, rfl⟩ rfl ?_
      refine gi_iconst (pc' := 86) h ⟨dX_stretch_85, rfl⟩ ?_
      refine gi_iadd (pc' := 87) h ⟨dX_stretch_86, rfl⟩ ?_
      refine gd_callVI (e := markP S p (x + 1)) (E := S) (pc' := 90) (As := [.int (iI (x + 1))]) (st := []) h hF ⟨dX_stretch_87, rfl⟩ kvX_114 (cP_mark X hk (by omega)) (by omega) hk (by decide) ⟨_, _, rfl⟩ rfl (Nat.le_of_ble_eq_true rfl) rfl ?_
      exact gs_iret h hE dX_stretch_90 (by unfold xStretch; rw [if_neg (by omega), if_neg (by omega), if_neg (by omega), if_neg (by omega), if_pos (by omega)]; exact ⟨rfl, rfl⟩)
  · have c8 := b0 c8
    refine gi_ldc (n := -1000000) (pc' := 13) h ⟨dX_stretch_11, rfl⟩ csX_100 ?_
    exact gs_iret h hE dX_stretch_13 (by unfold xStretch; rw [if_pos (by omega)]; exact ⟨rfl, rfl⟩)
def xTrav (S : Sg) (p : Nat) (x y : Int) : Int × Sg := if ¬ (0 ≤ x ∧ x < S.1 (p + 11) 1) then (-1, S) else if y = 0 then (S.1 (p + 12) x, S) else if y = 1 then (S.1 32 x, S) else if y = 2 then (S.1 34 x, S) else (-1, S)
set_option maxRecDepth 4000 in
theorem cX_traveller (X : XT) {S : Sg} {p q : Nat} (hC : CI S p q) {x : Int} (hx : -2147483648 ≤ x ∧ x ≤ 2147483647) {y : Int} (hy : -2147483648 ≤ y ∧ y ≤ 2147483647) : Ctr X 6 yX_traveller bX_traveller 3 (some .int) [.ref 0, .int (iI (x)), .int (iI (y))] (mk S) (PI (fun r S' => r = (xTrav S p x y).1 ∧ S' = (xTrav S p x y).2)) 0 0 := by
  refine Ctr.ofS (by decide) rfl (Nat.le_of_ble_eq_true rfl) (fun F h hF hE => ?_)
  obtain ⟨epq, opq, hW, hok, cb, hlt, hmk, hsc, hwl, hwr, hth, hdd, hse, hme, hke⟩ := id hC
  have hp : p = 4 ∨ p = 17 := by omega
  have hk := kd_p hp
  obtain ⟨k1, k3, k5, k7, k9, k11, l2, l4, l6, l8, l10, l12⟩ := plan_ok hk
  obtain ⟨o1, o2, o3, o4, o5, o6, o7⟩ := id hok
  have z39 : 0 ≤ S.1 39 1 ∧ S.1 39 1 ≤ 6 := hW 39 rfl
  have z66 : 0 ≤ S.1 66 1 ∧ S.1 66 1 ≤ 10 := hW 66 rfl
  have z2 : 0 ≤ S.1 2 1 ∧ S.1 2 1 ≤ 120 := hW 2 rfl
  have z75 : 0 ≤ S.1 75 1 ∧ S.1 75 1 ≤ 6 := hW 75 rfl
  have z84 : 0 ≤ S.1 84 1 ∧ S.1 84 1 ≤ 6 := hW 84 rfl
  refine go_aload_n (pc' := 1) h ⟨dX_traveller_0, rfl⟩ rfl ?_
  refine gs_get (v := .ref p) (pc' := 4) h ⟨dX_traveller_1, rfl⟩ fgX_19 rfl (by decide) (by show (fl _ _ S.2.2 0 7)[1]? = _; rw [epq]; rfl) ?_
  refine go_iload_n (pc' := 5) h ⟨dX_traveller_4, rfl⟩ rfl ?_
  refine gd_callVI (e := if 0 ≤ x ∧ x < S.1 (p + 11) 1 then 1 else 0) (E := S) (pc' := 8) (As := [.int (iI (x))]) (st := []) h hF ⟨dX_traveller_5, rfl⟩ kvX_117 (cP_hasTraveller X hk hok (by omega)) (by omega) hk (by decide) ⟨_, _, rfl⟩ rfl (Nat.le_of_ble_eq_true rfl) rfl ?_
  refine gi_if_ne (tgt := 13) (pc' := 11) h dX_traveller_8 rfl rfl (by split <;> omega) (fun c8 => ?_) (fun c8 => ?_)
  · have c8 := b1 c8
    refine go_iload_n (pc' := 14) h ⟨dX_traveller_13, rfl⟩ rfl ?_
    rcases (show (y < 0 ∨ 2 < y) ∨ y = 0 ∨ y = 1 ∨ y = 2 by omega) with c14 | c14 | c14 | c14
    · refine gi_tabOut (tgt := 76) h dX_traveller_14 (by omega) c14 rfl ?_
      refine gi_iconst (pc' := 77) h ⟨dX_traveller_76, rfl⟩ ?_
      exact gs_iret h hE dX_traveller_77 (by unfold xTrav; rw [if_neg (by omega), if_neg (by omega), if_neg (by omega), if_neg (by omega)]; exact ⟨rfl, rfl⟩)
    · rw [c14]
      refine gi_tabIn (tgt := 40) (a := 0) h dX_traveller_14 (by decide) (by decide) rfl rfl ?_
      refine go_aload_n (pc' := 41) h ⟨dX_traveller_40, rfl⟩ rfl ?_
      refine gs_get (v := .ref p) (pc' := 44) h ⟨dX_traveller_41, rfl⟩ fgX_19 rfl (by decide) (by show (fl _ _ S.2.2 0 7)[1]? = _; rw [epq]; rfl) ?_
      refine gs_get (v := .ref (p + 11)) (pc' := 47) h ⟨dX_traveller_44, rfl⟩ fgX_120 hk (by decide) (rfl) ?_
      refine go_iload_n (pc' := 48) h ⟨dX_traveller_47, rfl⟩ rfl ?_
      refine gd_callVI (e := S.1 (p + 12) x) (E := S) (pc' := 51) (As := [.int (iI (x))]) (st := []) h hF ⟨dX_traveller_48, rfl⟩ kvX_104 (cR_ati X (n := 4) k11 l12 (by omega)) (by omega) k11 (by decide) ⟨_, _, rfl⟩ rfl (Nat.le_of_ble_eq_true rfl) rfl ?_
      exact gs_iret h hE dX_traveller_51 (by unfold xTrav; rw [if_neg (by omega), if_pos (by omega)]; exact ⟨rfl, rfl⟩)
    · rw [c14]
      refine gi_tabIn (tgt := 52) (a := 1) h dX_traveller_14 (by decide) (by decide) rfl rfl ?_
      refine go_aload_n (pc' := 53) h ⟨dX_traveller_52, rfl⟩ rfl ?_
      refine gs_get (v := .ref 30) (pc' := 56) h ⟨dX_traveller_53, rfl⟩ fgX_29 rfl (by decide) (rfl) ?_
      refine gs_get (v := .ref 31) (pc' := 59) h ⟨dX_traveller_56, rfl⟩ fgX_123 rfl (by decide) (rfl) ?_
      refine go_iload_n (pc' := 60) h ⟨dX_traveller_59, rfl⟩ rfl ?_
      refine gd_callVI (e := S.1 32 x) (E := S) (pc' := 63) (As := [.int (iI (x))]) (st := []) h hF ⟨dX_traveller_60, rfl⟩ kvX_104 (cR_ati X (n := 4) rfl rfl (by omega)) (by omega) rfl (by decide) ⟨_, _, rfl⟩ rfl (Nat.le_of_ble_eq_true rfl) rfl ?_
      exact gs_iret h hE dX_traveller_63 (by unfold xTrav; rw [if_neg (by omega), if_neg (by omega), if_pos (by omega)]; exact ⟨rfl, rfl⟩)
    · rw [c14]
      refine gi_tabIn (tgt := 64) (a := 2) h dX_traveller_14 (by decide) (by decide) rfl rfl ?_
      refine go_aload_n (pc' := 65) h ⟨dX_traveller_64, rfl⟩ rfl ?_
      refine gs_get (v := .ref 30) (pc' := 68) h ⟨dX_traveller_65, rfl⟩ fgX_29 rfl (by decide) (rfl) ?_
      refine gs_get (v := .ref 33) (pc' := 71) h ⟨dX_traveller_68, rfl⟩ fgX_126 rfl (by decide) (rfl) ?_
      refine go_iload_n (pc' := 72) h ⟨dX_traveller_71, rfl⟩ rfl ?_
      refine gd_callVI (e := S.1 34 x) (E := S) (pc' := 75) (As := [.int (iI (x))]) (st := []) h hF ⟨dX_traveller_72, rfl⟩ kvX_104 (cR_ati X (n := 4) rfl rfl (by omega)) (by omega) rfl (by decide) ⟨_, _, rfl⟩ rfl (Nat.le_of_ble_eq_true rfl) rfl ?_
      exact gs_iret h hE dX_traveller_75 (by unfold xTrav; rw [if_neg (by omega), if_neg (by omega), if_neg (by omega), if_pos (by omega)]; exact ⟨rfl, rfl⟩)
  · have c8 := b0 c8
    refine gi_iconst (pc' := 12) h ⟨dX_traveller_11, rfl⟩ ?_
    exact gs_iret h hE dX_traveller_12 (by unfold xTrav; rw [if_pos (by omega)]; exact ⟨rfl, rfl⟩)
def xWear (S : Sg) (p : Nat) (x y : Int) : Int × Sg := if x < 0 ∨ 1 < x then (-1, S) else if ¬ (0 ≤ y ∧ y < S.1 (p + 9) 1) then (-1, S) else if x = 0 then (S.1 36 y, S) else (S.1 38 y, S)
theorem wear_sd {S : Sg} {p : Nat} {x y : Int} (hx : ¬ (x < 0 ∨ 1 < x)) (hy : ¬ ¬ (0 ≤ y ∧ y < S.1 (p + 9) 1)) : xWear S p x y = (sdF S x y, S) := by
  unfold xWear sdF
  rw [if_neg hx, if_neg hy]
  by_cases h0 : x = 0
  · rw [if_pos h0, if_pos h0]
  · rw [if_neg h0, if_neg h0]
set_option maxRecDepth 4000 in
theorem cX_wear (X : XT) {S : Sg} {p q : Nat} (hC : CI S p q) {x : Int} (hx : -2147483648 ≤ x ∧ x ≤ 2147483647) {y : Int} (hy : -2147483648 ≤ y ∧ y ≤ 2147483647) : Ctr X 6 yX_wear bX_wear 3 (some .int) [.ref 0, .int (iI (x)), .int (iI (y))] (mk S) (PI (fun r S' => r = (xWear S p x y).1 ∧ S' = (xWear S p x y).2)) 0 0 := by
  refine Ctr.ofS (by decide) rfl (Nat.le_of_ble_eq_true rfl) (fun F h hF hE => ?_)
  obtain ⟨epq, opq, hW, hok, cb, hlt, hmk, hsc, hwl, hwr, hth, hdd, hse, hme, hke⟩ := id hC
  have hp : p = 4 ∨ p = 17 := by omega
  have hk := kd_p hp
  obtain ⟨k1, k3, k5, k7, k9, k11, l2, l4, l6, l8, l10, l12⟩ := plan_ok hk
  obtain ⟨o1, o2, o3, o4, o5, o6, o7⟩ := id hok
  have z39 : 0 ≤ S.1 39 1 ∧ S.1 39 1 ≤ 6 := hW 39 rfl
  have z66 : 0 ≤ S.1 66 1 ∧ S.1 66 1 ≤ 10 := hW 66 rfl
  have z2 : 0 ≤ S.1 2 1 ∧ S.1 2 1 ≤ 120 := hW 2 rfl
  have z75 : 0 ≤ S.1 75 1 ∧ S.1 75 1 ≤ 6 := hW 75 rfl
  have z84 : 0 ≤ S.1 84 1 ∧ S.1 84 1 ≤ 6 := hW 84 rfl
  refine go_iload_n (pc' := 1) h ⟨dX_wear_0, rfl⟩ rfl ?_
  refine gi_if_lt (tgt := 20) (pc' := 4) h dX_wear_1 rfl rfl (by omega) (fun c1 => ?_) (fun c1 => ?_)
  · refine gi_iconst (pc' := 21) h ⟨dX_wear_20, rfl⟩ ?_
    exact gs_iret h hE dX_wear_21 (by unfold xWear; rw [if_pos (by omega)]; exact ⟨rfl, rfl⟩)
  · refine go_iload_n (pc' := 5) h ⟨dX_wear_4, rfl⟩ rfl ?_
    refine gi_iconst (pc' := 6) h ⟨dX_wear_5, rfl⟩ ?_
    refine gi_icmp_gt (tgt := 20) (pc' := 9) h dX_wear_6 rfl rfl (by omega) (fun c6 => ?_) (fun c6 => ?_)
    · refine gi_iconst (pc' := 21) h ⟨dX_wear_20, rfl⟩ ?_
      exact gs_iret h hE dX_wear_21 (by unfold xWear; rw [if_pos (by omega)]; exact ⟨rfl, rfl⟩)
    · refine go_aload_n (pc' := 10) h ⟨dX_wear_9, rfl⟩ rfl ?_
      refine gs_get (v := .ref p) (pc' := 13) h ⟨dX_wear_10, rfl⟩ fgX_19 rfl (by decide) (by show (fl _ _ S.2.2 0 7)[1]? = _; rw [epq]; rfl) ?_
      refine go_iload_n (pc' := 14) h ⟨dX_wear_13, rfl⟩ rfl ?_
      refine gd_callVI (e := if 0 ≤ y ∧ y < S.1 (p + 9) 1 then 1 else 0) (E := S) (pc' := 17) (As := [.int (iI (y))]) (st := []) h hF ⟨dX_wear_14, rfl⟩ kvX_129 (cP_hasThousand X hk hok (by omega)) (by omega) hk (by decide) ⟨_, _, rfl⟩ rfl (Nat.le_of_ble_eq_true rfl) rfl ?_
      refine gi_if_ne (tgt := 22) (pc' := 20) h dX_wear_17 rfl rfl (by split <;> omega) (fun c17 => ?_) (fun c17 => ?_)
      · have c17 := b1 c17
        refine go_aload_n (pc' := 23) h ⟨dX_wear_22, rfl⟩ rfl ?_
        refine gs_get (v := .ref 30) (pc' := 26) h ⟨dX_wear_23, rfl⟩ fgX_29 rfl (by decide) (rfl) ?_
        refine go_iload_n (pc' := 27) h ⟨dX_wear_26, rfl⟩ rfl ?_
        refine go_iload_n (pc' := 28) h ⟨dX_wear_27, rfl⟩ rfl ?_
        refine gd_callVI (e := sdF S x y) (E := S) (pc' := 31) (As := [.int (iI (x)), .int (iI (y))]) (st := []) h hF ⟨dX_wear_28, rfl⟩ kvX_132 (cS_wearOf X (by omega) (by omega) hwl hwr) (by omega) rfl (by decide) ⟨_, _, rfl⟩ rfl (Nat.le_of_ble_eq_true rfl) rfl ?_
        exact gs_iret h hE dX_wear_31 (by rw [wear_sd (by omega) (by omega)]; exact ⟨rfl, rfl⟩)
      · have c17 := b0 c17
        refine gi_iconst (pc' := 21) h ⟨dX_wear_20, rfl⟩ ?_
        exact gs_iret h hE dX_wear_21 (by unfold xWear; rw [if_neg (by omega), if_pos (by omega)]; exact ⟨rfl, rfl⟩)
def xThing (S : Sg) (p : Nat) (x : Int) : Int × Sg := if x < 0 ∨ 6 ≤ x then (-1, S) else if x < S.1 39 1 then (S.1 40 x, S) else (-9, S)
set_option maxRecDepth 4000 in
theorem cX_thing (X : XT) {S : Sg} {p q : Nat} (hC : CI S p q) {x : Int} (hx : -2147483648 ≤ x ∧ x ≤ 2147483647) : Ctr X 6 yX_thing bX_thing 2 (some .int) [.ref 0, .int (iI (x))] (mk S) (PI (fun r S' => r = (xThing S p x).1 ∧ S' = (xThing S p x).2)) 0 0 := by
  refine Ctr.ofS (by decide) rfl (Nat.le_of_ble_eq_true rfl) (fun F h hF hE => ?_)
  obtain ⟨epq, opq, hW, hok, cb, hlt, hmk, hsc, hwl, hwr, hth, hdd, hse, hme, hke⟩ := id hC
  have hp : p = 4 ∨ p = 17 := by omega
  have hk := kd_p hp
  obtain ⟨k1, k3, k5, k7, k9, k11, l2, l4, l6, l8, l10, l12⟩ := plan_ok hk
  obtain ⟨o1, o2, o3, o4, o5, o6, o7⟩ := id hok
  have z39 : 0 ≤ S.1 39 1 ∧ S.1 39 1 ≤ 6 := hW 39 rfl
  have z66 : 0 ≤ S.1 66 1 ∧ S.1 66 1 ≤ 10 := hW 66 rfl
  have z2 : 0 ≤ S.1 2 1 ∧ S.1 2 1 ≤ 120 := hW 2 rfl
  have z75 : 0 ≤ S.1 75 1 ∧ S.1 75 1 ≤ 6 := hW 75 rfl
  have z84 : 0 ≤ S.1 84 1 ∧ S.1 84 1 ≤ 6 := hW 84 rfl
  refine go_iload_n (pc' := 1) h ⟨dX_thing_0, rfl⟩ rfl ?_
  refine gi_if_lt (tgt := 10) (pc' := 4) h dX_thing_1 rfl rfl (by omega) (fun c1 => ?_) (fun c1 => ?_)
  · refine gi_iconst (pc' := 11) h ⟨dX_thing_10, rfl⟩ ?_
    exact gs_iret h hE dX_thing_11 (by unfold xThing; rw [if_pos (by omega)]; exact ⟨rfl, rfl⟩)
  · refine go_iload_n (pc' := 5) h ⟨dX_thing_4, rfl⟩ rfl ?_
    refine gi_bipush (pc' := 7) h ⟨dX_thing_5, rfl⟩ rfl ?_
    refine gi_icmp_lt (tgt := 12) (pc' := 10) h dX_thing_7 rfl rfl (by omega) (fun c7 => ?_) (fun c7 => ?_)
    · refine go_iload_n (pc' := 13) h ⟨dX_thing_12, rfl⟩ rfl ?_
      refine go_aload_n (pc' := 14) h ⟨dX_thing_13, rfl⟩ rfl ?_
      refine gs_get (v := .ref 30) (pc' := 17) h ⟨dX_thing_14, rfl⟩ fgX_29 rfl (by decide) (rfl) ?_
      refine gs_get (v := .ref 39) (pc' := 20) h ⟨dX_thing_17, rfl⟩ fgX_136 rfl (by decide) (rfl) ?_
      refine gd_callVI (e := S.1 39 1) (E := S) (pc' := 23) (As := []) (st := [.int (iI (x))]) h hF ⟨dX_thing_20, rfl⟩ kvX_79 (cR_size X rfl) (by omega) rfl (by decide) ⟨_, _, rfl⟩ rfl (Nat.le_of_ble_eq_true rfl) rfl ?_
      refine gi_icmp_ge (tgt := 40) (pc' := 26) h dX_thing_23 rfl rfl (by omega) (fun c23 => ?_) (fun c23 => ?_)
      · refine gi_bipush (pc' := 42) h ⟨dX_thing_40, rfl⟩ rfl ?_
        exact gs_iret h hE dX_thing_42 (by unfold xThing; rw [if_neg (by omega), if_neg (by omega)]; exact ⟨rfl, rfl⟩)
      · refine go_aload_n (pc' := 27) h ⟨dX_thing_26, rfl⟩ rfl ?_
        refine gs_get (v := .ref 30) (pc' := 30) h ⟨dX_thing_27, rfl⟩ fgX_29 rfl (by decide) (rfl) ?_
        refine gs_get (v := .ref 39) (pc' := 33) h ⟨dX_thing_30, rfl⟩ fgX_136 rfl (by decide) (rfl) ?_
        refine go_iload_n (pc' := 34) h ⟨dX_thing_33, rfl⟩ rfl ?_
        refine gd_callVI (e := S.1 40 x) (E := S) (pc' := 37) (As := [.int (iI (x))]) (st := []) h hF ⟨dX_thing_34, rfl⟩ kvX_104 (cR_ati X (n := 6) rfl rfl (by omega)) (by omega) rfl (by decide) ⟨_, _, rfl⟩ rfl (Nat.le_of_ble_eq_true rfl) rfl ?_
        refine gi_goto (tgt := 42) h dX_thing_37 rfl ?_
        exact gs_iret h hE dX_thing_42 (by unfold xThing; rw [if_neg (by omega), if_pos (by omega)]; exact ⟨rfl, rfl⟩)
    · refine gi_iconst (pc' := 11) h ⟨dX_thing_10, rfl⟩ ?_
      exact gs_iret h hE dX_thing_11 (by unfold xThing; rw [if_pos (by omega)]; exact ⟨rfl, rfl⟩)
def xNow (S : Sg) (p : Nat) (x : Int) : Int × Sg := if x = 0 then (S.1 (p + 9) 1, S) else if x = 1 then (S.1 39 1, S) else if x = 2 then (sumI (S.1 34) 4, S) else if x = 3 then (sumI (S.1 36) 100 + sumI (S.1 38) 100, S) else if x = 4 then (stF (S.1 (p + 10)) (S.1 (p + 9) 1) 102 0 (-9), S) else if x = 5 then (dvU (ivP S p) (S.1 p 7 - 1), S) else if x = 6 then (S.1 66 1, S) else (-1, S)
set_option maxRecDepth 4000 in
theorem cX_now (X : XT) {S : Sg} {p q : Nat} (hC : CI S p q) {x : Int} (hx : -2147483648 ≤ x ∧ x ≤ 2147483647) : Ctr X 6 yX_now bX_now 2 (some .int) [.ref 0, .int (iI (x))] (mk S) (PI (fun r S' => r = (xNow S p x).1 ∧ S' = (xNow S p x).2)) 0 0 := by
  refine Ctr.ofS (by decide) rfl (Nat.le_of_ble_eq_true rfl) (fun F h hF hE => ?_)
  obtain ⟨epq, opq, hW, hok, cb, hlt, hmk, hsc, hwl, hwr, hth, hdd, hse, hme, hke⟩ := id hC
  have hp : p = 4 ∨ p = 17 := by omega
  have hk := kd_p hp
  obtain ⟨k1, k3, k5, k7, k9, k11, l2, l4, l6, l8, l10, l12⟩ := plan_ok hk
  obtain ⟨o1, o2, o3, o4, o5, o6, o7⟩ := id hok
  have z39 : 0 ≤ S.1 39 1 ∧ S.1 39 1 ≤ 6 := hW 39 rfl
  have z66 : 0 ≤ S.1 66 1 ∧ S.1 66 1 ≤ 10 := hW 66 rfl
  have z2 : 0 ≤ S.1 2 1 ∧ S.1 2 1 ≤ 120 := hW 2 rfl
  have z75 : 0 ≤ S.1 75 1 ∧ S.1 75 1 ≤ 6 := hW 75 rfl
  have z84 : 0 ≤ S.1 84 1 ∧ S.1 84 1 ≤ 6 := hW 84 rfl
  refine go_iload_n (pc' := 1) h ⟨dX_now_0, rfl⟩ rfl ?_
  rcases (show (x < 0 ∨ 6 < x) ∨ x = 0 ∨ x = 1 ∨ x = 2 ∨ x = 3 ∨ x = 4 ∨ x = 5 ∨ x = 6 by omega) with c1 | c1 | c1 | c1 | c1 | c1 | c1 | c1
  · refine gi_tabOut (tgt := 110) h dX_now_1 (by omega) c1 rfl ?_
    refine gi_iconst (pc' := 111) h ⟨dX_now_110, rfl⟩ ?_
    exact gs_iret h hE dX_now_111 (by unfold xNow; rw [if_neg (by omega), if_neg (by omega), if_neg (by omega), if_neg (by omega), if_neg (by omega), if_neg (by omega), if_neg (by omega)]; exact ⟨rfl, rfl⟩)
  · rw [c1]
    refine gi_tabIn (tgt := 44) (a := 0) h dX_now_1 (by decide) (by decide) rfl rfl ?_
    refine go_aload_n (pc' := 45) h ⟨dX_now_44, rfl⟩ rfl ?_
    refine gs_get (v := .ref p) (pc' := 48) h ⟨dX_now_45, rfl⟩ fgX_19 rfl (by decide) (by show (fl _ _ S.2.2 0 7)[1]? = _; rw [epq]; rfl) ?_
    refine gd_callVI (e := S.1 (p + 9) 1) (E := S) (pc' := 51) (As := []) (st := []) h hF ⟨dX_now_48, rfl⟩ kvX_139 (cP_top X hk) (by omega) hk (by decide) ⟨_, _, rfl⟩ rfl (Nat.le_of_ble_eq_true rfl) rfl ?_
    exact gs_iret h hE dX_now_51 (by unfold xNow; rw [if_pos (by omega)]; exact ⟨rfl, rfl⟩)
  · rw [c1]
    refine gi_tabIn (tgt := 52) (a := 1) h dX_now_1 (by decide) (by decide) rfl rfl ?_
    refine go_aload_n (pc' := 53) h ⟨dX_now_52, rfl⟩ rfl ?_
    refine gs_get (v := .ref 30) (pc' := 56) h ⟨dX_now_53, rfl⟩ fgX_29 rfl (by decide) (rfl) ?_
    refine gs_get (v := .ref 39) (pc' := 59) h ⟨dX_now_56, rfl⟩ fgX_136 rfl (by decide) (rfl) ?_
    refine gd_callVI (e := S.1 39 1) (E := S) (pc' := 62) (As := []) (st := []) h hF ⟨dX_now_59, rfl⟩ kvX_79 (cR_size X rfl) (by omega) rfl (by decide) ⟨_, _, rfl⟩ rfl (Nat.le_of_ble_eq_true rfl) rfl ?_
    exact gs_iret h hE dX_now_62 (by unfold xNow; rw [if_neg (by omega), if_pos (by omega)]; exact ⟨rfl, rfl⟩)
  · rw [c1]
    refine gi_tabIn (tgt := 63) (a := 2) h dX_now_1 (by decide) (by decide) rfl rfl ?_
    refine go_aload_n (pc' := 64) h ⟨dX_now_63, rfl⟩ rfl ?_
    refine gs_get (v := .ref 30) (pc' := 67) h ⟨dX_now_64, rfl⟩ fgX_29 rfl (by decide) (rfl) ?_
    refine gd_callVI (e := sumI (S.1 34) 4) (E := S) (pc' := 70) (As := []) (st := []) h hF ⟨dX_now_67, rfl⟩ kvX_142 (cS_staying X) (by omega) rfl (by decide) ⟨_, _, rfl⟩ rfl (Nat.le_of_ble_eq_true rfl) rfl ?_
    exact gs_iret h hE dX_now_70 (by unfold xNow; rw [if_neg (by omega), if_neg (by omega), if_pos (by omega)]; exact ⟨rfl, rfl⟩)
  · rw [c1]
    refine gi_tabIn (tgt := 71) (a := 3) h dX_now_1 (by decide) (by decide) rfl rfl ?_
    refine go_aload_n (pc' := 72) h ⟨dX_now_71, rfl⟩ rfl ?_
    refine gs_get (v := .ref 30) (pc' := 75) h ⟨dX_now_72, rfl⟩ fgX_29 rfl (by decide) (rfl) ?_
    refine gd_callVI (e := sumI (S.1 36) 100 + sumI (S.1 38) 100) (E := S) (pc' := 78) (As := []) (st := []) h hF ⟨dX_now_75, rfl⟩ kvX_145 (cS_allWear X hwl hwr) (by omega) rfl (by decide) ⟨_, _, rfl⟩ rfl (Nat.le_of_ble_eq_true rfl) rfl ?_
    exact gs_iret h hE dX_now_78 (by unfold xNow; rw [if_neg (by omega), if_neg (by omega), if_neg (by omega), if_pos (by omega)]; exact ⟨rfl, rfl⟩)
  · rw [c1]
    refine gi_tabIn (tgt := 79) (a := 4) h dX_now_1 (by decide) (by decide) rfl rfl ?_
    refine go_aload_n (pc' := 80) h ⟨dX_now_79, rfl⟩ rfl ?_
    refine gs_get (v := .ref p) (pc' := 83) h ⟨dX_now_80, rfl⟩ fgX_19 rfl (by decide) (by show (fl _ _ S.2.2 0 7)[1]? = _; rw [epq]; rfl) ?_
    refine gd_callVI (e := stF (S.1 (p + 10)) (S.1 (p + 9) 1) 102 0 (-9)) (E := S) (pc' := 86) (As := []) (st := []) h hF ⟨dX_now_83, rfl⟩ kvX_148 (cP_steep X hk hok) (by omega) hk (by decide) ⟨_, _, rfl⟩ rfl (Nat.le_of_ble_eq_true rfl) rfl ?_
    exact gs_iret h hE dX_now_86 (by unfold xNow; rw [if_neg (by omega), if_neg (by omega), if_neg (by omega), if_neg (by omega), if_pos (by omega)]; exact ⟨rfl, rfl⟩)
  · rw [c1]
    refine gi_tabIn (tgt := 87) (a := 5) h dX_now_1 (by decide) (by decide) rfl rfl ?_
    refine go_aload_n (pc' := 88) h ⟨dX_now_87, rfl⟩ rfl ?_
    refine gs_get (v := .ref p) (pc' := 91) h ⟨dX_now_88, rfl⟩ fgX_19 rfl (by decide) (by show (fl _ _ S.2.2 0 7)[1]? = _; rw [epq]; rfl) ?_
    refine go_aload_n (pc' := 92) h ⟨dX_now_91, rfl⟩ rfl ?_
    refine gs_get (v := .ref p) (pc' := 95) h ⟨dX_now_92, rfl⟩ fgX_19 rfl (by decide) (by show (fl _ _ S.2.2 0 7)[1]? = _; rw [epq]; rfl) ?_
    refine gs_get (v := .int (iI (S.1 p 7))) (pc' := 98) h ⟨dX_now_95, rfl⟩ fgX_151 hk (by decide) (rfl) ?_
    refine gd_callVI (e := dvU (ivP S p) ((S.1 p 7) - 1)) (E := S) (pc' := 101) (As := [.int (iI (S.1 p 7))]) (st := []) h hF ⟨dX_now_98, rfl⟩ kvX_155 (cP_days X hk hok (by omega)) (by omega) hk (by decide) ⟨_, _, rfl⟩ rfl (Nat.le_of_ble_eq_true rfl) rfl ?_
    exact gs_iret h hE dX_now_101 (by unfold xNow; rw [if_neg (by omega), if_neg (by omega), if_neg (by omega), if_neg (by omega), if_neg (by omega), if_pos (by omega)]; exact ⟨rfl, rfl⟩)
  · rw [c1]
    refine gi_tabIn (tgt := 102) (a := 6) h dX_now_1 (by decide) (by decide) rfl rfl ?_
    refine go_aload_n (pc' := 103) h ⟨dX_now_102, rfl⟩ rfl ?_
    refine gs_get (v := .ref 65) (pc' := 106) h ⟨dX_now_103, rfl⟩ fgX_51 rfl (by decide) (rfl) ?_
    refine gd_callVI (e := S.1 66 1) (E := S) (pc' := 109) (As := []) (st := []) h hF ⟨dX_now_106, rfl⟩ kvX_158 (cD_known X) (by omega) rfl (by decide) ⟨_, _, rfl⟩ rfl (Nat.le_of_ble_eq_true rfl) rfl ?_
    exact gs_iret h hE dX_now_109 (by unfold xNow; rw [if_neg (by omega), if_neg (by omega), if_neg (by omega), if_neg (by omega), if_neg (by omega), if_neg (by omega), if_pos (by omega)]; exact ⟨rfl, rfl⟩)
def xAlt (S : Sg) (p : Nat) (x : Int) : Int × Sg := if x < 0 ∨ 1000 * S.1 (p + 9) 1 < x then (-1, S) else (altP S p x, S)
set_option maxRecDepth 4000 in
theorem cX_altitude (X : XT) {S : Sg} {p q : Nat} (hC : CI S p q) {x : Int} (hx : -2147483648 ≤ x ∧ x ≤ 2147483647) : Ctr X 6 yX_altitude bX_altitude 2 (some .int) [.ref 0, .int (iI (x))] (mk S) (PI (fun r S' => r = (xAlt S p x).1 ∧ S' = (xAlt S p x).2)) 0 0 := by
  refine Ctr.ofS (by decide) rfl (Nat.le_of_ble_eq_true rfl) (fun F h hF hE => ?_)
  obtain ⟨epq, opq, hW, hok, cb, hlt, hmk, hsc, hwl, hwr, hth, hdd, hse, hme, hke⟩ := id hC
  have hp : p = 4 ∨ p = 17 := by omega
  have hk := kd_p hp
  obtain ⟨k1, k3, k5, k7, k9, k11, l2, l4, l6, l8, l10, l12⟩ := plan_ok hk
  obtain ⟨o1, o2, o3, o4, o5, o6, o7⟩ := id hok
  have z39 : 0 ≤ S.1 39 1 ∧ S.1 39 1 ≤ 6 := hW 39 rfl
  have z66 : 0 ≤ S.1 66 1 ∧ S.1 66 1 ≤ 10 := hW 66 rfl
  have z2 : 0 ≤ S.1 2 1 ∧ S.1 2 1 ≤ 120 := hW 2 rfl
  have z75 : 0 ≤ S.1 75 1 ∧ S.1 75 1 ≤ 6 := hW 75 rfl
  have z84 : 0 ≤ S.1 84 1 ∧ S.1 84 1 ≤ 6 := hW 84 rfl
  refine go_iload_n (pc' := 1) h ⟨dX_altitude_0, rfl⟩ rfl ?_
  refine gi_if_lt (tgt := 19) (pc' := 4) h dX_altitude_1 rfl rfl (by omega) (fun c1 => ?_) (fun c1 => ?_)
  · refine gi_iconst (pc' := 20) h ⟨dX_altitude_19, rfl⟩ ?_
    exact gs_iret h hE dX_altitude_20 (by unfold xAlt; rw [if_pos (by omega)]; exact ⟨rfl, rfl⟩)
  · refine go_iload_n (pc' := 5) h ⟨dX_altitude_4, rfl⟩ rfl ?_
    refine gi_sipush (pc' := 8) h ⟨dX_altitude_5, rfl⟩ rfl ?_
    refine go_aload_n (pc' := 9) h ⟨dX_altitude_8, rfl⟩ rfl ?_
    refine gs_get (v := .ref p) (pc' := 12) h ⟨dX_altitude_9, rfl⟩ fgX_19 rfl (by decide) (by show (fl _ _ S.2.2 0 7)[1]? = _; rw [epq]; rfl) ?_
    refine gd_callVI (e := S.1 (p + 9) 1) (E := S) (pc' := 15) (As := []) (st := [.int (iI (1000)), .int (iI (x))]) h hF ⟨dX_altitude_12, rfl⟩ kvX_139 (cP_top X hk) (by omega) hk (by decide) ⟨_, _, rfl⟩ rfl (Nat.le_of_ble_eq_true rfl) rfl ?_
    refine gi_imul (pc' := 16) h ⟨dX_altitude_15, rfl⟩ ?_
    refine gi_icmp_le (tgt := 21) (pc' := 19) h dX_altitude_16 rfl rfl (by omega) (fun c16 => ?_) (fun c16 => ?_)
    · refine go_aload_n (pc' := 22) h ⟨dX_altitude_21, rfl⟩ rfl ?_
      refine gs_get (v := .ref p) (pc' := 25) h ⟨dX_altitude_22, rfl⟩ fgX_19 rfl (by decide) (by show (fl _ _ S.2.2 0 7)[1]? = _; rw [epq]; rfl) ?_
      refine go_iload_n (pc' := 26) h ⟨dX_altitude_25, rfl⟩ rfl ?_
      refine gd_callVI (e := altP S p x) (E := S) (pc' := 29) (As := [.int (iI (x))]) (st := []) h hF ⟨dX_altitude_26, rfl⟩ kvX_190 (cP_alt X hk hok (by omega)) (by omega) hk (by decide) ⟨_, _, rfl⟩ rfl (Nat.le_of_ble_eq_true rfl) rfl ?_
      exact gs_iret h hE dX_altitude_29 (by unfold xAlt; rw [if_neg (by omega)]; exact ⟨rfl, rfl⟩)
    · refine gi_iconst (pc' := 20) h ⟨dX_altitude_19, rfl⟩ ?_
      exact gs_iret h hE dX_altitude_20 (by unfold xAlt; rw [if_pos (by omega)]; exact ⟨rfl, rfl⟩)
def xStep (S : Sg) (p : Nat) (x : Int) : Int × Sg := if x < 0 ∨ 9999999 < x then (-1, S) else (fsF (S.1 (p + 10)) (S.1 (p + 9) 1) x 102 0 0, S)
set_option maxRecDepth 4000 in
theorem cX_step (X : XT) {S : Sg} {p q : Nat} (hC : CI S p q) {x : Int} (hx : -2147483648 ≤ x ∧ x ≤ 2147483647) : Ctr X 6 yX_step bX_step 2 (some .int) [.ref 0, .int (iI (x))] (mk S) (PI (fun r S' => r = (xStep S p x).1 ∧ S' = (xStep S p x).2)) 0 0 := by
  refine Ctr.ofS (by decide) rfl (Nat.le_of_ble_eq_true rfl) (fun F h hF hE => ?_)
  obtain ⟨epq, opq, hW, hok, cb, hlt, hmk, hsc, hwl, hwr, hth, hdd, hse, hme, hke⟩ := id hC
  have hp : p = 4 ∨ p = 17 := by omega
  have hk := kd_p hp
  obtain ⟨k1, k3, k5, k7, k9, k11, l2, l4, l6, l8, l10, l12⟩ := plan_ok hk
  obtain ⟨o1, o2, o3, o4, o5, o6, o7⟩ := id hok
  have z39 : 0 ≤ S.1 39 1 ∧ S.1 39 1 ≤ 6 := hW 39 rfl
  have z66 : 0 ≤ S.1 66 1 ∧ S.1 66 1 ≤ 10 := hW 66 rfl
  have z2 : 0 ≤ S.1 2 1 ∧ S.1 2 1 ≤ 120 := hW 2 rfl
  have z75 : 0 ≤ S.1 75 1 ∧ S.1 75 1 ≤ 6 := hW 75 rfl
  have z84 : 0 ≤ S.1 84 1 ∧ S.1 84 1 ≤ 6 := hW 84 rfl
  refine go_iload_n (pc' := 1) h ⟨dX_step_0, rfl⟩ rfl ?_
  refine gi_if_lt (tgt := 10) (pc' := 4) h dX_step_1 rfl rfl (by omega) (fun c1 => ?_) (fun c1 => ?_)
  · refine gi_iconst (pc' := 11) h ⟨dX_step_10, rfl⟩ ?_
    exact gs_iret h hE dX_step_11 (by unfold xStep; rw [if_pos (by omega)]; exact ⟨rfl, rfl⟩)
  · refine go_iload_n (pc' := 5) h ⟨dX_step_4, rfl⟩ rfl ?_
    refine gi_ldc (n := 9999999) (pc' := 7) h ⟨dX_step_5, rfl⟩ csX_193 ?_
    refine gi_icmp_le (tgt := 12) (pc' := 10) h dX_step_7 rfl rfl (by omega) (fun c7 => ?_) (fun c7 => ?_)
    · refine go_aload_n (pc' := 13) h ⟨dX_step_12, rfl⟩ rfl ?_
      refine gs_get (v := .ref p) (pc' := 16) h ⟨dX_step_13, rfl⟩ fgX_19 rfl (by decide) (by show (fl _ _ S.2.2 0 7)[1]? = _; rw [epq]; rfl) ?_
      refine go_iload_n (pc' := 17) h ⟨dX_step_16, rfl⟩ rfl ?_
      refine gd_callVI (e := fsF (S.1 (p + 10)) (S.1 (p + 9) 1) x 102 0 0) (E := S) (pc' := 20) (As := [.int (iI (x))]) (st := []) h hF ⟨dX_step_17, rfl⟩ kvX_194 (cP_step X hk hok (by omega)) (by omega) hk (by decide) ⟨_, _, rfl⟩ rfl (Nat.le_of_ble_eq_true rfl) rfl ?_
      exact gs_iret h hE dX_step_20 (by unfold xStep; rw [if_neg (by omega)]; exact ⟨rfl, rfl⟩)
    · refine gi_iconst (pc' := 11) h ⟨dX_step_10, rfl⟩ ?_
      exact gs_iret h hE dX_step_11 (by unfold xStep; rw [if_pos (by omega)]; exact ⟨rfl, rfl⟩)
def xCount (S : Sg) (p : Nat) (x : Int) : Int × Sg := if x = 0 then (S.1 (p + 1) 1, S) else if x = 1 then (S.1 (p + 11) 1, S) else if x = 2 then (S.1 p 6, S) else if x = 3 then (S.1 p 7, S) else if x = 4 then (S.1 75 1, S) else if x = 5 then (S.1 84 1, S) else if x = 6 then (S.1 2 1, S) else (-1, S)
set_option maxRecDepth 4000 in
theorem cX_count (X : XT) {S : Sg} {p q : Nat} (hC : CI S p q) {x : Int} (hx : -2147483648 ≤ x ∧ x ≤ 2147483647) : Ctr X 6 yX_count bX_count 2 (some .int) [.ref 0, .int (iI (x))] (mk S) (PI (fun r S' => r = (xCount S p x).1 ∧ S' = (xCount S p x).2)) 0 0 := by
  refine Ctr.ofS (by decide) rfl (Nat.le_of_ble_eq_true rfl) (fun F h hF hE => ?_)
  obtain ⟨epq, opq, hW, hok, cb, hlt, hmk, hsc, hwl, hwr, hth, hdd, hse, hme, hke⟩ := id hC
  have hp : p = 4 ∨ p = 17 := by omega
  have hk := kd_p hp
  obtain ⟨k1, k3, k5, k7, k9, k11, l2, l4, l6, l8, l10, l12⟩ := plan_ok hk
  obtain ⟨o1, o2, o3, o4, o5, o6, o7⟩ := id hok
  have z39 : 0 ≤ S.1 39 1 ∧ S.1 39 1 ≤ 6 := hW 39 rfl
  have z66 : 0 ≤ S.1 66 1 ∧ S.1 66 1 ≤ 10 := hW 66 rfl
  have z2 : 0 ≤ S.1 2 1 ∧ S.1 2 1 ≤ 120 := hW 2 rfl
  have z75 : 0 ≤ S.1 75 1 ∧ S.1 75 1 ≤ 6 := hW 75 rfl
  have z84 : 0 ≤ S.1 84 1 ∧ S.1 84 1 ≤ 6 := hW 84 rfl
  refine go_iload_n (pc' := 1) h ⟨dX_count_0, rfl⟩ rfl ?_
  rcases (show (x < 0 ∨ 6 < x) ∨ x = 0 ∨ x = 1 ∨ x = 2 ∨ x = 3 ∨ x = 4 ∨ x = 5 ∨ x = 6 by omega) with c1 | c1 | c1 | c1 | c1 | c1 | c1 | c1
  · refine gi_tabOut (tgt := 115) h dX_count_1 (by omega) c1 rfl ?_
    refine gi_iconst (pc' := 116) h ⟨dX_count_115, rfl⟩ ?_
    exact gs_iret h hE dX_count_116 (by unfold xCount; rw [if_neg (by omega), if_neg (by omega), if_neg (by omega), if_neg (by omega), if_neg (by omega), if_neg (by omega), if_neg (by omega)]; exact ⟨rfl, rfl⟩)
  · rw [c1]
    refine gi_tabIn (tgt := 44) (a := 0) h dX_count_1 (by decide) (by decide) rfl rfl ?_
    refine go_aload_n (pc' := 45) h ⟨dX_count_44, rfl⟩ rfl ?_
    refine gs_get (v := .ref p) (pc' := 48) h ⟨dX_count_45, rfl⟩ fgX_19 rfl (by decide) (by show (fl _ _ S.2.2 0 7)[1]? = _; rw [epq]; rfl) ?_
    refine gs_get (v := .ref (p + 1)) (pc' := 51) h ⟨dX_count_48, rfl⟩ fgX_101 hk (by decide) (rfl) ?_
    refine gd_callVI (e := S.1 (p + 1) 1) (E := S) (pc' := 54) (As := []) (st := []) h hF ⟨dX_count_51, rfl⟩ kvX_79 (cR_size X k1) (by omega) k1 (by decide) ⟨_, _, rfl⟩ rfl (Nat.le_of_ble_eq_true rfl) rfl ?_
    exact gs_iret h hE dX_count_54 (by unfold xCount; rw [if_pos (by omega)]; exact ⟨rfl, rfl⟩)
  · rw [c1]
    refine gi_tabIn (tgt := 55) (a := 1) h dX_count_1 (by decide) (by decide) rfl rfl ?_
    refine go_aload_n (pc' := 56) h ⟨dX_count_55, rfl⟩ rfl ?_
    refine gs_get (v := .ref p) (pc' := 59) h ⟨dX_count_56, rfl⟩ fgX_19 rfl (by decide) (by show (fl _ _ S.2.2 0 7)[1]? = _; rw [epq]; rfl) ?_
    refine gs_get (v := .ref (p + 11)) (pc' := 62) h ⟨dX_count_59, rfl⟩ fgX_120 hk (by decide) (rfl) ?_
    refine gd_callVI (e := S.1 (p + 11) 1) (E := S) (pc' := 65) (As := []) (st := []) h hF ⟨dX_count_62, rfl⟩ kvX_79 (cR_size X k11) (by omega) k11 (by decide) ⟨_, _, rfl⟩ rfl (Nat.le_of_ble_eq_true rfl) rfl ?_
    exact gs_iret h hE dX_count_65 (by unfold xCount; rw [if_neg (by omega), if_pos (by omega)]; exact ⟨rfl, rfl⟩)
  · rw [c1]
    refine gi_tabIn (tgt := 66) (a := 2) h dX_count_1 (by decide) (by decide) rfl rfl ?_
    refine go_aload_n (pc' := 67) h ⟨dX_count_66, rfl⟩ rfl ?_
    refine gs_get (v := .ref p) (pc' := 70) h ⟨dX_count_67, rfl⟩ fgX_19 rfl (by decide) (by show (fl _ _ S.2.2 0 7)[1]? = _; rw [epq]; rfl) ?_
    refine gs_get (v := .int (iI (S.1 p 6))) (pc' := 73) h ⟨dX_count_70, rfl⟩ fgX_270 hk (by decide) (rfl) ?_
    exact gs_iret h hE dX_count_73 (by unfold xCount; rw [if_neg (by omega), if_neg (by omega), if_pos (by omega)]; exact ⟨rfl, rfl⟩)
  · rw [c1]
    refine gi_tabIn (tgt := 74) (a := 3) h dX_count_1 (by decide) (by decide) rfl rfl ?_
    refine go_aload_n (pc' := 75) h ⟨dX_count_74, rfl⟩ rfl ?_
    refine gs_get (v := .ref p) (pc' := 78) h ⟨dX_count_75, rfl⟩ fgX_19 rfl (by decide) (by show (fl _ _ S.2.2 0 7)[1]? = _; rw [epq]; rfl) ?_
    refine gs_get (v := .int (iI (S.1 p 7))) (pc' := 81) h ⟨dX_count_78, rfl⟩ fgX_151 hk (by decide) (rfl) ?_
    exact gs_iret h hE dX_count_81 (by unfold xCount; rw [if_neg (by omega), if_neg (by omega), if_neg (by omega), if_pos (by omega)]; exact ⟨rfl, rfl⟩)
  · rw [c1]
    refine gi_tabIn (tgt := 82) (a := 4) h dX_count_1 (by decide) (by decide) rfl rfl ?_
    refine go_aload_n (pc' := 83) h ⟨dX_count_82, rfl⟩ rfl ?_
    refine gs_get (v := .ref 72) (pc' := 86) h ⟨dX_count_83, rfl⟩ fgX_58 rfl (by decide) (rfl) ?_
    refine gs_get (v := .ref 75) (pc' := 89) h ⟨dX_count_86, rfl⟩ fgX_197 rfl (by decide) (rfl) ?_
    refine gd_callVI (e := S.1 75 1) (E := S) (pc' := 92) (As := []) (st := []) h hF ⟨dX_count_89, rfl⟩ kvX_79 (cR_size X rfl) (by omega) rfl (by decide) ⟨_, _, rfl⟩ rfl (Nat.le_of_ble_eq_true rfl) rfl ?_
    exact gs_iret h hE dX_count_92 (by unfold xCount; rw [if_neg (by omega), if_neg (by omega), if_neg (by omega), if_neg (by omega), if_pos (by omega)]; exact ⟨rfl, rfl⟩)
  · rw [c1]
    refine gi_tabIn (tgt := 93) (a := 5) h dX_count_1 (by decide) (by decide) rfl rfl ?_
    refine go_aload_n (pc' := 94) h ⟨dX_count_93, rfl⟩ rfl ?_
    refine gs_get (v := .ref 79) (pc' := 97) h ⟨dX_count_94, rfl⟩ fgX_65 rfl (by decide) (rfl) ?_
    refine gs_get (v := .ref 84) (pc' := 100) h ⟨dX_count_97, rfl⟩ fgX_222 rfl (by decide) (rfl) ?_
    refine gd_callVI (e := S.1 84 1) (E := S) (pc' := 103) (As := []) (st := []) h hF ⟨dX_count_100, rfl⟩ kvX_79 (cR_size X rfl) (by omega) rfl (by decide) ⟨_, _, rfl⟩ rfl (Nat.le_of_ble_eq_true rfl) rfl ?_
    exact gs_iret h hE dX_count_103 (by unfold xCount; rw [if_neg (by omega), if_neg (by omega), if_neg (by omega), if_neg (by omega), if_neg (by omega), if_pos (by omega)]; exact ⟨rfl, rfl⟩)
  · rw [c1]
    refine gi_tabIn (tgt := 104) (a := 6) h dX_count_1 (by decide) (by decide) rfl rfl ?_
    refine go_aload_n (pc' := 105) h ⟨dX_count_104, rfl⟩ rfl ?_
    refine gs_get (v := .ref 1) (pc' := 108) h ⟨dX_count_105, rfl⟩ fgX_12 rfl (by decide) (rfl) ?_
    refine gs_get (v := .ref 2) (pc' := 111) h ⟨dX_count_108, rfl⟩ fgX_69 rfl (by decide) (rfl) ?_
    refine gd_callVI (e := S.1 2 1) (E := S) (pc' := 114) (As := []) (st := []) h hF ⟨dX_count_111, rfl⟩ kvX_79 (cR_size X rfl) (by omega) rfl (by decide) ⟨_, _, rfl⟩ rfl (Nat.le_of_ble_eq_true rfl) rfl ?_
    exact gs_iret h hE dX_count_114 (by unfold xCount; rw [if_neg (by omega), if_neg (by omega), if_neg (by omega), if_neg (by omega), if_neg (by omega), if_neg (by omega), if_pos (by omega)]; exact ⟨rfl, rfl⟩)
def xForget (S : Sg) (p : Nat) : Int × Sg := (S.1 75 1 + S.1 84 1, rempty (rempty (rempty (rempty (rempty S 73) 75) 80) 82) 84)
set_option maxRecDepth 4000 in
theorem cX_forget (X : XT) {S : Sg} {p q : Nat} (hC : CI S p q) : Ctr X 6 yX_forget bX_forget 2 (some .int) [.ref 0] (mk S) (PI (fun r S' => r = (xForget S p).1 ∧ S' = (xForget S p).2)) 0 0 := by
  refine Ctr.ofS (by decide) rfl (Nat.le_of_ble_eq_true rfl) (fun F h hF hE => ?_)
  obtain ⟨epq, opq, hW, hok, cb, hlt, hmk, hsc, hwl, hwr, hth, hdd, hse, hme, hke⟩ := id hC
  have hp : p = 4 ∨ p = 17 := by omega
  have hk := kd_p hp
  obtain ⟨k1, k3, k5, k7, k9, k11, l2, l4, l6, l8, l10, l12⟩ := plan_ok hk
  obtain ⟨o1, o2, o3, o4, o5, o6, o7⟩ := id hok
  have z39 : 0 ≤ S.1 39 1 ∧ S.1 39 1 ≤ 6 := hW 39 rfl
  have z66 : 0 ≤ S.1 66 1 ∧ S.1 66 1 ≤ 10 := hW 66 rfl
  have z2 : 0 ≤ S.1 2 1 ∧ S.1 2 1 ≤ 120 := hW 2 rfl
  have z75 : 0 ≤ S.1 75 1 ∧ S.1 75 1 ≤ 6 := hW 75 rfl
  have z84 : 0 ≤ S.1 84 1 ∧ S.1 84 1 ≤ 6 := hW 84 rfl
  refine go_aload_n (pc' := 1) h ⟨dX_forget_0, rfl⟩ rfl ?_
  refine gs_get (v := .ref 72) (pc' := 4) h ⟨dX_forget_1, rfl⟩ fgX_58 rfl (by decide) (rfl) ?_
  refine gs_get (v := .ref 75) (pc' := 7) h ⟨dX_forget_4, rfl⟩ fgX_197 rfl (by decide) (rfl) ?_
  refine gd_callVI (e := S.1 75 1) (E := S) (pc' := 10) (As := []) (st := []) h hF ⟨dX_forget_7, rfl⟩ kvX_79 (cR_size X rfl) (by omega) rfl (by decide) ⟨_, _, rfl⟩ rfl (Nat.le_of_ble_eq_true rfl) rfl ?_
  refine go_aload_n (pc' := 11) h ⟨dX_forget_10, rfl⟩ rfl ?_
  refine gs_get (v := .ref 79) (pc' := 14) h ⟨dX_forget_11, rfl⟩ fgX_65 rfl (by decide) (rfl) ?_
  refine gs_get (v := .ref 84) (pc' := 17) h ⟨dX_forget_14, rfl⟩ fgX_222 rfl (by decide) (rfl) ?_
  refine gd_callVI (e := S.1 84 1) (E := S) (pc' := 20) (As := []) (st := [.int (iI (S.1 75 1))]) h hF ⟨dX_forget_17, rfl⟩ kvX_79 (cR_size X rfl) (by omega) rfl (by decide) ⟨_, _, rfl⟩ rfl (Nat.le_of_ble_eq_true rfl) rfl ?_
  refine gi_iadd (pc' := 21) h ⟨dX_forget_20, rfl⟩ ?_
  refine go_istore_n (L' := [.ref 0, .int (iI ((S.1 75 1) + (S.1 84 1)))]) (pc' := 22) h ⟨dX_forget_21, rfl⟩ (by decide) rfl rfl ?_
  refine go_aload_n (pc' := 23) h ⟨dX_forget_22, rfl⟩ rfl ?_
  refine gs_get (v := .ref 72) (pc' := 26) h ⟨dX_forget_23, rfl⟩ fgX_58 rfl (by decide) (rfl) ?_
  refine gd_callVV (E := rempty (rempty S 73) 75) (pc' := 29) (As := []) (st := []) h hF ⟨dX_forget_26, rfl⟩ kvX_94 (cN_empty X) (by omega) rfl (by decide) ⟨_, _, rfl⟩ rfl (Nat.le_of_ble_eq_true rfl) rfl ?_
  refine go_aload_n (pc' := 30) h ⟨dX_forget_29, rfl⟩ rfl ?_
  refine gs_get (v := .ref 79) (pc' := 33) h ⟨dX_forget_30, rfl⟩ fgX_65 rfl (by decide) (rfl) ?_
  refine gd_callVV (E := rempty (rempty (rempty (rempty (rempty S 73) 75) 80) 82) 84) (pc' := 36) (As := []) (st := []) h hF ⟨dX_forget_33, rfl⟩ kvX_95 (cM_empty X) (by omega) rfl (by decide) ⟨_, _, rfl⟩ rfl (Nat.le_of_ble_eq_true rfl) rfl ?_
  refine go_iload_n (pc' := 37) h ⟨dX_forget_36, rfl⟩ rfl ?_
  exact gs_iret h hE dX_forget_37 (⟨rfl, rfl⟩)
def xStays (S : Sg) (p : Nat) (x : Int) : Int × Sg := if ¬ (0 ≤ x ∧ x < S.1 (p + 11) 1) then (-1, S) else if S.1 34 x = 1 then (-2, S) else (sumI ((dadd (rput S 33 x 1) 1 x 0).1 34) 4, dadd (rput S 33 x 1) 1 x 0)
set_option maxRecDepth 4000 in
theorem cX_stays (X : XT) {S : Sg} {p q : Nat} (hC : CI S p q) {x : Int} (hx : -2147483648 ≤ x ∧ x ≤ 2147483647) : Ctr X 6 yX_stays bX_stays 2 (some .int) [.ref 0, .int (iI (x))] (mk S) (PI (fun r S' => r = (xStays S p x).1 ∧ S' = (xStays S p x).2)) 0 0 := by
  refine Ctr.ofS (by decide) rfl (Nat.le_of_ble_eq_true rfl) (fun F h hF hE => ?_)
  obtain ⟨epq, opq, hW, hok, cb, hlt, hmk, hsc, hwl, hwr, hth, hdd, hse, hme, hke⟩ := id hC
  have hp : p = 4 ∨ p = 17 := by omega
  have hk := kd_p hp
  obtain ⟨k1, k3, k5, k7, k9, k11, l2, l4, l6, l8, l10, l12⟩ := plan_ok hk
  obtain ⟨o1, o2, o3, o4, o5, o6, o7⟩ := id hok
  have z39 : 0 ≤ S.1 39 1 ∧ S.1 39 1 ≤ 6 := hW 39 rfl
  have z66 : 0 ≤ S.1 66 1 ∧ S.1 66 1 ≤ 10 := hW 66 rfl
  have z2 : 0 ≤ S.1 2 1 ∧ S.1 2 1 ≤ 120 := hW 2 rfl
  have z75 : 0 ≤ S.1 75 1 ∧ S.1 75 1 ≤ 6 := hW 75 rfl
  have z84 : 0 ≤ S.1 84 1 ∧ S.1 84 1 ≤ 6 := hW 84 rfl
  refine go_aload_n (pc' := 1) h ⟨dX_stays_0, rfl⟩ rfl ?_
  refine gs_get (v := .ref p) (pc' := 4) h ⟨dX_stays_1, rfl⟩ fgX_19 rfl (by decide) (by show (fl _ _ S.2.2 0 7)[1]? = _; rw [epq]; rfl) ?_
  refine go_iload_n (pc' := 5) h ⟨dX_stays_4, rfl⟩ rfl ?_
  refine gd_callVI (e := if 0 ≤ x ∧ x < S.1 (p + 11) 1 then 1 else 0) (E := S) (pc' := 8) (As := [.int (iI (x))]) (st := []) h hF ⟨dX_stays_5, rfl⟩ kvX_117 (cP_hasTraveller X hk hok (by omega)) (by omega) hk (by decide) ⟨_, _, rfl⟩ rfl (Nat.le_of_ble_eq_true rfl) rfl ?_
  refine gi_if_ne (tgt := 13) (pc' := 11) h dX_stays_8 rfl rfl (by split <;> omega) (fun c8 => ?_) (fun c8 => ?_)
  · have c8 := b1 c8
    refine go_aload_n (pc' := 14) h ⟨dX_stays_13, rfl⟩ rfl ?_
    refine gs_get (v := .ref 30) (pc' := 17) h ⟨dX_stays_14, rfl⟩ fgX_29 rfl (by decide) (rfl) ?_
    refine go_iload_n (pc' := 18) h ⟨dX_stays_17, rfl⟩ rfl ?_
    refine gd_callVI (e := if S.1 34 x = 1 then 1 else 0) (E := S) (pc' := 21) (As := [.int (iI (x))]) (st := []) h hF ⟨dX_stays_18, rfl⟩ kvX_161 (cS_hasStayed X (by omega) (hsc _ (by omega) (by omega)).2) (by omega) rfl (by decide) ⟨_, _, rfl⟩ rfl (Nat.le_of_ble_eq_true rfl) rfl ?_
    refine gi_if_eq (tgt := 27) (pc' := 24) h dX_stays_21 rfl rfl (by split <;> omega) (fun c21 => ?_) (fun c21 => ?_)
    · have c21 := b0 c21
      refine go_aload_n (pc' := 28) h ⟨dX_stays_27, rfl⟩ rfl ?_
      refine gs_get (v := .ref 30) (pc' := 31) h ⟨dX_stays_28, rfl⟩ fgX_29 rfl (by decide) (rfl) ?_
      refine gs_get (v := .ref 33) (pc' := 34) h ⟨dX_stays_31, rfl⟩ fgX_126 rfl (by decide) (rfl) ?_
      refine go_iload_n (pc' := 35) h ⟨dX_stays_34, rfl⟩ rfl ?_
      refine gi_iconst (pc' := 36) h ⟨dX_stays_35, rfl⟩ ?_
      refine gd_callVV (E := rput S 33 x 1) (pc' := 39) (As := [.int (iI (x)), .int (iI (1))]) (st := []) h hF ⟨dX_stays_36, rfl⟩ kvX_168 (cR_put X rfl (by omega)) (by omega) rfl (by decide) ⟨_, _, rfl⟩ rfl (Nat.le_of_ble_eq_true rfl) rfl ?_
      refine go_aload_n (pc' := 40) h ⟨dX_stays_39, rfl⟩ rfl ?_
      refine gs_get (v := .ref 65) (pc' := 43) h ⟨dX_stays_40, rfl⟩ fgX_51 rfl (by decide) (rfl) ?_
      refine gi_iconst (pc' := 44) h ⟨dX_stays_43, rfl⟩ ?_
      refine go_iload_n (pc' := 45) h ⟨dX_stays_44, rfl⟩ rfl ?_
      refine gi_iconst (pc' := 46) h ⟨dX_stays_45, rfl⟩ ?_
      refine gd_callVV (E := dadd (rput S 33 x 1) 1 x 0) (pc' := 49) (As := [.int (iI (1)), .int (iI (x)), .int (iI (0))]) (st := []) h hF ⟨dX_stays_46, rfl⟩ kvX_172 (cD_add X (hW.put rfl _ _)) (by omega) rfl (by decide) ⟨_, _, rfl⟩ rfl (Nat.le_of_ble_eq_true rfl) rfl ?_
      refine go_aload_n (pc' := 50) h ⟨dX_stays_49, rfl⟩ rfl ?_
      refine gs_get (v := .ref 30) (pc' := 53) h ⟨dX_stays_50, rfl⟩ fgX_29 rfl (by decide) (rfl) ?_
      refine gd_callVI (e := sumI ((dadd (rput S 33 x 1) 1 x 0).1 34) 4) (E := dadd (rput S 33 x 1) 1 x 0) (pc' := 56) (As := []) (st := []) h hF ⟨dX_stays_53, rfl⟩ kvX_142 (cS_staying X) (by omega) rfl (by decide) ⟨_, _, rfl⟩ rfl (Nat.le_of_ble_eq_true rfl) rfl ?_
      exact gs_iret h hE dX_stays_56 (by unfold xStays; rw [if_neg (by omega), if_neg (by omega)]; exact ⟨rfl, rfl⟩)
    · have c21 := b1 c21
      refine gi_bipush (pc' := 26) h ⟨dX_stays_24, rfl⟩ rfl ?_
      exact gs_iret h hE dX_stays_26 (by unfold xStays; rw [if_neg (by omega), if_pos (by omega)]; exact ⟨rfl, rfl⟩)
  · have c8 := b0 c8
    refine gi_iconst (pc' := 12) h ⟨dX_stays_11, rfl⟩ ?_
    exact gs_iret h hE dX_stays_12 (by unfold xStays; rw [if_pos (by omega)]; exact ⟨rfl, rfl⟩)
def xLoses (S : Sg) (p : Nat) (x : Int) : Int × Sg := if ¬ (0 ≤ x ∧ x < S.1 (p + 11) 1) then (-1, S) else if 6 ≤ S.1 39 1 then (-3, S) else ((dadd (rpush S 39 (S.1 32 x)) 2 x 0).1 39 1, dadd (rpush S 39 (S.1 32 x)) 2 x 0)
set_option maxRecDepth 4000 in
theorem cX_loses (X : XT) {S : Sg} {p q : Nat} (hC : CI S p q) {x : Int} (hx : -2147483648 ≤ x ∧ x ≤ 2147483647) : Ctr X 6 yX_loses bX_loses 2 (some .int) [.ref 0, .int (iI (x))] (mk S) (PI (fun r S' => r = (xLoses S p x).1 ∧ S' = (xLoses S p x).2)) 0 0 := by
  refine Ctr.ofS (by decide) rfl (Nat.le_of_ble_eq_true rfl) (fun F h hF hE => ?_)
  obtain ⟨epq, opq, hW, hok, cb, hlt, hmk, hsc, hwl, hwr, hth, hdd, hse, hme, hke⟩ := id hC
  have hp : p = 4 ∨ p = 17 := by omega
  have hk := kd_p hp
  obtain ⟨k1, k3, k5, k7, k9, k11, l2, l4, l6, l8, l10, l12⟩ := plan_ok hk
  obtain ⟨o1, o2, o3, o4, o5, o6, o7⟩ := id hok
  have z39 : 0 ≤ S.1 39 1 ∧ S.1 39 1 ≤ 6 := hW 39 rfl
  have z66 : 0 ≤ S.1 66 1 ∧ S.1 66 1 ≤ 10 := hW 66 rfl
  have z2 : 0 ≤ S.1 2 1 ∧ S.1 2 1 ≤ 120 := hW 2 rfl
  have z75 : 0 ≤ S.1 75 1 ∧ S.1 75 1 ≤ 6 := hW 75 rfl
  have z84 : 0 ≤ S.1 84 1 ∧ S.1 84 1 ≤ 6 := hW 84 rfl
  refine go_aload_n (pc' := 1) h ⟨dX_loses_0, rfl⟩ rfl ?_
  refine gs_get (v := .ref p) (pc' := 4) h ⟨dX_loses_1, rfl⟩ fgX_19 rfl (by decide) (by show (fl _ _ S.2.2 0 7)[1]? = _; rw [epq]; rfl) ?_
  refine go_iload_n (pc' := 5) h ⟨dX_loses_4, rfl⟩ rfl ?_
  refine gd_callVI (e := if 0 ≤ x ∧ x < S.1 (p + 11) 1 then 1 else 0) (E := S) (pc' := 8) (As := [.int (iI (x))]) (st := []) h hF ⟨dX_loses_5, rfl⟩ kvX_117 (cP_hasTraveller X hk hok (by omega)) (by omega) hk (by decide) ⟨_, _, rfl⟩ rfl (Nat.le_of_ble_eq_true rfl) rfl ?_
  refine gi_if_ne (tgt := 13) (pc' := 11) h dX_loses_8 rfl rfl (by split <;> omega) (fun c8 => ?_) (fun c8 => ?_)
  · have c8 := b1 c8
    refine go_aload_n (pc' := 14) h ⟨dX_loses_13, rfl⟩ rfl ?_
    refine gs_get (v := .ref 30) (pc' := 17) h ⟨dX_loses_14, rfl⟩ fgX_29 rfl (by decide) (rfl) ?_
    refine gs_get (v := .ref 39) (pc' := 20) h ⟨dX_loses_17, rfl⟩ fgX_136 rfl (by decide) (rfl) ?_
    refine gd_callVI (e := if (6 : Int) ≤ S.1 39 1 then 1 else 0) (E := S) (pc' := 23) (As := []) (st := []) h hF ⟨dX_loses_20, rfl⟩ kvX_72 (cR_isFull X rfl (hW 39 rfl)) (by omega) rfl (by decide) ⟨_, _, rfl⟩ rfl (Nat.le_of_ble_eq_true rfl) rfl ?_
    refine gi_if_eq (tgt := 29) (pc' := 26) h dX_loses_23 rfl rfl (by split <;> omega) (fun c23 => ?_) (fun c23 => ?_)
    · have c23 := b0 c23
      refine go_aload_n (pc' := 30) h ⟨dX_loses_29, rfl⟩ rfl ?_
      refine gs_get (v := .ref 30) (pc' := 33) h ⟨dX_loses_30, rfl⟩ fgX_29 rfl (by decide) (rfl) ?_
      refine gs_get (v := .ref 39) (pc' := 36) h ⟨dX_loses_33, rfl⟩ fgX_136 rfl (by decide) (rfl) ?_
      refine go_aload_n (pc' := 37) h ⟨dX_loses_36, rfl⟩ rfl ?_
      refine gs_get (v := .ref 30) (pc' := 40) h ⟨dX_loses_37, rfl⟩ fgX_29 rfl (by decide) (rfl) ?_
      refine gs_get (v := .ref 31) (pc' := 43) h ⟨dX_loses_40, rfl⟩ fgX_123 rfl (by decide) (rfl) ?_
      refine go_iload_n (pc' := 44) h ⟨dX_loses_43, rfl⟩ rfl ?_
      refine gd_callVI (e := S.1 32 x) (E := S) (pc' := 47) (As := [.int (iI (x))]) (st := [.ref 39]) h hF ⟨dX_loses_44, rfl⟩ kvX_104 (cR_ati X (n := 4) rfl rfl (by omega)) (by omega) rfl (by decide) ⟨_, _, rfl⟩ rfl (Nat.le_of_ble_eq_true rfl) rfl ?_
      refine gd_callVV (E := rpush S 39 (S.1 32 x)) (pc' := 50) (As := [.int (iI (S.1 32 x))]) (st := []) h hF ⟨dX_loses_47, rfl⟩ kvX_76 (cR_push X rfl (hW 39 rfl)) (by omega) rfl (by decide) ⟨_, _, rfl⟩ rfl (Nat.le_of_ble_eq_true rfl) rfl ?_
      refine go_aload_n (pc' := 51) h ⟨dX_loses_50, rfl⟩ rfl ?_
      refine gs_get (v := .ref 65) (pc' := 54) h ⟨dX_loses_51, rfl⟩ fgX_51 rfl (by decide) (rfl) ?_
      refine gi_iconst (pc' := 55) h ⟨dX_loses_54, rfl⟩ ?_
      refine go_iload_n (pc' := 56) h ⟨dX_loses_55, rfl⟩ rfl ?_
      refine gi_iconst (pc' := 57) h ⟨dX_loses_56, rfl⟩ ?_
      refine gd_callVV (E := dadd (rpush S 39 (S.1 32 x)) 2 x 0) (pc' := 60) (As := [.int (iI (2)), .int (iI (x)), .int (iI (0))]) (st := []) h hF ⟨dX_loses_57, rfl⟩ kvX_172 (cD_add X (hW.push rfl _)) (by omega) rfl (by decide) ⟨_, _, rfl⟩ rfl (Nat.le_of_ble_eq_true rfl) rfl ?_
      refine go_aload_n (pc' := 61) h ⟨dX_loses_60, rfl⟩ rfl ?_
      refine gs_get (v := .ref 30) (pc' := 64) h ⟨dX_loses_61, rfl⟩ fgX_29 rfl (by decide) (rfl) ?_
      refine gs_get (v := .ref 39) (pc' := 67) h ⟨dX_loses_64, rfl⟩ fgX_136 rfl (by decide) (rfl) ?_
      refine gd_callVI (e := (dadd (rpush S 39 (S.1 32 x)) 2 x 0).1 39 1) (E := dadd (rpush S 39 (S.1 32 x)) 2 x 0) (pc' := 70) (As := []) (st := []) h hF ⟨dX_loses_67, rfl⟩ kvX_79 (cR_size X rfl) (by omega) rfl (by decide) ⟨_, _, rfl⟩ rfl (Nat.le_of_ble_eq_true rfl) rfl ?_
      exact gs_iret h hE dX_loses_70 (by unfold xLoses; rw [if_neg (by omega), if_neg (by omega)]; exact ⟨rfl, rfl⟩)
    · have c23 := b1 c23
      refine gi_bipush (pc' := 28) h ⟨dX_loses_26, rfl⟩ rfl ?_
      exact gs_iret h hE dX_loses_28 (by unfold xLoses; rw [if_neg (by omega), if_pos (by omega)]; exact ⟨rfl, rfl⟩)
  · have c8 := b0 c8
    refine gi_iconst (pc' := 12) h ⟨dX_loses_11, rfl⟩ ?_
    exact gs_iret h hE dX_loses_12 (by unfold xLoses; rw [if_pos (by omega)]; exact ⟨rfl, rfl⟩)
def xGoes (S : Sg) (p : Nat) (x y : Int) : Int × Sg := if ¬ (0 ≤ x ∧ x < S.1 (p + 11) 1) ∨ y < 0 ∨ S.1 (p + 9) 1 < y then (-1, S) else if S.1 34 x = 1 ∨ y = S.1 32 x ∨ S.1 (p + 12) x < y then (-2, S) else (absI (y - S.1 32 x), dadd (rput (swear S (S.1 32 x) y 1) 31 x y) 0 x (S.1 32 x))
set_option maxRecDepth 4000 in
theorem cX_goes (X : XT) {S : Sg} {p q : Nat} (hC : CI S p q) {x : Int} (hx : -2147483648 ≤ x ∧ x ≤ 2147483647) {y : Int} (hy : -2147483648 ≤ y ∧ y ≤ 2147483647) : Ctr X 6 yX_goes bX_goes 4 (some .int) [.ref 0, .int (iI (x)), .int (iI (y))] (mk S) (PI (fun r S' => r = (xGoes S p x y).1 ∧ S' = (xGoes S p x y).2)) 0 0 := by
  refine Ctr.ofS (by decide) rfl (Nat.le_of_ble_eq_true rfl) (fun F h hF hE => ?_)
  obtain ⟨epq, opq, hW, hok, cb, hlt, hmk, hsc, hwl, hwr, hth, hdd, hse, hme, hke⟩ := id hC
  have hp : p = 4 ∨ p = 17 := by omega
  have hk := kd_p hp
  obtain ⟨k1, k3, k5, k7, k9, k11, l2, l4, l6, l8, l10, l12⟩ := plan_ok hk
  obtain ⟨o1, o2, o3, o4, o5, o6, o7⟩ := id hok
  have z39 : 0 ≤ S.1 39 1 ∧ S.1 39 1 ≤ 6 := hW 39 rfl
  have z66 : 0 ≤ S.1 66 1 ∧ S.1 66 1 ≤ 10 := hW 66 rfl
  have z2 : 0 ≤ S.1 2 1 ∧ S.1 2 1 ≤ 120 := hW 2 rfl
  have z75 : 0 ≤ S.1 75 1 ∧ S.1 75 1 ≤ 6 := hW 75 rfl
  have z84 : 0 ≤ S.1 84 1 ∧ S.1 84 1 ≤ 6 := hW 84 rfl
  refine go_aload_n (pc' := 1) h ⟨dX_goes_0, rfl⟩ rfl ?_
  refine gs_get (v := .ref p) (pc' := 4) h ⟨dX_goes_1, rfl⟩ fgX_19 rfl (by decide) (by show (fl _ _ S.2.2 0 7)[1]? = _; rw [epq]; rfl) ?_
  refine go_iload_n (pc' := 5) h ⟨dX_goes_4, rfl⟩ rfl ?_
  refine gd_callVI (e := if 0 ≤ x ∧ x < S.1 (p + 11) 1 then 1 else 0) (E := S) (pc' := 8) (As := [.int (iI (x))]) (st := []) h hF ⟨dX_goes_5, rfl⟩ kvX_117 (cP_hasTraveller X hk hok (by omega)) (by omega) hk (by decide) ⟨_, _, rfl⟩ rfl (Nat.le_of_ble_eq_true rfl) rfl ?_
  refine gi_if_eq (tgt := 26) (pc' := 11) h dX_goes_8 rfl rfl (by split <;> omega) (fun c8 => ?_) (fun c8 => ?_)
  · have c8 := b0 c8
    refine gi_iconst (pc' := 27) h ⟨dX_goes_26, rfl⟩ ?_
    exact gs_iret h hE dX_goes_27 (by unfold xGoes; rw [if_pos (by omega)]; exact ⟨rfl, rfl⟩)
  · have c8 := b1 c8
    refine go_iload_n (pc' := 12) h ⟨dX_goes_11, rfl⟩ rfl ?_
    refine gi_if_lt (tgt := 26) (pc' := 15) h dX_goes_12 rfl rfl (by omega) (fun c12 => ?_) (fun c12 => ?_)
    · refine gi_iconst (pc' := 27) h ⟨dX_goes_26, rfl⟩ ?_
      exact gs_iret h hE dX_goes_27 (by unfold xGoes; rw [if_pos (by omega)]; exact ⟨rfl, rfl⟩)
    · refine go_iload_n (pc' := 16) h ⟨dX_goes_15, rfl⟩ rfl ?_
      refine go_aload_n (pc' := 17) h ⟨dX_goes_16, rfl⟩ rfl ?_
      refine gs_get (v := .ref p) (pc' := 20) h ⟨dX_goes_17, rfl⟩ fgX_19 rfl (by decide) (by show (fl _ _ S.2.2 0 7)[1]? = _; rw [epq]; rfl) ?_
      refine gd_callVI (e := S.1 (p + 9) 1) (E := S) (pc' := 23) (As := []) (st := [.int (iI (y))]) h hF ⟨dX_goes_20, rfl⟩ kvX_139 (cP_top X hk) (by omega) hk (by decide) ⟨_, _, rfl⟩ rfl (Nat.le_of_ble_eq_true rfl) rfl ?_
      refine gi_icmp_le (tgt := 28) (pc' := 26) h dX_goes_23 rfl rfl (by omega) (fun c23 => ?_) (fun c23 => ?_)
      · have s1 := hsc x (by omega) (by omega)
        refine go_aload_n (pc' := 29) h ⟨dX_goes_28, rfl⟩ rfl ?_
        refine gs_get (v := .ref 30) (pc' := 32) h ⟨dX_goes_29, rfl⟩ fgX_29 rfl (by decide) (rfl) ?_
        refine gs_get (v := .ref 31) (pc' := 35) h ⟨dX_goes_32, rfl⟩ fgX_123 rfl (by decide) (rfl) ?_
        refine go_iload_n (pc' := 36) h ⟨dX_goes_35, rfl⟩ rfl ?_
        refine gd_callVI (e := S.1 32 x) (E := S) (pc' := 39) (As := [.int (iI (x))]) (st := []) h hF ⟨dX_goes_36, rfl⟩ kvX_104 (cR_ati X (n := 4) rfl rfl (by omega)) (by omega) rfl (by decide) ⟨_, _, rfl⟩ rfl (Nat.le_of_ble_eq_true rfl) rfl ?_
        refine go_istore_n (L' := [.ref 0, .int (iI (x)), .int (iI (y)), .int (iI (S.1 32 x))]) (pc' := 40) h ⟨dX_goes_39, rfl⟩ (by decide) rfl rfl ?_
        refine go_aload_n (pc' := 41) h ⟨dX_goes_40, rfl⟩ rfl ?_
        refine gs_get (v := .ref 30) (pc' := 44) h ⟨dX_goes_41, rfl⟩ fgX_29 rfl (by decide) (rfl) ?_
        refine go_iload_n (pc' := 45) h ⟨dX_goes_44, rfl⟩ rfl ?_
        refine gd_callVI (e := if S.1 34 x = 1 then 1 else 0) (E := S) (pc' := 48) (As := [.int (iI (x))]) (st := []) h hF ⟨dX_goes_45, rfl⟩ kvX_161 (cS_hasStayed X (by omega) (hsc _ (by omega) (by omega)).2) (by omega) rfl (by decide) ⟨_, _, rfl⟩ rfl (Nat.le_of_ble_eq_true rfl) rfl ?_
        refine gi_if_ne (tgt := 71) (pc' := 51) h dX_goes_48 rfl rfl (by split <;> omega) (fun c48 => ?_) (fun c48 => ?_)
        · have c48 := b1 c48
          refine gi_bipush (pc' := 73) h ⟨dX_goes_71, rfl⟩ rfl ?_
          exact gs_iret h hE dX_goes_73 (by unfold xGoes; rw [if_neg (by omega), if_pos (by omega)]; exact ⟨rfl, rfl⟩)
        · have c48 := b0 c48
          have s2 := o6 x (by omega) (by omega)
          refine go_iload_n (pc' := 52) h ⟨dX_goes_51, rfl⟩ rfl ?_
          refine go_iload_n (pc' := 53) h ⟨dX_goes_52, rfl⟩ rfl ?_
          refine gi_icmp_eq (tgt := 71) (pc' := 56) h dX_goes_53 rfl rfl (by omega) (fun c53 => ?_) (fun c53 => ?_)
          · refine gi_bipush (pc' := 73) h ⟨dX_goes_71, rfl⟩ rfl ?_
            exact gs_iret h hE dX_goes_73 (by unfold xGoes; rw [if_neg (by omega), if_pos (by omega)]; exact ⟨rfl, rfl⟩)
          · refine go_iload_n (pc' := 57) h ⟨dX_goes_56, rfl⟩ rfl ?_
            refine go_aload_n (pc' := 58) h ⟨dX_goes_57, rfl⟩ rfl ?_
            refine gs_get (v := .ref p) (pc' := 61) h ⟨dX_goes_58, rfl⟩ fgX_19 rfl (by decide) (by show (fl _ _ S.2.2 0 7)[1]? = _; rw [epq]; rfl) ?_
            refine gs_get (v := .ref (p + 11)) (pc' := 64) h ⟨dX_goes_61, rfl⟩ fgX_120 hk (by decide) (rfl) ?_
            refine go_iload_n (pc' := 65) h ⟨dX_goes_64, rfl⟩ rfl ?_
            refine gd_callVI (e := S.1 (p + 12) x) (E := S) (pc' := 68) (As := [.int (iI (x))]) (st := [.int (iI (y))]) h hF ⟨dX_goes_65, rfl⟩ kvX_104 (cR_ati X (n := 4) k11 l12 (by omega)) (by omega) k11 (by decide) ⟨_, _, rfl⟩ rfl (Nat.le_of_ble_eq_true rfl) rfl ?_
            refine gi_icmp_le (tgt := 74) (pc' := 71) h dX_goes_68 rfl rfl (by omega) (fun c68 => ?_) (fun c68 => ?_)
            · refine go_aload_n (pc' := 75) h ⟨dX_goes_74, rfl⟩ rfl ?_
              refine gs_get (v := .ref 30) (pc' := 78) h ⟨dX_goes_75, rfl⟩ fgX_29 rfl (by decide) (rfl) ?_
              refine go_iload_n (pc' := 79) h ⟨dX_goes_78, rfl⟩ rfl ?_
              refine go_iload_n (pc' := 80) h ⟨dX_goes_79, rfl⟩ rfl ?_
              refine gi_iconst (pc' := 81) h ⟨dX_goes_80, rfl⟩ ?_
              refine gd_callVV (E := swear S (S.1 32 x) y 1) (pc' := 84) (As := [.int (iI (S.1 32 x)), .int (iI (y)), .int (iI (1))]) (st := []) h hF ⟨dX_goes_81, rfl⟩ kvX_164 (cS_wearWay X (by omega) (by omega) (by omega) hwl hwr) (by omega) rfl (by decide) ⟨_, _, rfl⟩ rfl (Nat.le_of_ble_eq_true rfl) rfl ?_
              refine go_aload_n (pc' := 85) h ⟨dX_goes_84, rfl⟩ rfl ?_
              refine gs_get (v := .ref 30) (pc' := 88) h ⟨dX_goes_85, rfl⟩ fgX_29 rfl (by decide) (rfl) ?_
              refine gs_get (v := .ref 31) (pc' := 91) h ⟨dX_goes_88, rfl⟩ fgX_123 rfl (by decide) (rfl) ?_
              refine go_iload_n (pc' := 92) h ⟨dX_goes_91, rfl⟩ rfl ?_
              refine go_iload_n (pc' := 93) h ⟨dX_goes_92, rfl⟩ rfl ?_
              refine gd_callVV (E := rput (swear S (S.1 32 x) y 1) 31 x y) (pc' := 96) (As := [.int (iI (x)), .int (iI (y))]) (st := []) h hF ⟨dX_goes_93, rfl⟩ kvX_168 (cR_put X rfl (by omega)) (by omega) rfl (by decide) ⟨_, _, rfl⟩ rfl (Nat.le_of_ble_eq_true rfl) rfl ?_
              refine go_aload_n (pc' := 97) h ⟨dX_goes_96, rfl⟩ rfl ?_
              refine gs_get (v := .ref 65) (pc' := 100) h ⟨dX_goes_97, rfl⟩ fgX_51 rfl (by decide) (rfl) ?_
              refine gi_iconst (pc' := 101) h ⟨dX_goes_100, rfl⟩ ?_
              refine go_iload_n (pc' := 102) h ⟨dX_goes_101, rfl⟩ rfl ?_
              refine go_iload_n (pc' := 103) h ⟨dX_goes_102, rfl⟩ rfl ?_
              refine gd_callVV (E := dadd (rput (swear S (S.1 32 x) y 1) 31 x y) 0 x (S.1 32 x)) (pc' := 106) (As := [.int (iI (0)), .int (iI (x)), .int (iI (S.1 32 x))]) (st := []) h hF ⟨dX_goes_103, rfl⟩ kvX_172 (cD_add X ((hW.wear _ _ _).put rfl _ _)) (by omega) rfl (by decide) ⟨_, _, rfl⟩ rfl (Nat.le_of_ble_eq_true rfl) rfl ?_
              refine go_iload_n (pc' := 107) h ⟨dX_goes_106, rfl⟩ rfl ?_
              refine go_iload_n (pc' := 108) h ⟨dX_goes_107, rfl⟩ rfl ?_
              refine gi_isub (pc' := 109) h ⟨dX_goes_108, rfl⟩ ?_
              refine gd_callSI (e := absI (y - (S.1 32 x))) (E := dadd (rput (swear S (S.1 32 x) y 1) 31 x y) 0 x (S.1 32 x)) (pc' := 112) (As := [.int (iI (y - (S.1 32 x)))]) (st := []) h hF ⟨dX_goes_109, rfl⟩ kvX_175 (cK_abs X (by omega)) (by omega) rfl (Nat.le_of_ble_eq_true rfl) rfl ?_
              exact gs_iret h hE dX_goes_112 (by unfold xGoes; rw [if_neg (by omega), if_neg (by omega)]; exact ⟨rfl, rfl⟩)
            · refine gi_bipush (pc' := 73) h ⟨dX_goes_71, rfl⟩ rfl ?_
              exact gs_iret h hE dX_goes_73 (by unfold xGoes; rw [if_neg (by omega), if_pos (by omega)]; exact ⟨rfl, rfl⟩)
      · refine gi_iconst (pc' := 27) h ⟨dX_goes_26, rfl⟩ ?_
        exact gs_iret h hE dX_goes_27 (by unfold xGoes; rw [if_pos (by omega)]; exact ⟨rfl, rfl⟩)
def xUndo (S : Sg) (p : Nat) : Int × Sg := if S.1 66 1 = 0 then (-2, S) else ((ddrop (dback S (S.1 67 (S.1 66 1 - 1)) (S.1 69 (S.1 66 1 - 1)) (S.1 71 (S.1 66 1 - 1))) (S.1 66 1 - 1)).1 66 1, ddrop (dback S (S.1 67 (S.1 66 1 - 1)) (S.1 69 (S.1 66 1 - 1)) (S.1 71 (S.1 66 1 - 1))) (S.1 66 1 - 1))
set_option maxRecDepth 4000 in
theorem cX_undo (X : XT) {S : Sg} {p q : Nat} (hC : CI S p q) : Ctr X 6 yX_undo bX_undo 1 (some .int) [.ref 0] (mk S) (PI (fun r S' => r = (xUndo S p).1 ∧ S' = (xUndo S p).2)) 0 0 := by
  refine Ctr.ofS (by decide) rfl (Nat.le_of_ble_eq_true rfl) (fun F h hF hE => ?_)
  obtain ⟨epq, opq, hW, hok, cb, hlt, hmk, hsc, hwl, hwr, hth, hdd, hse, hme, hke⟩ := id hC
  have hp : p = 4 ∨ p = 17 := by omega
  have hk := kd_p hp
  obtain ⟨k1, k3, k5, k7, k9, k11, l2, l4, l6, l8, l10, l12⟩ := plan_ok hk
  obtain ⟨o1, o2, o3, o4, o5, o6, o7⟩ := id hok
  have z39 : 0 ≤ S.1 39 1 ∧ S.1 39 1 ≤ 6 := hW 39 rfl
  have z66 : 0 ≤ S.1 66 1 ∧ S.1 66 1 ≤ 10 := hW 66 rfl
  have z2 : 0 ≤ S.1 2 1 ∧ S.1 2 1 ≤ 120 := hW 2 rfl
  have z75 : 0 ≤ S.1 75 1 ∧ S.1 75 1 ≤ 6 := hW 75 rfl
  have z84 : 0 ≤ S.1 84 1 ∧ S.1 84 1 ≤ 6 := hW 84 rfl
  refine go_aload_n (pc' := 1) h ⟨dX_undo_0, rfl⟩ rfl ?_
  refine gs_get (v := .ref 65) (pc' := 4) h ⟨dX_undo_1, rfl⟩ fgX_51 rfl (by decide) (rfl) ?_
  refine gd_callVI (e := S.1 66 1) (E := S) (pc' := 7) (As := []) (st := []) h hF ⟨dX_undo_4, rfl⟩ kvX_158 (cD_known X) (by omega) rfl (by decide) ⟨_, _, rfl⟩ rfl (Nat.le_of_ble_eq_true rfl) rfl ?_
  refine gi_if_ne (tgt := 13) (pc' := 10) h dX_undo_7 rfl rfl (by omega) (fun c7 => ?_) (fun c7 => ?_)
  · have d1 := hdd (S.1 66 1 - 1) (by omega) (by omega)
    have d2 := hsc (S.1 69 (S.1 66 1 - 1)) (by omega) (by omega)
    refine go_aload_n (pc' := 14) h ⟨dX_undo_13, rfl⟩ rfl ?_
    refine gs_get (v := .ref 65) (pc' := 17) h ⟨dX_undo_14, rfl⟩ fgX_51 rfl (by decide) (rfl) ?_
    refine go_aload_n (pc' := 18) h ⟨dX_undo_17, rfl⟩ rfl ?_
    refine gs_get (v := .ref 30) (pc' := 21) h ⟨dX_undo_18, rfl⟩ fgX_29 rfl (by decide) (rfl) ?_
    refine gd_callVV (E := ddrop (dback S (S.1 67 (S.1 66 1 - 1)) (S.1 69 (S.1 66 1 - 1)) (S.1 71 (S.1 66 1 - 1))) (S.1 66 1 - 1)) (pc' := 24) (As := [.ref 30]) (st := []) h hF ⟨dX_undo_21, rfl⟩ kvX_186 (cD_back X hW rfl rfl rfl rfl (by omega) d1.1 d1.2.1 d1.2.2 d2.1 hwl hwr) (by omega) rfl (by decide) ⟨_, _, rfl⟩ rfl (Nat.le_of_ble_eq_true rfl) rfl ?_
    refine go_aload_n (pc' := 25) h ⟨dX_undo_24, rfl⟩ rfl ?_
    refine gs_get (v := .ref 65) (pc' := 28) h ⟨dX_undo_25, rfl⟩ fgX_51 rfl (by decide) (rfl) ?_
    refine gd_callVI (e := (ddrop (dback S (S.1 67 (S.1 66 1 - 1)) (S.1 69 (S.1 66 1 - 1)) (S.1 71 (S.1 66 1 - 1))) (S.1 66 1 - 1)).1 66 1) (E := ddrop (dback S (S.1 67 (S.1 66 1 - 1)) (S.1 69 (S.1 66 1 - 1)) (S.1 71 (S.1 66 1 - 1))) (S.1 66 1 - 1)) (pc' := 31) (As := []) (st := []) h hF ⟨dX_undo_28, rfl⟩ kvX_158 (cD_known X) (by omega) rfl (by decide) ⟨_, _, rfl⟩ rfl (Nat.le_of_ble_eq_true rfl) rfl ?_
    exact gs_iret h hE dX_undo_31 (by unfold xUndo; rw [if_neg (by omega)]; exact ⟨rfl, rfl⟩)
  · refine gi_bipush (pc' := 12) h ⟨dX_undo_10, rfl⟩ rfl ?_
    exact gs_iret h hE dX_undo_12 (by unfold xUndo; rw [if_pos (by omega)]; exact ⟨rfl, rfl⟩)
def xSees (S : Sg) (p : Nat) (x y : Int) : Int × Sg := if ¬ (0 ≤ x ∧ x < S.1 (p + 9) 1) ∨ y < 0 ∨ 40 < y then (-1, S) else if 6 ≤ S.1 75 1 then (-3, S) else ((rpush (rpush S 73 (sumI (fun t => if x < S.1 (p + 12) t then 1 else 0) (S.1 (p + 11) 1))) 75 y).1 75 1, rpush (rpush S 73 (sumI (fun t => if x < S.1 (p + 12) t then 1 else 0) (S.1 (p + 11) 1))) 75 y)
set_option maxRecDepth 4000 in
theorem cX_sees (X : XT) {S : Sg} {p q : Nat} (hC : CI S p q) {x : Int} (hx : -2147483648 ≤ x ∧ x ≤ 2147483647) {y : Int} (hy : -2147483648 ≤ y ∧ y ≤ 2147483647) : Ctr X 6 yX_sees bX_sees 3 (some .int) [.ref 0, .int (iI (x)), .int (iI (y))] (mk S) (PI (fun r S' => r = (xSees S p x y).1 ∧ S' = (xSees S p x y).2)) 0 0 := by
  refine Ctr.ofS (by decide) rfl (Nat.le_of_ble_eq_true rfl) (fun F h hF hE => ?_)
  obtain ⟨epq, opq, hW, hok, cb, hlt, hmk, hsc, hwl, hwr, hth, hdd, hse, hme, hke⟩ := id hC
  have hp : p = 4 ∨ p = 17 := by omega
  have hk := kd_p hp
  obtain ⟨k1, k3, k5, k7, k9, k11, l2, l4, l6, l8, l10, l12⟩ := plan_ok hk
  obtain ⟨o1, o2, o3, o4, o5, o6, o7⟩ := id hok
  have z39 : 0 ≤ S.1 39 1 ∧ S.1 39 1 ≤ 6 := hW 39 rfl
  have z66 : 0 ≤ S.1 66 1 ∧ S.1 66 1 ≤ 10 := hW 66 rfl
  have z2 : 0 ≤ S.1 2 1 ∧ S.1 2 1 ≤ 120 := hW 2 rfl
  have z75 : 0 ≤ S.1 75 1 ∧ S.1 75 1 ≤ 6 := hW 75 rfl
  have z84 : 0 ≤ S.1 84 1 ∧ S.1 84 1 ≤ 6 := hW 84 rfl
  refine go_aload_n (pc' := 1) h ⟨dX_sees_0, rfl⟩ rfl ?_
  refine gs_get (v := .ref p) (pc' := 4) h ⟨dX_sees_1, rfl⟩ fgX_19 rfl (by decide) (by show (fl _ _ S.2.2 0 7)[1]? = _; rw [epq]; rfl) ?_
  refine go_iload_n (pc' := 5) h ⟨dX_sees_4, rfl⟩ rfl ?_
  refine gd_callVI (e := if 0 ≤ x ∧ x < S.1 (p + 9) 1 then 1 else 0) (E := S) (pc' := 8) (As := [.int (iI (x))]) (st := []) h hF ⟨dX_sees_5, rfl⟩ kvX_129 (cP_hasThousand X hk hok (by omega)) (by omega) hk (by decide) ⟨_, _, rfl⟩ rfl (Nat.le_of_ble_eq_true rfl) rfl ?_
  refine gi_if_eq (tgt := 21) (pc' := 11) h dX_sees_8 rfl rfl (by split <;> omega) (fun c8 => ?_) (fun c8 => ?_)
  · have c8 := b0 c8
    refine gi_iconst (pc' := 22) h ⟨dX_sees_21, rfl⟩ ?_
    exact gs_iret h hE dX_sees_22 (by unfold xSees; rw [if_pos (by omega)]; exact ⟨rfl, rfl⟩)
  · have c8 := b1 c8
    refine go_iload_n (pc' := 12) h ⟨dX_sees_11, rfl⟩ rfl ?_
    refine gi_if_lt (tgt := 21) (pc' := 15) h dX_sees_12 rfl rfl (by omega) (fun c12 => ?_) (fun c12 => ?_)
    · refine gi_iconst (pc' := 22) h ⟨dX_sees_21, rfl⟩ ?_
      exact gs_iret h hE dX_sees_22 (by unfold xSees; rw [if_pos (by omega)]; exact ⟨rfl, rfl⟩)
    · refine go_iload_n (pc' := 16) h ⟨dX_sees_15, rfl⟩ rfl ?_
      refine gi_bipush (pc' := 18) h ⟨dX_sees_16, rfl⟩ rfl ?_
      refine gi_icmp_le (tgt := 23) (pc' := 21) h dX_sees_18 rfl rfl (by omega) (fun c18 => ?_) (fun c18 => ?_)
      · refine go_aload_n (pc' := 24) h ⟨dX_sees_23, rfl⟩ rfl ?_
        refine gs_get (v := .ref 72) (pc' := 27) h ⟨dX_sees_24, rfl⟩ fgX_58 rfl (by decide) (rfl) ?_
        refine gs_get (v := .ref 75) (pc' := 30) h ⟨dX_sees_27, rfl⟩ fgX_197 rfl (by decide) (rfl) ?_
        refine gd_callVI (e := if (6 : Int) ≤ S.1 75 1 then 1 else 0) (E := S) (pc' := 33) (As := []) (st := []) h hF ⟨dX_sees_30, rfl⟩ kvX_72 (cR_isFull X rfl (hW 75 rfl)) (by omega) rfl (by decide) ⟨_, _, rfl⟩ rfl (Nat.le_of_ble_eq_true rfl) rfl ?_
        refine gi_if_eq (tgt := 39) (pc' := 36) h dX_sees_33 rfl rfl (by split <;> omega) (fun c33 => ?_) (fun c33 => ?_)
        · have c33 := b0 c33
          refine go_aload_n (pc' := 40) h ⟨dX_sees_39, rfl⟩ rfl ?_
          refine gs_get (v := .ref 72) (pc' := 43) h ⟨dX_sees_40, rfl⟩ fgX_58 rfl (by decide) (rfl) ?_
          refine go_aload_n (pc' := 44) h ⟨dX_sees_43, rfl⟩ rfl ?_
          refine gs_get (v := .ref p) (pc' := 47) h ⟨dX_sees_44, rfl⟩ fgX_19 rfl (by decide) (by show (fl _ _ S.2.2 0 7)[1]? = _; rw [epq]; rfl) ?_
          refine go_iload_n (pc' := 48) h ⟨dX_sees_47, rfl⟩ rfl ?_
          refine gd_callVI (e := sumI (fun t => if x < S.1 (p + 12) t then 1 else 0) (S.1 (p + 11) 1)) (E := S) (pc' := 51) (As := [.int (iI (x))]) (st := [.ref 72]) h hF ⟨dX_sees_48, rfl⟩ kvX_200 (cP_climb X hk hok (by omega)) (by omega) hk (by decide) ⟨_, _, rfl⟩ rfl (Nat.le_of_ble_eq_true rfl) rfl ?_
          refine go_iload_n (pc' := 52) h ⟨dX_sees_51, rfl⟩ rfl ?_
          refine gd_callVV (E := rpush (rpush S 73 (sumI (fun t => if x < S.1 (p + 12) t then 1 else 0) (S.1 (p + 11) 1))) 75 y) (pc' := 55) (As := [.int (iI (sumI (fun t => if x < S.1 (p + 12) t then 1 else 0) (S.1 (p + 11) 1))), .int (iI (y))]) (st := []) h hF ⟨dX_sees_52, rfl⟩ kvX_203 (cN_add X hW) (by omega) rfl (by decide) ⟨_, _, rfl⟩ rfl (Nat.le_of_ble_eq_true rfl) rfl ?_
          refine go_aload_n (pc' := 56) h ⟨dX_sees_55, rfl⟩ rfl ?_
          refine gs_get (v := .ref 72) (pc' := 59) h ⟨dX_sees_56, rfl⟩ fgX_58 rfl (by decide) (rfl) ?_
          refine gs_get (v := .ref 75) (pc' := 62) h ⟨dX_sees_59, rfl⟩ fgX_197 rfl (by decide) (rfl) ?_
          refine gd_callVI (e := (rpush (rpush S 73 (sumI (fun t => if x < S.1 (p + 12) t then 1 else 0) (S.1 (p + 11) 1))) 75 y).1 75 1) (E := rpush (rpush S 73 (sumI (fun t => if x < S.1 (p + 12) t then 1 else 0) (S.1 (p + 11) 1))) 75 y) (pc' := 65) (As := []) (st := []) h hF ⟨dX_sees_62, rfl⟩ kvX_79 (cR_size X rfl) (by omega) rfl (by decide) ⟨_, _, rfl⟩ rfl (Nat.le_of_ble_eq_true rfl) rfl ?_
          exact gs_iret h hE dX_sees_65 (by unfold xSees; rw [if_neg (by omega), if_neg (by omega)]; exact ⟨rfl, rfl⟩)
        · have c33 := b1 c33
          refine gi_bipush (pc' := 38) h ⟨dX_sees_36, rfl⟩ rfl ?_
          exact gs_iret h hE dX_sees_38 (by unfold xSees; rw [if_neg (by omega), if_pos (by omega)]; exact ⟨rfl, rfl⟩)
      · refine gi_iconst (pc' := 22) h ⟨dX_sees_21, rfl⟩ ?_
        exact gs_iret h hE dX_sees_22 (by unfold xSees; rw [if_pos (by omega)]; exact ⟨rfl, rfl⟩)
def xMeas (S : Sg) (p : Nat) (x y v : Int) : Int × Sg := if ¬ (0 ≤ x ∧ x ≤ S.1 (p + 1) 1) ∨ ¬ (0 ≤ y ∧ y ≤ S.1 (p + 1) 1) ∨ y ≤ x ∨ v < 0 ∨ 999999 < v then (-1, S) else if 6 ≤ S.1 84 1 then (-3, S) else ((rpush (rpush (rpush S 80 x) 82 y) 84 v).1 84 1, rpush (rpush (rpush S 80 x) 82 y) 84 v)
set_option maxRecDepth 4000 in
theorem cX_measures (X : XT) {S : Sg} {p q : Nat} (hC : CI S p q) {x : Int} (hx : -2147483648 ≤ x ∧ x ≤ 2147483647) {y : Int} (hy : -2147483648 ≤ y ∧ y ≤ 2147483647) {v : Int} (hv : -2147483648 ≤ v ∧ v ≤ 2147483647) : Ctr X 6 yX_measures bX_measures 4 (some .int) [.ref 0, .int (iI (x)), .int (iI (y)), .int (iI (v))] (mk S) (PI (fun r S' => r = (xMeas S p x y v).1 ∧ S' = (xMeas S p x y v).2)) 0 0 := by
  refine Ctr.ofS (by decide) rfl (Nat.le_of_ble_eq_true rfl) (fun F h hF hE => ?_)
  obtain ⟨epq, opq, hW, hok, cb, hlt, hmk, hsc, hwl, hwr, hth, hdd, hse, hme, hke⟩ := id hC
  have hp : p = 4 ∨ p = 17 := by omega
  have hk := kd_p hp
  obtain ⟨k1, k3, k5, k7, k9, k11, l2, l4, l6, l8, l10, l12⟩ := plan_ok hk
  obtain ⟨o1, o2, o3, o4, o5, o6, o7⟩ := id hok
  have z39 : 0 ≤ S.1 39 1 ∧ S.1 39 1 ≤ 6 := hW 39 rfl
  have z66 : 0 ≤ S.1 66 1 ∧ S.1 66 1 ≤ 10 := hW 66 rfl
  have z2 : 0 ≤ S.1 2 1 ∧ S.1 2 1 ≤ 120 := hW 2 rfl
  have z75 : 0 ≤ S.1 75 1 ∧ S.1 75 1 ≤ 6 := hW 75 rfl
  have z84 : 0 ≤ S.1 84 1 ∧ S.1 84 1 ≤ 6 := hW 84 rfl
  refine go_aload_n (pc' := 1) h ⟨dX_measures_0, rfl⟩ rfl ?_
  refine gs_get (v := .ref p) (pc' := 4) h ⟨dX_measures_1, rfl⟩ fgX_19 rfl (by decide) (by show (fl _ _ S.2.2 0 7)[1]? = _; rw [epq]; rfl) ?_
  refine go_iload_n (pc' := 5) h ⟨dX_measures_4, rfl⟩ rfl ?_
  refine gd_callVI (e := if 0 ≤ x ∧ x ≤ S.1 (p + 1) 1 then 1 else 0) (E := S) (pc' := 8) (As := [.int (iI (x))]) (st := []) h hF ⟨dX_measures_5, rfl⟩ kvX_218 (cP_hasLanding X hk hok (by omega)) (by omega) hk (by decide) ⟨_, _, rfl⟩ rfl (Nat.le_of_ble_eq_true rfl) rfl ?_
  refine gi_if_eq (tgt := 27) (pc' := 11) h dX_measures_8 rfl rfl (by split <;> omega) (fun c8 => ?_) (fun c8 => ?_)
  · have c8 := b0 c8
    refine gi_iconst (pc' := 28) h ⟨dX_measures_27, rfl⟩ ?_
    exact gs_iret h hE dX_measures_28 (by unfold xMeas; rw [if_pos (by omega)]; exact ⟨rfl, rfl⟩)
  · have c8 := b1 c8
    refine go_aload_n (pc' := 12) h ⟨dX_measures_11, rfl⟩ rfl ?_
    refine gs_get (v := .ref p) (pc' := 15) h ⟨dX_measures_12, rfl⟩ fgX_19 rfl (by decide) (by show (fl _ _ S.2.2 0 7)[1]? = _; rw [epq]; rfl) ?_
    refine go_iload_n (pc' := 16) h ⟨dX_measures_15, rfl⟩ rfl ?_
    refine gd_callVI (e := if 0 ≤ y ∧ y ≤ S.1 (p + 1) 1 then 1 else 0) (E := S) (pc' := 19) (As := [.int (iI (y))]) (st := []) h hF ⟨dX_measures_16, rfl⟩ kvX_218 (cP_hasLanding X hk hok (by omega)) (by omega) hk (by decide) ⟨_, _, rfl⟩ rfl (Nat.le_of_ble_eq_true rfl) rfl ?_
    refine gi_if_eq (tgt := 27) (pc' := 22) h dX_measures_19 rfl rfl (by split <;> omega) (fun c19 => ?_) (fun c19 => ?_)
    · have c19 := b0 c19
      refine gi_iconst (pc' := 28) h ⟨dX_measures_27, rfl⟩ ?_
      exact gs_iret h hE dX_measures_28 (by unfold xMeas; rw [if_pos (by omega)]; exact ⟨rfl, rfl⟩)
    · have c19 := b1 c19
      refine go_iload_n (pc' := 23) h ⟨dX_measures_22, rfl⟩ rfl ?_
      refine go_iload_n (pc' := 24) h ⟨dX_measures_23, rfl⟩ rfl ?_
      refine gi_icmp_gt (tgt := 29) (pc' := 27) h dX_measures_24 rfl rfl (by omega) (fun c24 => ?_) (fun c24 => ?_)
      · refine go_iload_n (pc' := 30) h ⟨dX_measures_29, rfl⟩ rfl ?_
        refine gi_if_lt (tgt := 39) (pc' := 33) h dX_measures_30 rfl rfl (by omega) (fun c30 => ?_) (fun c30 => ?_)
        · refine gi_iconst (pc' := 40) h ⟨dX_measures_39, rfl⟩ ?_
          exact gs_iret h hE dX_measures_40 (by unfold xMeas; rw [if_pos (by omega)]; exact ⟨rfl, rfl⟩)
        · refine go_iload_n (pc' := 34) h ⟨dX_measures_33, rfl⟩ rfl ?_
          refine gi_ldc (n := 999999) (pc' := 36) h ⟨dX_measures_34, rfl⟩ csX_221 ?_
          refine gi_icmp_le (tgt := 41) (pc' := 39) h dX_measures_36 rfl rfl (by omega) (fun c36 => ?_) (fun c36 => ?_)
          · refine go_aload_n (pc' := 42) h ⟨dX_measures_41, rfl⟩ rfl ?_
            refine gs_get (v := .ref 79) (pc' := 45) h ⟨dX_measures_42, rfl⟩ fgX_65 rfl (by decide) (rfl) ?_
            refine gs_get (v := .ref 84) (pc' := 48) h ⟨dX_measures_45, rfl⟩ fgX_222 rfl (by decide) (rfl) ?_
            refine gd_callVI (e := if (6 : Int) ≤ S.1 84 1 then 1 else 0) (E := S) (pc' := 51) (As := []) (st := []) h hF ⟨dX_measures_48, rfl⟩ kvX_72 (cR_isFull X rfl (hW 84 rfl)) (by omega) rfl (by decide) ⟨_, _, rfl⟩ rfl (Nat.le_of_ble_eq_true rfl) rfl ?_
            refine gi_if_eq (tgt := 57) (pc' := 54) h dX_measures_51 rfl rfl (by split <;> omega) (fun c51 => ?_) (fun c51 => ?_)
            · have c51 := b0 c51
              refine go_aload_n (pc' := 58) h ⟨dX_measures_57, rfl⟩ rfl ?_
              refine gs_get (v := .ref 79) (pc' := 61) h ⟨dX_measures_58, rfl⟩ fgX_65 rfl (by decide) (rfl) ?_
              refine go_iload_n (pc' := 62) h ⟨dX_measures_61, rfl⟩ rfl ?_
              refine go_iload_n (pc' := 63) h ⟨dX_measures_62, rfl⟩ rfl ?_
              refine go_iload_n (pc' := 64) h ⟨dX_measures_63, rfl⟩ rfl ?_
              refine gd_callVV (E := rpush (rpush (rpush S 80 x) 82 y) 84 v) (pc' := 67) (As := [.int (iI (x)), .int (iI (y)), .int (iI (v))]) (st := []) h hF ⟨dX_measures_64, rfl⟩ kvX_225 (cM_add X hW) (by omega) rfl (by decide) ⟨_, _, rfl⟩ rfl (Nat.le_of_ble_eq_true rfl) rfl ?_
              refine go_aload_n (pc' := 68) h ⟨dX_measures_67, rfl⟩ rfl ?_
              refine gs_get (v := .ref 79) (pc' := 71) h ⟨dX_measures_68, rfl⟩ fgX_65 rfl (by decide) (rfl) ?_
              refine gs_get (v := .ref 84) (pc' := 74) h ⟨dX_measures_71, rfl⟩ fgX_222 rfl (by decide) (rfl) ?_
              refine gd_callVI (e := (rpush (rpush (rpush S 80 x) 82 y) 84 v).1 84 1) (E := rpush (rpush (rpush S 80 x) 82 y) 84 v) (pc' := 77) (As := []) (st := []) h hF ⟨dX_measures_74, rfl⟩ kvX_79 (cR_size X rfl) (by omega) rfl (by decide) ⟨_, _, rfl⟩ rfl (Nat.le_of_ble_eq_true rfl) rfl ?_
              exact gs_iret h hE dX_measures_77 (by unfold xMeas; rw [if_neg (by omega), if_neg (by omega)]; exact ⟨rfl, rfl⟩)
            · have c51 := b1 c51
              refine gi_bipush (pc' := 56) h ⟨dX_measures_54, rfl⟩ rfl ?_
              exact gs_iret h hE dX_measures_56 (by unfold xMeas; rw [if_neg (by omega), if_pos (by omega)]; exact ⟨rfl, rfl⟩)
          · refine gi_iconst (pc' := 40) h ⟨dX_measures_39, rfl⟩ ?_
            exact gs_iret h hE dX_measures_40 (by unfold xMeas; rw [if_pos (by omega)]; exact ⟨rfl, rfl⟩)
      · refine gi_iconst (pc' := 28) h ⟨dX_measures_27, rfl⟩ ?_
        exact gs_iret h hE dX_measures_28 (by unfold xMeas; rw [if_pos (by omega)]; exact ⟨rfl, rfl⟩)
def imA (x : Int) : Nat := if x = 0 then 41 else 52
set_option maxRecDepth 4000 in
theorem cX_image (X : XT) {S : Sg} {x : Int} (hx : 0 ≤ x ∧ x ≤ 1) : Ctr X 0 yX_imageOf bX_imageOf 2 (some (.object "LadderSurvey$Scene")) [.ref 0, .int (iI (x))] (mk S) (PR (fun r S' => r = imA x ∧ S' = S)) 0 0 := by
  refine Ctr.ofS (by decide) rfl (Nat.le_of_ble_eq_true rfl) (fun F h hF hE => ?_)
  refine go_iload_n (pc' := 1) h ⟨dX_imageOf_0, rfl⟩ rfl ?_
  refine gi_if_ne (tgt := 11) (pc' := 4) h dX_imageOf_1 rfl rfl (by omega) (fun c1 => ?_) (fun c1 => ?_)
  · refine go_aload_n (pc' := 12) h ⟨dX_imageOf_11, rfl⟩ rfl ?_
    refine gs_get (v := .ref 52) (pc' := 15) h ⟨dX_imageOf_12, rfl⟩ fgX_36 rfl (by decide) (rfl) ?_
    exact gs_aret h hE dX_imageOf_15 (⟨by unfold imA; rw [if_neg (by omega)], rfl⟩)
  · refine go_aload_n (pc' := 5) h ⟨dX_imageOf_4, rfl⟩ rfl ?_
    refine gs_get (v := .ref 41) (pc' := 8) h ⟨dX_imageOf_5, rfl⟩ fgX_33 rfl (by decide) (rfl) ?_
    refine gi_goto (tgt := 15) h dX_imageOf_8 rfl ?_
    exact gs_aret h hE dX_imageOf_15 (⟨by unfold imA; rw [if_pos (by omega)], rfl⟩)
def xKeep (S : Sg) (p : Nat) (x : Int) : Int × Sg := if x < 0 ∨ 1 < x then (-1, S) else (sumI ((rput (scopy S (imA x) 30) 63 x 1).1 34) 4, rput (scopy S (imA x) 30) 63 x 1)
def xBack (S : Sg) (p : Nat) (x : Int) : Int × Sg := if x < 0 ∨ 1 < x then (-1, S) else if S.1 64 x = 0 then (-2, S) else (sumI ((dempty (scopy S 30 (imA x))).1 34) 4, dempty (scopy S 30 (imA x)))
theorem cS_keep (X : XT) {S : Sg} (hW : Wr S) {a : Nat} (ha : a = 41 ∨ a = 52) : Ctr X 2 yS_copy bS_copy 2 none [.ref a, .ref 30] (mk S) (PV (fun S' => S' = scopy S a 30)) 0 0 := by
  rcases ha with rfl | rfl
  · exact cS_copy_41_30 X hW
  · exact cS_copy_52_30 X hW
theorem cS_take (X : XT) {S : Sg} (hW : Wr S) {a : Nat} (ha : a = 41 ∨ a = 52) : Ctr X 2 yS_copy bS_copy 2 none [.ref 30, .ref a] (mk S) (PV (fun S' => S' = scopy S 30 a)) 0 0 := by
  rcases ha with rfl | rfl
  · exact cS_copy_30_41 X hW
  · exact cS_copy_30_52 X hW
theorem kd_im (x : Int) : kd (imA x) = 4 := by unfold imA; split <;> rfl
theorem im_or (x : Int) : imA x = 41 ∨ imA x = 52 := by unfold imA; split <;> simp
set_option maxRecDepth 4000 in
theorem cX_keep (X : XT) {S : Sg} {p q : Nat} (hC : CI S p q) {x : Int} (hx : -2147483648 ≤ x ∧ x ≤ 2147483647) : Ctr X 6 yX_keep bX_keep 2 (some .int) [.ref 0, .int (iI (x))] (mk S) (PI (fun r S' => r = (xKeep S p x).1 ∧ S' = (xKeep S p x).2)) 0 0 := by
  refine Ctr.ofS (by decide) rfl (Nat.le_of_ble_eq_true rfl) (fun F h hF hE => ?_)
  obtain ⟨epq, opq, hW, hok, cb, hlt, hmk, hsc, hwl, hwr, hth, hdd, hse, hme, hke⟩ := id hC
  have hp : p = 4 ∨ p = 17 := by omega
  have hk := kd_p hp
  obtain ⟨k1, k3, k5, k7, k9, k11, l2, l4, l6, l8, l10, l12⟩ := plan_ok hk
  obtain ⟨o1, o2, o3, o4, o5, o6, o7⟩ := id hok
  have z39 : 0 ≤ S.1 39 1 ∧ S.1 39 1 ≤ 6 := hW 39 rfl
  have z66 : 0 ≤ S.1 66 1 ∧ S.1 66 1 ≤ 10 := hW 66 rfl
  have z2 : 0 ≤ S.1 2 1 ∧ S.1 2 1 ≤ 120 := hW 2 rfl
  have z75 : 0 ≤ S.1 75 1 ∧ S.1 75 1 ≤ 6 := hW 75 rfl
  have z84 : 0 ≤ S.1 84 1 ∧ S.1 84 1 ≤ 6 := hW 84 rfl
  refine go_iload_n (pc' := 1) h ⟨dX_keep_0, rfl⟩ rfl ?_
  refine gi_if_lt (tgt := 9) (pc' := 4) h dX_keep_1 rfl rfl (by omega) (fun c1 => ?_) (fun c1 => ?_)
  · refine gi_iconst (pc' := 10) h ⟨dX_keep_9, rfl⟩ ?_
    exact gs_iret h hE dX_keep_10 (by unfold xKeep; rw [if_pos (by omega)]; exact ⟨rfl, rfl⟩)
  · refine go_iload_n (pc' := 5) h ⟨dX_keep_4, rfl⟩ rfl ?_
    refine gi_iconst (pc' := 6) h ⟨dX_keep_5, rfl⟩ ?_
    refine gi_icmp_le (tgt := 11) (pc' := 9) h dX_keep_6 rfl rfl (by omega) (fun c6 => ?_) (fun c6 => ?_)
    · refine go_aload_n (pc' := 12) h ⟨dX_keep_11, rfl⟩ rfl ?_
      refine go_iload_n (pc' := 13) h ⟨dX_keep_12, rfl⟩ rfl ?_
      refine gd_callVR (e := imA x) (E := S) (pc' := 16) (As := [.int (iI (x))]) (st := []) h hF ⟨dX_keep_13, rfl⟩ kvX_263 (cX_image X (by omega)) (by omega) rfl (by decide) ⟨_, _, rfl⟩ rfl (Nat.le_of_ble_eq_true rfl) rfl ?_
      refine go_aload_n (pc' := 17) h ⟨dX_keep_16, rfl⟩ rfl ?_
      refine gs_get (v := .ref 30) (pc' := 20) h ⟨dX_keep_17, rfl⟩ fgX_29 rfl (by decide) (rfl) ?_
      refine gd_callVV (E := scopy S (imA x) 30) (pc' := 23) (As := [.ref 30]) (st := []) h hF ⟨dX_keep_20, rfl⟩ kvX_267 (cS_keep X hW (im_or x)) (by omega) (kd_im x) (by decide) ⟨_, _, rfl⟩ rfl (Nat.le_of_ble_eq_true rfl) rfl ?_
      refine go_aload_n (pc' := 24) h ⟨dX_keep_23, rfl⟩ rfl ?_
      refine gs_get (v := .ref 63) (pc' := 27) h ⟨dX_keep_24, rfl⟩ fgX_44 rfl (by decide) (rfl) ?_
      refine go_iload_n (pc' := 28) h ⟨dX_keep_27, rfl⟩ rfl ?_
      refine gi_iconst (pc' := 29) h ⟨dX_keep_28, rfl⟩ ?_
      refine gd_callVV (E := rput (scopy S (imA x) 30) 63 x 1) (pc' := 32) (As := [.int (iI (x)), .int (iI (1))]) (st := []) h hF ⟨dX_keep_29, rfl⟩ kvX_168 (cR_put X rfl (by omega)) (by omega) rfl (by decide) ⟨_, _, rfl⟩ rfl (Nat.le_of_ble_eq_true rfl) rfl ?_
      refine go_aload_n (pc' := 33) h ⟨dX_keep_32, rfl⟩ rfl ?_
      refine gs_get (v := .ref 30) (pc' := 36) h ⟨dX_keep_33, rfl⟩ fgX_29 rfl (by decide) (rfl) ?_
      refine gd_callVI (e := sumI ((rput (scopy S (imA x) 30) 63 x 1).1 34) 4) (E := rput (scopy S (imA x) 30) 63 x 1) (pc' := 39) (As := []) (st := []) h hF ⟨dX_keep_36, rfl⟩ kvX_142 (cS_staying X) (by omega) rfl (by decide) ⟨_, _, rfl⟩ rfl (Nat.le_of_ble_eq_true rfl) rfl ?_
      exact gs_iret h hE dX_keep_39 (by unfold xKeep; rw [if_neg (by omega)]; exact ⟨rfl, rfl⟩)
    · refine gi_iconst (pc' := 10) h ⟨dX_keep_9, rfl⟩ ?_
      exact gs_iret h hE dX_keep_10 (by unfold xKeep; rw [if_pos (by omega)]; exact ⟨rfl, rfl⟩)
set_option maxRecDepth 4000 in
theorem cX_back (X : XT) {S : Sg} {p q : Nat} (hC : CI S p q) {x : Int} (hx : -2147483648 ≤ x ∧ x ≤ 2147483647) : Ctr X 6 yX_back bX_back 2 (some .int) [.ref 0, .int (iI (x))] (mk S) (PI (fun r S' => r = (xBack S p x).1 ∧ S' = (xBack S p x).2)) 0 0 := by
  refine Ctr.ofS (by decide) rfl (Nat.le_of_ble_eq_true rfl) (fun F h hF hE => ?_)
  obtain ⟨epq, opq, hW, hok, cb, hlt, hmk, hsc, hwl, hwr, hth, hdd, hse, hme, hke⟩ := id hC
  have hp : p = 4 ∨ p = 17 := by omega
  have hk := kd_p hp
  obtain ⟨k1, k3, k5, k7, k9, k11, l2, l4, l6, l8, l10, l12⟩ := plan_ok hk
  obtain ⟨o1, o2, o3, o4, o5, o6, o7⟩ := id hok
  have z39 : 0 ≤ S.1 39 1 ∧ S.1 39 1 ≤ 6 := hW 39 rfl
  have z66 : 0 ≤ S.1 66 1 ∧ S.1 66 1 ≤ 10 := hW 66 rfl
  have z2 : 0 ≤ S.1 2 1 ∧ S.1 2 1 ≤ 120 := hW 2 rfl
  have z75 : 0 ≤ S.1 75 1 ∧ S.1 75 1 ≤ 6 := hW 75 rfl
  have z84 : 0 ≤ S.1 84 1 ∧ S.1 84 1 ≤ 6 := hW 84 rfl
  refine go_iload_n (pc' := 1) h ⟨dX_back_0, rfl⟩ rfl ?_
  refine gi_if_lt (tgt := 9) (pc' := 4) h dX_back_1 rfl rfl (by omega) (fun c1 => ?_) (fun c1 => ?_)
  · refine gi_iconst (pc' := 10) h ⟨dX_back_9, rfl⟩ ?_
    exact gs_iret h hE dX_back_10 (by unfold xBack; rw [if_pos (by omega)]; exact ⟨rfl, rfl⟩)
  · refine go_iload_n (pc' := 5) h ⟨dX_back_4, rfl⟩ rfl ?_
    refine gi_iconst (pc' := 6) h ⟨dX_back_5, rfl⟩ ?_
    refine gi_icmp_le (tgt := 11) (pc' := 9) h dX_back_6 rfl rfl (by omega) (fun c6 => ?_) (fun c6 => ?_)
    · refine go_aload_n (pc' := 12) h ⟨dX_back_11, rfl⟩ rfl ?_
      refine gs_get (v := .ref 63) (pc' := 15) h ⟨dX_back_12, rfl⟩ fgX_44 rfl (by decide) (rfl) ?_
      refine go_iload_n (pc' := 16) h ⟨dX_back_15, rfl⟩ rfl ?_
      refine gd_callVI (e := S.1 64 x) (E := S) (pc' := 19) (As := [.int (iI (x))]) (st := []) h hF ⟨dX_back_16, rfl⟩ kvX_104 (cR_ati X (n := 2) rfl rfl (by omega)) (by omega) rfl (by decide) ⟨_, _, rfl⟩ rfl (Nat.le_of_ble_eq_true rfl) rfl ?_
      have q1 := hke x (by omega) (by omega)
      refine gi_if_ne (tgt := 25) (pc' := 22) h dX_back_19 rfl rfl (by omega) (fun c19 => ?_) (fun c19 => ?_)
      · refine go_aload_n (pc' := 26) h ⟨dX_back_25, rfl⟩ rfl ?_
        refine gs_get (v := .ref 30) (pc' := 29) h ⟨dX_back_26, rfl⟩ fgX_29 rfl (by decide) (rfl) ?_
        refine go_aload_n (pc' := 30) h ⟨dX_back_29, rfl⟩ rfl ?_
        refine go_iload_n (pc' := 31) h ⟨dX_back_30, rfl⟩ rfl ?_
        refine gd_callVR (e := imA x) (E := S) (pc' := 34) (As := [.int (iI (x))]) (st := [.ref 30]) h hF ⟨dX_back_31, rfl⟩ kvX_263 (cX_image X (by omega)) (by omega) rfl (by decide) ⟨_, _, rfl⟩ rfl (Nat.le_of_ble_eq_true rfl) rfl ?_
        refine gd_callVV (E := scopy S 30 (imA x)) (pc' := 37) (As := [.ref (imA x)]) (st := []) h hF ⟨dX_back_34, rfl⟩ kvX_267 (cS_take X hW (im_or x)) (by omega) rfl (by decide) ⟨_, _, rfl⟩ rfl (Nat.le_of_ble_eq_true rfl) rfl ?_
        refine go_aload_n (pc' := 38) h ⟨dX_back_37, rfl⟩ rfl ?_
        refine gs_get (v := .ref 65) (pc' := 41) h ⟨dX_back_38, rfl⟩ fgX_51 rfl (by decide) (rfl) ?_
        refine gd_callVV (E := dempty (scopy S 30 (imA x))) (pc' := 44) (As := []) (st := []) h hF ⟨dX_back_41, rfl⟩ kvX_93 (cD_empty X) (by omega) rfl (by decide) ⟨_, _, rfl⟩ rfl (Nat.le_of_ble_eq_true rfl) rfl ?_
        refine go_aload_n (pc' := 45) h ⟨dX_back_44, rfl⟩ rfl ?_
        refine gs_get (v := .ref 30) (pc' := 48) h ⟨dX_back_45, rfl⟩ fgX_29 rfl (by decide) (rfl) ?_
        refine gd_callVI (e := sumI ((dempty (scopy S 30 (imA x))).1 34) 4) (E := dempty (scopy S 30 (imA x))) (pc' := 51) (As := []) (st := []) h hF ⟨dX_back_48, rfl⟩ kvX_142 (cS_staying X) (by omega) rfl (by decide) ⟨_, _, rfl⟩ rfl (Nat.le_of_ble_eq_true rfl) rfl ?_
        exact gs_iret h hE dX_back_51 (by unfold xBack; rw [if_neg (by omega), if_neg (by omega)]; exact ⟨rfl, rfl⟩)
      · refine gi_bipush (pc' := 24) h ⟨dX_back_22, rfl⟩ rfl ?_
        exact gs_iret h hE dX_back_24 (by unfold xBack; rw [if_neg (by omega), if_pos (by omega)]; exact ⟨rfl, rfl⟩)
    · refine gi_iconst (pc' := 10) h ⟨dX_back_9, rfl⟩ ?_
      exact gs_iret h hE dX_back_10 (by unfold xBack; rw [if_pos (by omega)]; exact ⟨rfl, rfl⟩)
set_option maxRecDepth 4000 in
theorem cX_trace (X : XT) {S : Sg} : Ctr X 0 yX_trace bX_trace 1 (some .long) [.ref 0] (mk S) (PL (fun r S' => r = S.2.1 0 ∧ S' = S)) 0 0 := by
  refine Ctr.ofS (by decide) rfl (Nat.le_of_ble_eq_true rfl) (fun F h hF hE => ?_)
  refine go_aload_n (pc' := 1) h ⟨dX_trace_0, rfl⟩ rfl ?_
  refine gs_get (v := .long (S.2.1 0)) (pc' := 4) h ⟨dX_trace_1, rfl⟩ fgX_273 rfl (by decide) (rfl) ?_
  exact gs_lret h hE dX_trace_4 (⟨rfl, rfl⟩)
