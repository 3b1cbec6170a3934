/-! rows -/
theorem row_ok {k : Nat} (h : kd k = 3) : kd (k + 1) = 9 ∧ (ln (k + 1) : Int) ≤ 3000 := by
  by_cases hj : k < 106
  · have : ∀ k, k < 106 → kd k = 3 → kd (k + 1) = 9 ∧ ln (k + 1) ≤ 3000 := by decide +kernel
    have h2 := this k hj h
    exact ⟨h2.1, by omega⟩
  · have : kd k = 11 := by
      unfold kd
      have h2 : kdL.length = 106 := by decide +kernel
      rw [List.getD_eq_getElem?_getD, List.getElem?_eq_none (by omega)]
      rfl
    omega
def sumF (f : Int → Int) : Nat → Int
  | 0 => 0
  | n + 1 => sumF f n + f (n : Int)
def sumI (f : Int → Int) (n : Int) : Int := sumF f n.toNat
theorem sumI_0 (f : Int → Int) : sumI f 0 = 0 := rfl
theorem sumI_s (f : Int → Int) {n : Int} (h : 0 ≤ n) : sumI f (n + 1) = sumI f n + f n := by
  unfold sumI
  rw [show (n + 1).toNat = n.toNat + 1 by omega, sumF, Int.toNat_of_nonneg h]
theorem sumI_congr {f g : Int → Int} {n : Int} (h : ∀ j, 0 ≤ j → j < n → f j = g j) : sumI f n = sumI g n := by
  unfold sumI
  have : ∀ m : Nat, (m : Int) ≤ n → sumF f m = sumF g m := by
    intro m
    induction m with
    | zero => intro _; rfl
    | succ m ih => intro hm; rw [sumF, sumF, ih (by omega), h m (by omega) (by omega)]
  by_cases hn : 0 ≤ n
  · exact this n.toNat (by omega)
  · rw [show n.toNat = 0 by omega]; rfl
/-- what at() tells -/
def atV (f : Int → Int) (n : Nat) (i : Int) : Int := if 0 ≤ i ∧ i < (n : Int) then f i else 0
theorem atV_in {f : Int → Int} {n : Nat} {i : Int} (h : 0 ≤ i ∧ i < (n : Int)) : atV f n i = f i := if_pos h
theorem atV_out {f : Int → Int} {n : Nat} {i : Int} (h : ¬ (0 ≤ i ∧ i < (n : Int))) : atV f n i = 0 := if_neg h
/-- behind put() -/
def rput (S : Sg) (k : Nat) (i x : Int) : Sg := if 0 ≤ i ∧ i < (ln (k + 1) : Int) then pt S (k + 1) i x else S
theorem rput_in {S : Sg} {k : Nat} {i : Int} (x : Int) (h : 0 ≤ i ∧ i < (ln (k + 1) : Int)) : rput S k i x = pt S (k + 1) i x := if_pos h
theorem rput_out {S : Sg} {k : Nat} {i : Int} (x : Int) (h : ¬ (0 ≤ i ∧ i < (ln (k + 1) : Int))) : rput S k i x = S := if_neg h
theorem rput_ne (S : Sg) {k a : Nat} (i x : Int) (h : a ≠ k + 1) : (rput S k i x).1 a = S.1 a := by
  unfold rput
  by_cases hi : 0 ≤ i ∧ i < (ln (k + 1) : Int)
  · rw [if_pos hi]; exact uA_ne _ _ h
  · rw [if_neg hi]
theorem pt_ne (S : Sg) {k a : Nat} (i x : Int) (h : a ≠ k) : (pt S k i x).1 a = S.1 a := uA_ne _ _ h
theorem pt_eq (S : Sg) (k : Nat) (i x : Int) : (pt S k i x).1 k = uF (S.1 k) i x := uA_eq _ _ _
theorem pt_at (S : Sg) (k : Nat) (i x : Int) : (pt S k i x).1 k i = x := by rw [pt_eq, uF_eq]
theorem aset_eq (S : Sg) (a : Nat) (f : Int → Int) : (aset S a f).1 a = f := uA_eq _ _ _
theorem aset_ne (S : Sg) {k a : Nat} (f : Int → Int) (h : a ≠ k) : (aset S k f).1 a = S.1 a := uA_ne _ _ h
theorem aset_aset (S : Sg) (a : Nat) (f g : Int → Int) : aset (aset S a f) a g = aset S a g := by
  unfold aset
  congr 1
  funext b
  simp only [uA]
  by_cases h : b = a
  · rw [if_pos h, if_pos h]
  · rw [if_neg h, if_neg h, if_neg h]
theorem aset_self (S : Sg) (a : Nat) : aset S a (S.1 a) = S := by
  unfold aset
  have : uA S.1 a (S.1 a) = S.1 := by
    funext b
    simp only [uA]
    by_cases h : b = a
    · rw [if_pos h, h]
    · rw [if_neg h]
  rw [this]
theorem pt_aset (S : Sg) (k : Nat) (i x : Int) : pt S k i x = aset S k (uF (S.1 k) i x) := rfl
theorem aset_comm (S : Sg) {a b : Nat} (f g : Int → Int) (h : a ≠ b) : aset (aset S a f) b g = aset (aset S b g) a f := by
  unfold aset
  congr 1
  funext c
  simp only [uA]
  by_cases h1 : c = b
  · rw [if_pos h1, if_neg (fun e => h (e.symm.trans h1)), if_pos h1]
  · rw [if_neg h1]
    by_cases h2 : c = a
    · rw [if_pos h2, if_pos h2]
    · rw [if_neg h2, if_neg h2, if_neg h1]
theorem fl3 (W : Int → Int) (t : Int64) (P : Nat × Nat) (k : Nat) : (fl W t P k 3)[1]? = some (.int (iI (W 1))) := rfl
theorem pt_sw (S : Sg) {k a : Nat} (f : Int → Int) (i x : Int) (h : a ≠ k) : pt (aset S a f) k i x = aset (pt S k i x) a f := by
  rw [pt_aset, pt_aset, aset_ne _ _ (Ne.symm h), aset_comm _ _ _ h]
theorem rfin {S : Sg} {k : Nat} (hk1 : kd (k + 1) = 9) {f g : Int → Int} (x : Int) (h : ∀ j : Int, 0 ≤ j → j < (ln (k + 1) : Int) → f j = g j) : mk (pt (aset S (k + 1) f) k 1 x) = mk (pt (aset S (k + 1) g) k 1 x) := by
  rw [pt_sw S f 1 x (show k + 1 ≠ k by omega), pt_sw S g 1 x (show k + 1 ≠ k by omega)]
  exact mk_aset hk1 h
/-- behind push() -/
def rpush (S : Sg) (k : Nat) (x : Int) : Sg := if S.1 k 1 < (ln (k + 1) : Int) then pt (pt S (k + 1) (S.1 k 1) x) k 1 (S.1 k 1 + 1) else S
def rempty (S : Sg) (k : Nat) : Sg := pt (aset S (k + 1) (fun _ => 0)) k 1 0
def rcopy (S : Sg) (k o : Nat) : Sg := pt (aset S (k + 1) (fun j => atV (S.1 (o + 1)) (ln (o + 1)) j)) k 1 (min (ln (k + 1) : Int) (S.1 o 1))
def cutF (f : Int → Int) (i z : Int) : Int → Int := fun j => if j < i then f j else if j < z - 1 then f (j + 1) else if j = z - 1 then 0 else f j
def insF (f : Int → Int) (i z x : Int) : Int → Int := fun j => if j < i then f j else if j = i then x else if j ≤ z then f (j - 1) else f j
def rremove (S : Sg) (k : Nat) (i : Int) : Sg := if 0 ≤ i ∧ i < S.1 k 1 then pt (aset S (k + 1) (cutF (S.1 (k + 1)) i (S.1 k 1))) k 1 (S.1 k 1 - 1) else S
def rinsert (S : Sg) (k : Nat) (i x : Int) : Sg := if S.1 k 1 < (ln (k + 1) : Int) ∧ 0 ≤ i ∧ i ≤ S.1 k 1 then pt (aset S (k + 1) (insF (S.1 (k + 1)) i (S.1 k 1) x)) k 1 (S.1 k 1 + 1) else S
/-- a row's size is in its room -/
def rw1 (S : Sg) (k : Nat) : Prop := 0 ≤ S.1 k 1 ∧ S.1 k 1 ≤ (ln (k + 1) : Int)
set_option maxRecDepth 4000 in
theorem cK_max (X : XT) {S : Sg} {a b : Int} (hq : -2147483648 ≤ a ∧ a ≤ 2147483647 ∧ -2147483648 ≤ b ∧ b ≤ 2147483647) : Ctr X 0 yK_max bK_max 2 (some .int) [.int (iI (a)), .int (iI (b))] (mk S) (PI (fun r S' => r = max a b ∧ S' = S)) 0 0 := by
  refine Ctr.ofSF (by decide +kernel) rfl (Nat.le_of_ble_eq_true rfl) (fun F h hF hE => ?_)
  refine go_iload_n (pc' := 1) h ⟨dK_max_0, rfl⟩ rfl ?_
  refine go_iload_n (pc' := 2) h ⟨dK_max_1, rfl⟩ rfl ?_
  refine gi_icmp_lt (tgt := 9) (pc' := 5) h dK_max_2 rfl rfl (by omega) (fun c2 => ?_) (fun c2 => ?_)
  · refine go_iload_n (pc' := 10) h ⟨dK_max_9, rfl⟩ rfl ?_
    exact gs_iret h hE dK_max_10 (⟨by omega, rfl⟩)
  · refine go_iload_n (pc' := 6) h ⟨dK_max_5, rfl⟩ rfl ?_
    refine gi_goto (tgt := 10) h dK_max_6 rfl ?_
    exact gs_iret h hE dK_max_10 (⟨by omega, rfl⟩)
set_option maxRecDepth 4000 in
theorem cK_min (X : XT) {S : Sg} {a b : Int} (hq : -2147483648 ≤ a ∧ a ≤ 2147483647 ∧ -2147483648 ≤ b ∧ b ≤ 2147483647) : Ctr X 0 yK_min bK_min 2 (some .int) [.int (iI (a)), .int (iI (b))] (mk S) (PI (fun r S' => r = min a b ∧ S' = S)) 0 0 := by
  refine Ctr.ofSF (by decide +kernel) rfl (Nat.le_of_ble_eq_true rfl) (fun F h hF hE => ?_)
  refine go_iload_n (pc' := 1) h ⟨dK_min_0, rfl⟩ rfl ?_
  refine go_iload_n (pc' := 2) h ⟨dK_min_1, rfl⟩ rfl ?_
  refine gi_icmp_gt (tgt := 9) (pc' := 5) h dK_min_2 rfl rfl (by omega) (fun c2 => ?_) (fun c2 => ?_)
  · refine go_iload_n (pc' := 10) h ⟨dK_min_9, rfl⟩ rfl ?_
    exact gs_iret h hE dK_min_10 (⟨by omega, rfl⟩)
  · refine go_iload_n (pc' := 6) h ⟨dK_min_5, rfl⟩ rfl ?_
    refine gi_goto (tgt := 10) h dK_min_6 rfl ?_
    exact gs_iret h hE dK_min_10 (⟨by omega, rfl⟩)
set_option maxRecDepth 4000 in
theorem cK_abs (X : XT) {S : Sg} {a : Int} (hq : -2147483648 ≤ a ∧ a ≤ 2147483647) : Ctr X 0 yK_abs bK_abs 1 (some .int) [.int (iI (a))] (mk S) (PI (fun r S' => r = (if 0 ≤ a then a else -a) ∧ S' = S)) 0 0 := by
  refine Ctr.ofSF (by decide +kernel) rfl (Nat.le_of_ble_eq_true rfl) (fun F h hF hE => ?_)
  refine go_iload_n (pc' := 1) h ⟨dK_abs_0, rfl⟩ rfl ?_
  refine gi_if_ge (tgt := 9) (pc' := 4) h dK_abs_1 rfl rfl (by omega) (fun c1 => ?_) (fun c1 => ?_)
  · refine go_iload_n (pc' := 10) h ⟨dK_abs_9, rfl⟩ rfl ?_
    exact gs_iret h hE dK_abs_10 (⟨by split <;> omega, rfl⟩)
  · refine go_iload_n (pc' := 5) h ⟨dK_abs_4, rfl⟩ rfl ?_
    refine gi_ineg (pc' := 6) h ⟨dK_abs_5, rfl⟩ ?_
    refine gi_goto (tgt := 10) h dK_abs_6 rfl ?_
    exact gs_iret h hE dK_abs_10 (⟨by split <;> omega, rfl⟩)
set_option maxRecDepth 4000 in
theorem cR_size (X : XT) {S : Sg} {k : Nat} (hk : kd k = 3) : Ctr X 0 yR_size bR_size 1 (some .int) [.ref k] (mk S) (PI (fun r S' => r = S.1 k 1 ∧ S' = S)) 0 0 := by
  refine Ctr.ofS (by decide) rfl (Nat.le_of_ble_eq_true rfl) (fun F h hF hE => ?_)
  refine go_aload_n (pc' := 1) h ⟨dR_size_0, rfl⟩ rfl ?_
  refine gs_get (v := .int (iI (S.1 k 1))) (pc' := 4) h ⟨dR_size_1, rfl⟩ fgR_19 hk (by decide) (rfl) ?_
  exact gs_iret h hE dR_size_4 (⟨rfl, rfl⟩)
set_option maxRecDepth 4000 in
theorem cR_isFull (X : XT) {S : Sg} {k : Nat} (hk : kd k = 3) (hw : rw1 S k) : Ctr X 0 yR_isFull bR_isFull 1 (some .boolean) [.ref k] (mk S) (PI (fun r S' => r = (if (ln (k + 1) : Int) ≤ S.1 k 1 then 1 else 0) ∧ S' = S)) 0 0 := by
  refine Ctr.ofS (by decide) rfl (Nat.le_of_ble_eq_true rfl) (fun F h hF hE => ?_)
  have hk1 := (row_ok hk).1
  have hn := (row_ok hk).2
  obtain ⟨hw1, hw2⟩ := hw
  refine go_aload_n (pc' := 1) h ⟨dR_isFull_0, rfl⟩ rfl ?_
  refine gs_get (v := .int (iI (S.1 k 1))) (pc' := 4) h ⟨dR_isFull_1, rfl⟩ fgR_19 hk (by decide) (rfl) ?_
  refine go_aload_n (pc' := 5) h ⟨dR_isFull_4, rfl⟩ rfl ?_
  refine gs_get (v := .ref (k + 1)) (pc' := 8) h ⟨dR_isFull_5, rfl⟩ fgR_13 hk (by decide) (rfl) ?_
  refine gs_alen (pc' := 9) h ⟨dR_isFull_8, rfl⟩ hk1 ?_
  refine gi_icmp_lt (tgt := 16) (pc' := 12) h dR_isFull_9 rfl rfl (by omega) (fun c9 => ?_) (fun c9 => ?_)
  · refine gi_iconst (pc' := 17) h ⟨dR_isFull_16, rfl⟩ ?_
    exact gs_zret h hE dR_isFull_17 (by omega) (⟨by split <;> omega, rfl⟩)
  · refine gi_iconst (pc' := 13) h ⟨dR_isFull_12, rfl⟩ ?_
    refine gi_goto (tgt := 17) h dR_isFull_13 rfl ?_
    exact gs_zret h hE dR_isFull_17 (by omega) (⟨by split <;> omega, rfl⟩)
set_option maxRecDepth 4000 in
theorem cR_at (X : XT) {S : Sg} {k : Nat} (hk : kd k = 3) {i : Int} (hi : -2147483648 ≤ i ∧ i ≤ 2147483647) : Ctr X 0 yR_at bR_at 2 (some .int) [.ref k, .int (iI (i))] (mk S) (PI (fun r S' => r = atV (S.1 (k + 1)) (ln (k + 1)) i ∧ S' = S)) 0 0 := by
  refine Ctr.ofS (by decide) rfl (Nat.le_of_ble_eq_true rfl) (fun F h hF hE => ?_)
  have hk1 := (row_ok hk).1
  have hn := (row_ok hk).2
  refine go_iload_n (pc' := 1) h ⟨dR_at_0, rfl⟩ rfl ?_
  refine gi_if_lt (tgt := 13) (pc' := 4) h dR_at_1 rfl rfl (by omega) (fun c1 => ?_) (fun c1 => ?_)
  · refine gi_iconst (pc' := 14) h ⟨dR_at_13, rfl⟩ ?_
    refine gi_goto (tgt := 23) h dR_at_14 rfl ?_
    exact gs_iret h hE dR_at_23 (⟨(atV_out (by omega)).symm, rfl⟩)
  · refine go_iload_n (pc' := 5) h ⟨dR_at_4, rfl⟩ rfl ?_
    refine go_aload_n (pc' := 6) h ⟨dR_at_5, rfl⟩ rfl ?_
    refine gs_get (v := .ref (k + 1)) (pc' := 9) h ⟨dR_at_6, rfl⟩ fgR_13 hk (by decide) (rfl) ?_
    refine gs_alen (pc' := 10) h ⟨dR_at_9, rfl⟩ hk1 ?_
    refine gi_icmp_lt (tgt := 17) (pc' := 13) h dR_at_10 rfl rfl (by omega) (fun c10 => ?_) (fun c10 => ?_)
    · refine go_aload_n (pc' := 18) h ⟨dR_at_17, rfl⟩ rfl ?_
      refine gs_get (v := .ref (k + 1)) (pc' := 21) h ⟨dR_at_18, rfl⟩ fgR_13 hk (by decide) (rfl) ?_
      refine go_iload_n (pc' := 22) h ⟨dR_at_21, rfl⟩ rfl ?_
      refine gs_iald (pc' := 23) h ⟨dR_at_22, rfl⟩ hk1 (by omega) ?_
      exact gs_iret h hE dR_at_23 (⟨(atV_in (by omega)).symm, rfl⟩)
    · refine gi_iconst (pc' := 14) h ⟨dR_at_13, rfl⟩ ?_
      refine gi_goto (tgt := 23) h dR_at_14 rfl ?_
      exact gs_iret h hE dR_at_23 (⟨(atV_out (by omega)).symm, rfl⟩)
set_option maxRecDepth 4000 in
theorem cR_put (X : XT) {S : Sg} {k : Nat} (hk : kd k = 3) {i x : Int} (hi : -2147483648 ≤ i ∧ i ≤ 2147483647) : Ctr X 0 yR_put bR_put 3 none [.ref k, .int (iI (i)), .int (iI (x))] (mk S) (PV (fun S' => S' = rput S k i x)) 0 0 := by
  refine Ctr.ofS (by decide) rfl (Nat.le_of_ble_eq_true rfl) (fun F h hF hE => ?_)
  have hk1 := (row_ok hk).1
  have hn := (row_ok hk).2
  refine go_iload_n (pc' := 1) h ⟨dR_put_0, rfl⟩ rfl ?_
  refine gi_if_lt (tgt := 20) (pc' := 4) h dR_put_1 rfl rfl (by omega) (fun c1 => ?_) (fun c1 => ?_)
  · exact gs_vret h hE dR_put_20 ((rput_out _ (by omega)).symm)
  · refine go_iload_n (pc' := 5) h ⟨dR_put_4, rfl⟩ rfl ?_
    refine go_aload_n (pc' := 6) h ⟨dR_put_5, rfl⟩ rfl ?_
    refine gs_get (v := .ref (k + 1)) (pc' := 9) h ⟨dR_put_6, rfl⟩ fgR_13 hk (by decide) (rfl) ?_
    refine gs_alen (pc' := 10) h ⟨dR_put_9, rfl⟩ hk1 ?_
    refine gi_icmp_ge (tgt := 20) (pc' := 13) h dR_put_10 rfl rfl (by omega) (fun c10 => ?_) (fun c10 => ?_)
    · exact gs_vret h hE dR_put_20 ((rput_out _ (by omega)).symm)
    · refine go_aload_n (pc' := 14) h ⟨dR_put_13, rfl⟩ rfl ?_
      refine gs_get (v := .ref (k + 1)) (pc' := 17) h ⟨dR_put_14, rfl⟩ fgR_13 hk (by decide) (rfl) ?_
      refine go_iload_n (pc' := 18) h ⟨dR_put_17, rfl⟩ rfl ?_
      refine go_iload_n (pc' := 19) h ⟨dR_put_18, rfl⟩ rfl ?_
      refine gs_iast (pc' := 20) h ⟨dR_put_19, rfl⟩ hk1 (by omega) ?_
      exact gs_vret h hE dR_put_20 ((rput_in _ (by omega)).symm)
set_option maxRecDepth 4000 in
theorem cR_push (X : XT) {S : Sg} {k : Nat} (hk : kd k = 3) {x : Int} (hw : rw1 S k) : Ctr X 1 yR_push bR_push 2 none [.ref k, .int (iI (x))] (mk S) (PV (fun S' => S' = rpush S k x)) 0 0 := by
  refine Ctr.ofS (by decide) rfl (Nat.le_of_ble_eq_true rfl) (fun F h hF hE => ?_)
  have hk1 := (row_ok hk).1
  have hn := (row_ok hk).2
  obtain ⟨hw1, hw2⟩ := id hw
  refine go_aload_n (pc' := 1) h ⟨dR_push_0, rfl⟩ rfl ?_
  refine gd_callVI (pc' := 4) (As := []) (st := []) h hF ⟨dR_push_1, rfl⟩ kvR_23 (cR_isFull X hk hw) (by omega) hk (by decide) ⟨_, _, rfl⟩ rfl (Nat.le_of_ble_eq_true rfl) rfl ?_
  refine gi_if_ne (tgt := 26) (pc' := 7) h dR_push_4 rfl rfl (by split <;> omega) (fun c4 => ?_) (fun c4 => ?_)
  · exact gs_vret h hE dR_push_26 (by rw [rpush, if_neg (by split at c4 <;> omega)])
  · refine go_aload_n (pc' := 8) h ⟨dR_push_7, rfl⟩ rfl ?_
    refine go_aload_n (pc' := 9) h ⟨dR_push_8, rfl⟩ rfl ?_
    refine gs_get (v := .int (iI (S.1 k 1))) (pc' := 12) h ⟨dR_push_9, rfl⟩ fgR_19 hk (by decide) (rfl) ?_
    refine go_iload_n (pc' := 13) h ⟨dR_push_12, rfl⟩ rfl ?_
    refine gd_callVV (pc' := 16) (As := [.int (iI (S.1 k 1)), .int (iI (x))]) (st := []) h hF ⟨dR_push_13, rfl⟩ kvR_27 (cR_put X hk (by omega)) (by omega) hk (by decide) ⟨_, _, rfl⟩ rfl (Nat.le_of_ble_eq_true rfl) rfl ?_
    refine go_aload_n (pc' := 17) h ⟨dR_push_16, rfl⟩ rfl ?_
    refine go_dup (pc' := 18) h ⟨dR_push_17, rfl⟩ rfl ?_
    refine gs_get (v := .int (iI (S.1 k 1))) (pc' := 21) h ⟨dR_push_18, rfl⟩ fgR_19 hk (by decide) (by rw [rput_ne _ _ _ (by omega)]; rfl) ?_
    refine gi_iconst (pc' := 22) h ⟨dR_push_21, rfl⟩ ?_
    refine gi_iadd (pc' := 23) h ⟨dR_push_22, rfl⟩ ?_
    refine gd_putI (i := 1) (pc' := 26) h ⟨dR_push_23, rfl⟩ fpR_19 hk (by decide) rfl rfl ?_
    exact gs_vret h hE dR_push_26 (by rw [rpush, if_pos (by split at c4 <;> omega), rput_in _ (by split at c4 <;> omega)])
theorem rempty_mk {S : Sg} {k : Nat} (hk1 : kd (k + 1) = 9) {f : Int → Int} (h : ∀ j : Int, 0 ≤ j → j < (ln (k + 1) : Int) → f j = 0) : mk (pt (aset S (k + 1) f) k 1 0) = mk (rempty S k) := by
  exact rfin hk1 0 h
set_option maxRecDepth 4000 in
theorem cR_empty (X : XT) {S : Sg} {k : Nat} (hk : kd k = 3) : Ctr X 0 yR_empty bR_empty 2 none [.ref k] (mk S) (PV (fun S' => S' = rempty S k)) 0 0 := by
  refine Ctr.ofS (by decide) rfl (Nat.le_of_ble_eq_true rfl) (fun F h hF hE => ?_)
  have hk1 := (row_ok hk).1
  have hn := (row_ok hk).2
  have loop : ∀ (n : Nat) (j : Int) (f : Int → Int), (ln (k + 1) : Int) < j + n → 0 ≤ j → j ≤ (ln (k + 1) : Int) → (∀ i : Int, 0 ≤ i → i < j → f i = 0) → Go F 2 (mk (aset S (k + 1) f)) 0 0 2 [.ref k, .int (iI j)] [] := by
    intro n
    induction n with
    | zero => intro j f h1 h2 h3; exfalso; omega
    | succ n ih =>
      intro j f h1 h2 h3 hf
      refine go_iload_n (pc' := 3) h ⟨dR_empty_2, rfl⟩ rfl ?_
      refine go_aload_n (pc' := 4) h ⟨dR_empty_3, rfl⟩ rfl ?_
      refine gs_get (v := .ref (k + 1)) (pc' := 7) h ⟨dR_empty_4, rfl⟩ fgR_13 hk (by decide) (rfl) ?_
      refine gs_alen (pc' := 8) h ⟨dR_empty_7, rfl⟩ hk1 ?_
      refine gi_icmp_ge (tgt := 24) (pc' := 11) h dR_empty_8 rfl rfl (by omega) (fun c8 => ?_) (fun c8 => ?_)
      · refine go_aload_n (pc' := 25) h ⟨dR_empty_24, rfl⟩ rfl ?_
        refine gi_iconst (pc' := 26) h ⟨dR_empty_25, rfl⟩ ?_
        refine gd_putI (i := 1) (pc' := 29) h ⟨dR_empty_26, rfl⟩ fpR_19 hk (by decide) rfl rfl ?_
        rw [rempty_mk hk1 (fun i h5 h6 => hf i h5 (by omega))]
        exact gs_vret h hE dR_empty_29 (rfl)
      · refine go_aload_n (pc' := 12) h ⟨dR_empty_11, rfl⟩ rfl ?_
        refine gs_get (v := .ref (k + 1)) (pc' := 15) h ⟨dR_empty_12, rfl⟩ fgR_13 hk (by decide) (rfl) ?_
        refine go_iload_n (pc' := 16) h ⟨dR_empty_15, rfl⟩ rfl ?_
        refine gi_iconst (pc' := 17) h ⟨dR_empty_16, rfl⟩ ?_
        refine gs_iast (pc' := 18) h ⟨dR_empty_17, rfl⟩ hk1 (by omega) ?_
        refine gi_iinc (L' := [.ref k, .int (iI (j + 1))]) (pc' := 21) h ⟨dR_empty_18, rfl⟩ rfl (by decide) rfl rfl ?_
        refine gi_goto (tgt := 2) h dR_empty_21 rfl ?_
        rw [pt_aset, aset_eq, aset_aset]
        exact ih (j + 1) _ (by omega) (by omega) (by omega) (fun i hi1 hi2 => by
          by_cases hij : i = j
          · rw [hij, uF_eq]
          · rw [uF_ne _ _ hij]; exact hf i hi1 (by omega))
  refine gi_iconst (pc' := 1) h ⟨dR_empty_0, rfl⟩ ?_
  refine go_istore_n (L' := [.ref k, .int (iI (0))]) (pc' := 2) h ⟨dR_empty_1, rfl⟩ (by decide) rfl rfl ?_
  have h0 := loop (ln (k + 1) + 1) 0 (S.1 (k + 1)) (by omega) (by omega) (by omega) (fun i h1 h2 => by omega)
  rw [aset_self] at h0
  exact h0
set_option maxRecDepth 4000 in
theorem cR_sum (X : XT) {S : Sg} {k : Nat} (hk : kd k = 3) : Ctr X 0 yR_sum bR_sum 3 (some .int) [.ref k] (mk S) (PI (fun r S' => r = sumI (S.1 (k + 1)) (ln (k + 1)) ∧ S' = S)) 0 0 := by
  refine Ctr.ofS (by decide) rfl (Nat.le_of_ble_eq_true rfl) (fun F h hF hE => ?_)
  have hk1 := (row_ok hk).1
  have hn := (row_ok hk).2
  have loop : ∀ (n : Nat) (j : Int), (ln (k + 1) : Int) < j + n → 0 ≤ j → j ≤ (ln (k + 1) : Int) → Go F 3 (mk S) 0 0 4 [.ref k, .int (iI (sumI (S.1 (k + 1)) j)), .int (iI j)] [] := by
    intro n
    induction n with
    | zero => intro j h1 h2 h3; exfalso; omega
    | succ n ih =>
      intro j h1 h2 h3
      refine go_iload_n (pc' := 5) h ⟨dR_sum_4, rfl⟩ rfl ?_
      refine go_aload_n (pc' := 6) h ⟨dR_sum_5, rfl⟩ rfl ?_
      refine gs_get (v := .ref (k + 1)) (pc' := 9) h ⟨dR_sum_6, rfl⟩ fgR_13 hk (by decide) (rfl) ?_
      refine gs_alen (pc' := 10) h ⟨dR_sum_9, rfl⟩ hk1 ?_
      refine gi_icmp_ge (tgt := 28) (pc' := 13) h dR_sum_10 rfl rfl (by omega) (fun c10 => ?_) (fun c10 => ?_)
      · refine go_iload_n (pc' := 29) h ⟨dR_sum_28, rfl⟩ rfl ?_
        exact gs_iret h hE dR_sum_29 (⟨by rw [show j = (ln (k + 1) : Int) by omega], rfl⟩)
      · refine go_iload_n (pc' := 14) h ⟨dR_sum_13, rfl⟩ rfl ?_
        refine go_aload_n (pc' := 15) h ⟨dR_sum_14, rfl⟩ rfl ?_
        refine gs_get (v := .ref (k + 1)) (pc' := 18) h ⟨dR_sum_15, rfl⟩ fgR_13 hk (by decide) (rfl) ?_
        refine go_iload_n (pc' := 19) h ⟨dR_sum_18, rfl⟩ rfl ?_
        refine gs_iald (pc' := 20) h ⟨dR_sum_19, rfl⟩ hk1 (by omega) ?_
        refine gi_iadd (pc' := 21) h ⟨dR_sum_20, rfl⟩ ?_
        refine go_istore_n (L' := [.ref k, .int (iI ((sumI (S.1 (k + 1)) j) + (S.1 (k + 1) j))), .int (iI (j))]) (pc' := 22) h ⟨dR_sum_21, rfl⟩ (by decide) rfl rfl ?_
        refine gi_iinc (L' := [.ref k, .int (iI ((sumI (S.1 (k + 1)) j) + (S.1 (k + 1) j))), .int (iI (j + 1))]) (pc' := 25) h ⟨dR_sum_22, rfl⟩ rfl (by decide) rfl rfl ?_
        refine gi_goto (tgt := 4) h dR_sum_25 rfl ?_
        rw [← sumI_s _ h2]
        exact ih (j + 1) (by omega) (by omega) (by omega)
  refine gi_iconst (pc' := 1) h ⟨dR_sum_0, rfl⟩ ?_
  refine go_istore_n (L' := [.ref k, .int (iI (0))]) (pc' := 2) h ⟨dR_sum_1, rfl⟩ (by decide) rfl rfl ?_
  refine gi_iconst (pc' := 3) h ⟨dR_sum_2, rfl⟩ ?_
  refine go_istore_n (L' := [.ref k, .int (iI (0)), .int (iI (0))]) (pc' := 4) h ⟨dR_sum_3, rfl⟩ (by decide) rfl rfl ?_
  exact loop (ln (k + 1) + 1) 0 (by omega) (by omega) (by omega)
theorem rcopy_mk {S : Sg} {k o : Nat} (hk1 : kd (k + 1) = 9) {f : Int → Int} {z : Int} (hz : z = min (ln (k + 1) : Int) (S.1 o 1)) (h : ∀ j : Int, 0 ≤ j → j < (ln (k + 1) : Int) → f j = atV (S.1 (o + 1)) (ln (o + 1)) j) : mk (pt (aset S (k + 1) f) k 1 z) = mk (rcopy S k o) := by
  subst hz
  exact rfin hk1 _ h
set_option maxRecDepth 4000 in
theorem cR_copy (X : XT) {S : Sg} {k o : Nat} (hk : kd k = 3) (ho : kd o = 3) (hko : k ≠ o) (hw : rw1 S o) : Ctr X 1 yR_copy bR_copy 3 none [.ref k, .ref o] (mk S) (PV (fun S' => S' = rcopy S k o)) 0 0 := by
  refine Ctr.ofS (by decide) rfl (Nat.le_of_ble_eq_true rfl) (fun F h hF hE => ?_)
  have hk1 := (row_ok hk).1
  have hn := (row_ok hk).2
  have hko2 : o ≠ k + 1 := fun e => by rw [e, hk1] at ho; omega
  have hon := (row_ok ho).2
  obtain ⟨hw1, hw2⟩ := id hw
  have loop : ∀ (n : Nat) (j : Int) (f : Int → Int), (ln (k + 1) : Int) < j + n → 0 ≤ j → j ≤ (ln (k + 1) : Int) → (∀ i : Int, 0 ≤ i → i < j → f i = atV (S.1 (o + 1)) (ln (o + 1)) i) → Go F 3 (mk (aset S (k + 1) f)) 0 0 2 [.ref k, .ref o, .int (iI j)] [] := by
    intro n
    induction n with
    | zero => intro j f h1 h2 h3; exfalso; omega
    | succ n ih =>
      intro j f h1 h2 h3 hf
      refine go_iload_n (pc' := 3) h ⟨dR_copy_2, rfl⟩ rfl ?_
      refine go_aload_n (pc' := 4) h ⟨dR_copy_3, rfl⟩ rfl ?_
      refine gs_get (v := .ref (k + 1)) (pc' := 7) h ⟨dR_copy_4, rfl⟩ fgR_13 hk (by decide) (rfl) ?_
      refine gs_alen (pc' := 8) h ⟨dR_copy_7, rfl⟩ hk1 ?_
      refine gi_icmp_ge (tgt := 28) (pc' := 11) h dR_copy_8 rfl rfl (by omega) (fun c8 => ?_) (fun c8 => ?_)
      · refine go_aload_n (pc' := 29) h ⟨dR_copy_28, rfl⟩ rfl ?_
        refine go_aload_n (pc' := 30) h ⟨dR_copy_29, rfl⟩ rfl ?_
        refine gs_get (v := .ref (k + 1)) (pc' := 33) h ⟨dR_copy_30, rfl⟩ fgR_13 hk (by decide) (rfl) ?_
        refine gs_alen (pc' := 34) h ⟨dR_copy_33, rfl⟩ hk1 ?_
        refine go_aload_n (pc' := 35) h ⟨dR_copy_34, rfl⟩ rfl ?_
        refine gs_get (v := .int (iI (S.1 o 1))) (pc' := 38) h ⟨dR_copy_35, rfl⟩ fgR_19 ho (by decide) (by rw [aset_ne _ _ hko2]; rfl) ?_
        refine gd_callSI (pc' := 41) (As := [.int (iI ((ln (k + 1) : Int))), .int (iI (S.1 o 1))]) (st := [.ref k]) h hF ⟨dR_copy_38, rfl⟩ kvR_35 (cK_min X (by omega)) (by omega) rfl (Nat.le_of_ble_eq_true rfl) rfl ?_
        refine gd_putI (i := 1) (pc' := 44) h ⟨dR_copy_41, rfl⟩ fpR_19 hk (by decide) rfl rfl ?_
        rw [rcopy_mk hk1 rfl (fun i h5 h6 => hf i h5 (by omega))]
        exact gs_vret h hE dR_copy_44 (rfl)
      · refine go_aload_n (pc' := 12) h ⟨dR_copy_11, rfl⟩ rfl ?_
        refine gs_get (v := .ref (k + 1)) (pc' := 15) h ⟨dR_copy_12, rfl⟩ fgR_13 hk (by decide) (rfl) ?_
        refine go_iload_n (pc' := 16) h ⟨dR_copy_15, rfl⟩ rfl ?_
        refine go_aload_n (pc' := 17) h ⟨dR_copy_16, rfl⟩ rfl ?_
        refine go_iload_n (pc' := 18) h ⟨dR_copy_17, rfl⟩ rfl ?_
        refine gd_callVI (pc' := 21) (As := [.int (iI (j))]) (st := [.int (iI (j)), .ref (k + 1)]) h hF ⟨dR_copy_18, rfl⟩ kvR_31 (cR_at X ho (by omega)) (by omega) ho (by decide) ⟨_, _, rfl⟩ rfl (Nat.le_of_ble_eq_true rfl) rfl ?_
        rw [aset_ne S f (show o + 1 ≠ k + 1 by omega)]
        refine gs_iast (pc' := 22) h ⟨dR_copy_21, rfl⟩ hk1 (by omega) ?_
        refine gi_iinc (L' := [.ref k, .ref o, .int (iI (j + 1))]) (pc' := 25) h ⟨dR_copy_22, rfl⟩ rfl (by decide) rfl rfl ?_
        refine gi_goto (tgt := 2) h dR_copy_25 rfl ?_
        rw [pt_aset, aset_eq, aset_aset]
        exact ih (j + 1) _ (by omega) (by omega) (by omega) (fun i hi1 hi2 => by
          by_cases hij : i = j
          · rw [hij, uF_eq]
          · rw [uF_ne _ _ hij]; exact hf i hi1 (by omega))
  refine gi_iconst (pc' := 1) h ⟨dR_copy_0, rfl⟩ ?_
  refine go_istore_n (L' := [.ref k, .ref o, .int (iI (0))]) (pc' := 2) h ⟨dR_copy_1, rfl⟩ (by decide) rfl rfl ?_
  have h0 := loop (ln (k + 1) + 1) 0 (S.1 (k + 1)) (by omega) (by omega) (by omega) (fun i h1 h2 => by omega)
  rw [aset_self] at h0
  exact h0
set_option maxRecDepth 4000 in
theorem cR_remove (X : XT) {S : Sg} {k : Nat} (hk : kd k = 3) {i : Int} (hi : -2147483648 ≤ i ∧ i ≤ 2147483647) (hw : rw1 S k) : Ctr X 1 yR_remove bR_remove 3 none [.ref k, .int (iI (i))] (mk S) (PV (fun S' => S' = rremove S k i)) 0 0 := by
  refine Ctr.ofS (by decide) rfl (Nat.le_of_ble_eq_true rfl) (fun F h hF hE => ?_)
  have hk1 := (row_ok hk).1
  have hn := (row_ok hk).2
  obtain ⟨hw1, hw2⟩ := id hw
  have loop : ∀ (n : Nat) (j : Int) (f : Int → Int), 0 ≤ i → i < S.1 k 1 → S.1 k 1 < j + n → i ≤ j → j ≤ S.1 k 1 - 1 → (∀ m : Int, 0 ≤ m → m < (ln (k + 1) : Int) → f m = if m < i then S.1 (k + 1) m else if m < j then S.1 (k + 1) (m + 1) else S.1 (k + 1) m) → Go F 3 (mk (aset (pt S k 1 (S.1 k 1 - 1)) (k + 1) f)) 0 0 25 [.ref k, .int (iI i), .int (iI j)] [] := by
    intro n
    induction n with
    | zero => intro j f g1 g2 h1 h2 h3; exfalso; omega
    | succ n ih =>
      intro j f g1 g2 h1 h2 h3 hf
      refine go_iload_n (pc' := 26) h ⟨dR_remove_25, rfl⟩ rfl ?_
      refine go_aload_n (pc' := 27) h ⟨dR_remove_26, rfl⟩ rfl ?_
      refine gs_get (v := .int (iI (S.1 k 1 - 1))) (pc' := 30) h ⟨dR_remove_27, rfl⟩ fgR_19 hk (by decide) (by rw [fl3, aset_ne _ _ (by omega), pt_at]) ?_
      refine gi_icmp_ge (tgt := 51) (pc' := 33) h dR_remove_30 rfl rfl (by omega) (fun c30 => ?_) (fun c30 => ?_)
      · refine go_aload_n (pc' := 52) h ⟨dR_remove_51, rfl⟩ rfl ?_
        refine go_aload_n (pc' := 53) h ⟨dR_remove_52, rfl⟩ rfl ?_
        refine gs_get (v := .int (iI (S.1 k 1 - 1))) (pc' := 56) h ⟨dR_remove_53, rfl⟩ fgR_19 hk (by decide) (by rw [fl3, aset_ne _ _ (by omega), pt_at]) ?_
        refine gi_iconst (pc' := 57) h ⟨dR_remove_56, rfl⟩ ?_
        refine gd_callVV (pc' := 60) (As := [.int (iI (S.1 k 1 - 1)), .int (iI (0))]) (st := []) h hF ⟨dR_remove_57, rfl⟩ kvR_27 (cR_put X hk (by omega)) (by omega) hk (by decide) ⟨_, _, rfl⟩ rfl (Nat.le_of_ble_eq_true rfl) rfl ?_
        rw [rput_in _ (by omega), pt_aset, aset_eq, aset_aset, ← pt_sw _ _ _ _ (by omega), rfin hk1 _ (g := cutF (S.1 (k + 1)) i (S.1 k 1)) (fun m m1 m2 => by
          unfold cutF
          by_cases hm : m = S.1 k 1 - 1
          · rw [hm, uF_eq, if_neg (by omega), if_neg (by omega), if_pos rfl]
          · rw [uF_ne _ _ hm, hf m m1 m2]
            by_cases hm2 : m < i
            · rw [if_pos hm2, if_pos hm2]
            · rw [if_neg hm2, if_neg hm2]
              by_cases hm3 : m < j
              · rw [if_pos hm3, if_pos (by omega)]
              · rw [if_neg hm3, if_neg (by omega), if_neg hm])]
        exact gs_vret h hE dR_remove_60 (by rw [rremove, if_pos ⟨g1, g2⟩])
      · refine go_aload_n (pc' := 34) h ⟨dR_remove_33, rfl⟩ rfl ?_
        refine go_iload_n (pc' := 35) h ⟨dR_remove_34, rfl⟩ rfl ?_
        refine go_aload_n (pc' := 36) h ⟨dR_remove_35, rfl⟩ rfl ?_
        refine go_iload_n (pc' := 37) h ⟨dR_remove_36, rfl⟩ rfl ?_
        refine gi_iconst (pc' := 38) h ⟨dR_remove_37, rfl⟩ ?_
        refine gi_iadd (pc' := 39) h ⟨dR_remove_38, rfl⟩ ?_
        refine gd_callVI (pc' := 42) (As := [.int (iI (j + 1))]) (st := [.int (iI (j)), .ref k]) h hF ⟨dR_remove_39, rfl⟩ kvR_31 (cR_at X hk (by omega)) (by omega) hk (by decide) ⟨_, _, rfl⟩ rfl (Nat.le_of_ble_eq_true rfl) rfl ?_
        rw [aset_eq, atV_in (by omega)]
        refine gd_callVV (pc' := 45) (As := [.int (iI (j)), .int (iI (f (j + 1)))]) (st := []) h hF ⟨dR_remove_42, rfl⟩ kvR_27 (cR_put X hk (by omega)) (by omega) hk (by decide) ⟨_, _, rfl⟩ rfl (Nat.le_of_ble_eq_true rfl) rfl ?_
        rw [rput_in _ (by omega), pt_aset, aset_eq, aset_aset]
        refine gi_iinc (L' := [.ref k, .int (iI (i)), .int (iI (j + 1))]) (pc' := 48) h ⟨dR_remove_45, rfl⟩ rfl (by decide) rfl rfl ?_
        refine gi_goto (tgt := 25) h dR_remove_48 rfl ?_
        exact ih (j + 1) _ g1 g2 (by omega) (by omega) (by omega) (fun m m1 m2 => by
          by_cases hm : m = j
          · rw [hm, uF_eq, hf (j + 1) (by omega) (by omega), if_neg (by omega), if_neg (by omega), if_neg (by omega), if_pos (by omega)]
          · rw [uF_ne _ _ hm, hf m m1 m2]
            by_cases hm2 : m < i
            · rw [if_pos hm2, if_pos hm2]
            · rw [if_neg hm2, if_neg hm2]
              by_cases hm3 : m < j
              · rw [if_pos hm3, if_pos (by omega)]
              · rw [if_neg hm3, if_neg (by omega)])
  refine go_iload_n (pc' := 1) h ⟨dR_remove_0, rfl⟩ rfl ?_
  refine gi_if_lt (tgt := 12) (pc' := 4) h dR_remove_1 rfl rfl (by omega) (fun c1 => ?_) (fun c1 => ?_)
  · exact gs_vret h hE dR_remove_12 (by rw [rremove, if_neg (by omega)])
  · refine go_iload_n (pc' := 5) h ⟨dR_remove_4, rfl⟩ rfl ?_
    refine go_aload_n (pc' := 6) h ⟨dR_remove_5, rfl⟩ rfl ?_
    refine gs_get (v := .int (iI (S.1 k 1))) (pc' := 9) h ⟨dR_remove_6, rfl⟩ fgR_19 hk (by decide) (rfl) ?_
    refine gi_icmp_lt (tgt := 13) (pc' := 12) h dR_remove_9 rfl rfl (by omega) (fun c9 => ?_) (fun c9 => ?_)
    · refine go_aload_n (pc' := 14) h ⟨dR_remove_13, rfl⟩ rfl ?_
      refine go_dup (pc' := 15) h ⟨dR_remove_14, rfl⟩ rfl ?_
      refine gs_get (v := .int (iI (S.1 k 1))) (pc' := 18) h ⟨dR_remove_15, rfl⟩ fgR_19 hk (by decide) (rfl) ?_
      refine gi_iconst (pc' := 19) h ⟨dR_remove_18, rfl⟩ ?_
      refine gi_isub (pc' := 20) h ⟨dR_remove_19, rfl⟩ ?_
      refine gd_putI (i := 1) (pc' := 23) h ⟨dR_remove_20, rfl⟩ fpR_19 hk (by decide) rfl rfl ?_
      refine go_iload_n (pc' := 24) h ⟨dR_remove_23, rfl⟩ rfl ?_
      refine go_istore_n (L' := [.ref k, .int (iI (i)), .int (iI (i))]) (pc' := 25) h ⟨dR_remove_24, rfl⟩ (by decide) rfl rfl ?_
      have h0 := loop (S.1 k 1 - i + 1).toNat i (S.1 (k + 1)) (by omega) (by omega) (by omega) (by omega) (by omega) (fun m m1 m2 => by
        by_cases hm : m < i
        · rw [if_pos hm]
        · rw [if_neg hm, if_neg hm])
      rw [← pt_sw _ _ _ _ (show k + 1 ≠ k by omega), aset_self] at h0
      exact h0
    · exact gs_vret h hE dR_remove_12 (by rw [rremove, if_neg (by omega)])
set_option maxRecDepth 4000 in
theorem cR_insert (X : XT) {S : Sg} {k : Nat} (hk : kd k = 3) {i x : Int} (hi : -2147483648 ≤ i ∧ i ≤ 2147483647) (hw : rw1 S k) : Ctr X 1 yR_insert bR_insert 4 none [.ref k, .int (iI (i)), .int (iI (x))] (mk S) (PV (fun S' => S' = rinsert S k i x)) 0 0 := by
  refine Ctr.ofS (by decide) rfl (Nat.le_of_ble_eq_true rfl) (fun F h hF hE => ?_)
  have hk1 := (row_ok hk).1
  have hn := (row_ok hk).2
  obtain ⟨hw1, hw2⟩ := id hw
  have loop : ∀ (n : Nat) (j : Int) (f : Int → Int), 0 ≤ i → i ≤ S.1 k 1 → S.1 k 1 < (ln (k + 1) : Int) → j - i < n → i ≤ j → j ≤ S.1 k 1 → (∀ m : Int, 0 ≤ m → m < (ln (k + 1) : Int) → f m = if m ≤ j then S.1 (k + 1) m else if m ≤ S.1 k 1 then S.1 (k + 1) (m - 1) else S.1 (k + 1) m) → Go F 4 (mk (aset S (k + 1) f)) 0 0 25 [.ref k, .int (iI i), .int (iI x), .int (iI j)] [] := by
    intro n
    induction n with
    | zero => intro j f g1 g2 g3 h1 h2 h3; exfalso; omega
    | succ n ih =>
      intro j f g1 g2 g3 h1 h2 h3 hf
      refine go_iload_n (pc' := 26) h ⟨dR_insert_25, rfl⟩ rfl ?_
      refine go_iload_n (pc' := 27) h ⟨dR_insert_26, rfl⟩ rfl ?_
      refine gi_icmp_le (tgt := 48) (pc' := 30) h dR_insert_27 rfl rfl (by omega) (fun c27 => ?_) (fun c27 => ?_)
      · refine go_aload_n (pc' := 49) h ⟨dR_insert_48, rfl⟩ rfl ?_
        refine go_iload_n (pc' := 50) h ⟨dR_insert_49, rfl⟩ rfl ?_
        refine go_iload_n (pc' := 51) h ⟨dR_insert_50, rfl⟩ rfl ?_
        refine gd_callVV (pc' := 54) (As := [.int (iI (i)), .int (iI (x))]) (st := []) h hF ⟨dR_insert_51, rfl⟩ kvR_27 (cR_put X hk (by omega)) (by omega) hk (by decide) ⟨_, _, rfl⟩ rfl (Nat.le_of_ble_eq_true rfl) rfl ?_
        rw [rput_in _ (by omega), pt_aset, aset_eq, aset_aset]
        refine go_aload_n (pc' := 55) h ⟨dR_insert_54, rfl⟩ rfl ?_
        refine go_dup (pc' := 56) h ⟨dR_insert_55, rfl⟩ rfl ?_
        refine gs_get (v := .int (iI (S.1 k 1))) (pc' := 59) h ⟨dR_insert_56, rfl⟩ fgR_19 hk (by decide) (by rw [fl3, aset_ne _ _ (by omega)]) ?_
        refine gi_iconst (pc' := 60) h ⟨dR_insert_59, rfl⟩ ?_
        refine gi_iadd (pc' := 61) h ⟨dR_insert_60, rfl⟩ ?_
        refine gd_putI (i := 1) (pc' := 64) h ⟨dR_insert_61, rfl⟩ fpR_19 hk (by decide) rfl rfl ?_
        rw [rfin hk1 _ (g := insF (S.1 (k + 1)) i (S.1 k 1) x) (fun m m1 m2 => by
          unfold insF
          by_cases hm : m = i
          · rw [hm, uF_eq, if_neg (by omega), if_pos rfl]
          · rw [uF_ne _ _ hm, hf m m1 m2]
            by_cases hm2 : m ≤ j
            · rw [if_pos hm2, if_pos (by omega)]
            · rw [if_neg hm2, if_neg (show ¬ m < i by omega), if_neg hm])]
        exact gs_vret h hE dR_insert_64 (by rw [rinsert, if_pos ⟨g3, g1, g2⟩])
      · refine go_aload_n (pc' := 31) h ⟨dR_insert_30, rfl⟩ rfl ?_
        refine go_iload_n (pc' := 32) h ⟨dR_insert_31, rfl⟩ rfl ?_
        refine go_aload_n (pc' := 33) h ⟨dR_insert_32, rfl⟩ rfl ?_
        refine go_iload_n (pc' := 34) h ⟨dR_insert_33, rfl⟩ rfl ?_
        refine gi_iconst (pc' := 35) h ⟨dR_insert_34, rfl⟩ ?_
        refine gi_isub (pc' := 36) h ⟨dR_insert_35, rfl⟩ ?_
        refine gd_callVI (pc' := 39) (As := [.int (iI (j - 1))]) (st := [.int (iI (j)), .ref k]) h hF ⟨dR_insert_36, rfl⟩ kvR_31 (cR_at X hk (by omega)) (by omega) hk (by decide) ⟨_, _, rfl⟩ rfl (Nat.le_of_ble_eq_true rfl) rfl ?_
        rw [aset_eq, atV_in (by omega)]
        refine gd_callVV (pc' := 42) (As := [.int (iI (j)), .int (iI (f (j - 1)))]) (st := []) h hF ⟨dR_insert_39, rfl⟩ kvR_27 (cR_put X hk (by omega)) (by omega) hk (by decide) ⟨_, _, rfl⟩ rfl (Nat.le_of_ble_eq_true rfl) rfl ?_
        rw [rput_in _ (by omega), pt_aset, aset_eq, aset_aset]
        refine gi_iinc (L' := [.ref k, .int (iI (i)), .int (iI (x)), .int (iI (j + (-1)))]) (pc' := 45) h ⟨dR_insert_42, rfl⟩ rfl (by decide) rfl rfl ?_
        refine gi_goto (tgt := 25) h dR_insert_45 rfl ?_
        exact ih (j + -1) _ g1 g2 g3 (by omega) (by omega) (by omega) (fun m m1 m2 => by
          by_cases hm : m = j
          · rw [hm, uF_eq, hf (j - 1) (by omega) (by omega), if_pos (by omega), if_neg (by omega), if_pos (by omega)]
          · rw [uF_ne _ _ hm, hf m m1 m2]
            by_cases hm2 : m ≤ j
            · rw [if_pos hm2, if_pos (show m ≤ j + -1 by omega)]
            · rw [if_neg hm2, if_neg (show ¬ m ≤ j + -1 by omega)])
  refine go_aload_n (pc' := 1) h ⟨dR_insert_0, rfl⟩ rfl ?_
  refine gd_callVI (pc' := 4) (As := []) (st := []) h hF ⟨dR_insert_1, rfl⟩ kvR_23 (cR_isFull X hk hw) (by omega) hk (by decide) ⟨_, _, rfl⟩ rfl (Nat.le_of_ble_eq_true rfl) rfl ?_
  refine gi_if_ne (tgt := 19) (pc' := 7) h dR_insert_4 rfl rfl (by split <;> omega) (fun c4 => ?_) (fun c4 => ?_)
  · exact gs_vret h hE dR_insert_19 (by rw [rinsert, if_neg (by first | omega | (split at c4 <;> omega))])
  · refine go_iload_n (pc' := 8) h ⟨dR_insert_7, rfl⟩ rfl ?_
    refine gi_if_lt (tgt := 19) (pc' := 11) h dR_insert_8 rfl rfl (by omega) (fun c8 => ?_) (fun c8 => ?_)
    · exact gs_vret h hE dR_insert_19 (by rw [rinsert, if_neg (by first | omega | (split at c4 <;> omega))])
    · refine go_iload_n (pc' := 12) h ⟨dR_insert_11, rfl⟩ rfl ?_
      refine go_aload_n (pc' := 13) h ⟨dR_insert_12, rfl⟩ rfl ?_
      refine gs_get (v := .int (iI (S.1 k 1))) (pc' := 16) h ⟨dR_insert_13, rfl⟩ fgR_19 hk (by decide) (rfl) ?_
      refine gi_icmp_le (tgt := 20) (pc' := 19) h dR_insert_16 rfl rfl (by omega) (fun c16 => ?_) (fun c16 => ?_)
      · refine go_aload_n (pc' := 21) h ⟨dR_insert_20, rfl⟩ rfl ?_
        refine gs_get (v := .int (iI (S.1 k 1))) (pc' := 24) h ⟨dR_insert_21, rfl⟩ fgR_19 hk (by decide) (rfl) ?_
        refine go_istore_n (L' := [.ref k, .int (iI (i)), .int (iI (x)), .int (iI (S.1 k 1))]) (pc' := 25) h ⟨dR_insert_24, rfl⟩ (by decide) rfl rfl ?_
        have hz : S.1 k 1 < (ln (k + 1) : Int) := by split at c4 <;> omega
        have h0 := loop (S.1 k 1 - i + 1).toNat (S.1 k 1) (S.1 (k + 1)) (by omega) (by omega) hz (by omega) (by omega) (by omega) (fun m m1 m2 => by
          by_cases hm : m ≤ S.1 k 1
          · rw [if_pos hm]
          · rw [if_neg hm, if_neg hm])
        rw [aset_self] at h0
        exact h0
      · exact gs_vret h hE dR_insert_19 (by rw [rinsert, if_neg (by first | omega | (split at c4 <;> omega))])
