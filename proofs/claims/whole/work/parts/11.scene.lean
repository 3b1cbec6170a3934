/-! what stays when a row changes; the rows stay well -/
theorem b0 {P : Prop} [Decidable P] (h : (if P then (1 : Int) else 0) = 0) : ¬ P := fun hp => by rw [if_pos hp] at h; cases h
theorem b1 {P : Prop} [Decidable P] (h : ¬ (if P then (1 : Int) else 0) = 0) : P := by
  by_cases hp : P
  · exact hp
  · rw [if_neg hp] at h; exact absurd rfl h
theorem rpush_ne (S : Sg) {k a : Nat} (x : Int) (h1 : a ≠ k) (h2 : a ≠ k + 1) : (rpush S k x).1 a = S.1 a := by
  unfold rpush
  by_cases h : S.1 k 1 < (ln (k + 1) : Int)
  · rw [if_pos h, pt_ne _ _ _ h1, pt_ne _ _ _ h2]
  · rw [if_neg h]
theorem rempty_ne (S : Sg) {k a : Nat} (h1 : a ≠ k) (h2 : a ≠ k + 1) : (rempty S k).1 a = S.1 a := by
  unfold rempty
  rw [pt_ne _ _ _ h1, aset_ne _ _ h2]
theorem rcopy_ne (S : Sg) {k o a : Nat} (h1 : a ≠ k) (h2 : a ≠ k + 1) : (rcopy S k o).1 a = S.1 a := by
  unfold rcopy
  rw [pt_ne _ _ _ h1, aset_ne _ _ h2]
theorem rremove_ne (S : Sg) {k a : Nat} (i : Int) (h1 : a ≠ k) (h2 : a ≠ k + 1) : (rremove S k i).1 a = S.1 a := by
  unfold rremove
  by_cases h : 0 ≤ i ∧ i < S.1 k 1
  · rw [if_pos h, pt_ne _ _ _ h1, aset_ne _ _ h2]
  · rw [if_neg h]
theorem rinsert_ne (S : Sg) {k a : Nat} (i x : Int) (h1 : a ≠ k) (h2 : a ≠ k + 1) : (rinsert S k i x).1 a = S.1 a := by
  unfold rinsert
  by_cases h : S.1 k 1 < (ln (k + 1) : Int) ∧ 0 ≤ i ∧ i ≤ S.1 k 1
  · rw [if_pos h, pt_ne _ _ _ h1, aset_ne _ _ h2]
  · rw [if_neg h]
theorem rput_2 (S : Sg) (k : Nat) (i x : Int) : (rput S k i x).2 = S.2 := by unfold rput; split <;> rfl
theorem rpush_2 (S : Sg) (k : Nat) (x : Int) : (rpush S k x).2 = S.2 := by unfold rpush; split <;> rfl
theorem rempty_2 (S : Sg) (k : Nat) : (rempty S k).2 = S.2 := rfl
theorem rcopy_2 (S : Sg) (k o : Nat) : (rcopy S k o).2 = S.2 := rfl
theorem rremove_2 (S : Sg) (k : Nat) (i : Int) : (rremove S k i).2 = S.2 := by unfold rremove; split <;> rfl
theorem rinsert_2 (S : Sg) (k : Nat) (i x : Int) : (rinsert S k i x).2 = S.2 := by unfold rinsert; split <;> rfl
theorem aset_2 (S : Sg) (k : Nat) (f : Int → Int) : (aset S k f).2 = S.2 := rfl
theorem pt_2 (S : Sg) (k : Nat) (i x : Int) : (pt S k i x).2 = S.2 := rfl
/-- every row's size is in its room -/
def Wr (S : Sg) : Prop := ∀ k, kd k = 3 → rw1 S k
theorem Wr.pt {S : Sg} (h : Wr S) {a : Nat} (ha : kd a ≠ 3) (i x : Int) : Wr (pt S a i x) := fun k hk => by
  have : k ≠ a := fun e => ha (e ▸ hk)
  unfold rw1
  rw [pt_ne _ _ _ this]
  exact h k hk
theorem Wr.aset {S : Sg} (h : Wr S) {a : Nat} (ha : kd a ≠ 3) (f : Int → Int) : Wr (aset S a f) := fun k hk => by
  have : k ≠ a := fun e => ha (e ▸ hk)
  unfold rw1
  rw [aset_ne _ _ this]
  exact h k hk
theorem Wr.ptT {S : Sg} (h : Wr S) (a : Nat) (x : Int64) : Wr (ptT S a x) := h
theorem Wr.ptP {S : Sg} (h : Wr S) (P : Nat × Nat) : Wr (ptP S P) := h
theorem Wr.one {S S' : Sg} (h : Wr S) {k : Nat} (hk : kd k = 3) (hn : ∀ a, a ≠ k → a ≠ k + 1 → S'.1 a = S.1 a) (h1 : rw1 S' k) : Wr S' := fun a ha => by
  by_cases e : a = k
  · rw [e]; exact h1
  · have e2 : a ≠ k + 1 := fun z => by rw [z, (row_ok hk).1] at ha; omega
    unfold rw1
    rw [hn a e e2]
    exact h a ha
theorem Wr.put {S : Sg} (h : Wr S) {k : Nat} (hk : kd k = 3) (i x : Int) : Wr (rput S k i x) := h.one hk (fun a _ h2 => rput_ne _ _ _ h2) (by unfold rw1; rw [rput_ne _ _ _ (by omega)]; exact h k hk)
theorem Wr.push {S : Sg} (h : Wr S) {k : Nat} (hk : kd k = 3) (x : Int) : Wr (rpush S k x) := h.one hk (fun a h1 h2 => rpush_ne _ _ h1 h2) (by
  have h0 := h k hk
  unfold rw1 rpush at *
  by_cases hz : S.1 k 1 < (ln (k + 1) : Int)
  · rw [if_pos hz, pt_at]; omega
  · rw [if_neg hz]; exact h0)
theorem Wr.empty {S : Sg} (h : Wr S) {k : Nat} (hk : kd k = 3) : Wr (rempty S k) := h.one hk (fun a h1 h2 => rempty_ne _ h1 h2) (by unfold rw1 rempty; rw [pt_at]; omega)
theorem Wr.copy {S : Sg} (h : Wr S) {k o : Nat} (hk : kd k = 3) (ho : kd o = 3) : Wr (rcopy S k o) := h.one hk (fun a h1 h2 => rcopy_ne _ h1 h2) (by have := h o ho; unfold rw1 rcopy at *; rw [pt_at]; omega)
theorem Wr.remove {S : Sg} (h : Wr S) {k : Nat} (hk : kd k = 3) (i : Int) : Wr (rremove S k i) := h.one hk (fun a h1 h2 => rremove_ne _ _ h1 h2) (by
  have h0 := h k hk
  unfold rw1 rremove at *
  by_cases hz : 0 ≤ i ∧ i < S.1 k 1
  · rw [if_pos hz, pt_at]; omega
  · rw [if_neg hz]; exact h0)
theorem Wr.insert {S : Sg} (h : Wr S) {k : Nat} (hk : kd k = 3) (i x : Int) : Wr (rinsert S k i x) := h.one hk (fun a h1 h2 => rinsert_ne _ _ _ h1 h2) (by
  have h0 := h k hk
  unfold rw1 rinsert at *
  by_cases hz : S.1 k 1 < (ln (k + 1) : Int) ∧ 0 ≤ i ∧ i ≤ S.1 k 1
  · rw [if_pos hz, pt_at]; omega
  · rw [if_neg hz]; exact h0)
theorem cR_atn (X : XT) {S : Sg} {k : Nat} (hk : kd k = 3) {n : Nat} (hln : ln (k + 1) = n) {i : Int} (hi : -2147483648 ≤ i ∧ i ≤ 2147483647) : Ctr X 0 yR_at bR_at 2 (some .int) [.ref k, .int (iI i)] (mk S) (PI (fun r S' => r = atV (S.1 (k + 1)) n i ∧ S' = S)) 0 0 := by
  subst hln; exact cR_at X hk hi
theorem cR_ati (X : XT) {S : Sg} {k : Nat} (hk : kd k = 3) {n : Nat} (hln : ln (k + 1) = n) {i : Int} (hi : 0 ≤ i ∧ i < (n : Int)) : Ctr X 0 yR_at bR_at 2 (some .int) [.ref k, .int (iI i)] (mk S) (PI (fun r S' => r = S.1 (k + 1) i ∧ S' = S)) 0 0 := by
  subst hln
  have hn := (row_ok hk).2
  rw [← atV_in (f := S.1 (k + 1)) hi]
  exact cR_at X hk (by omega)
/-! Scene, at 30 -/
def sbegin (S : Sg) : Sg := rempty (rempty (rempty (rempty (rempty S 31) 33) 35) 37) 39
def scopy (S : Sg) (k o : Nat) : Sg := rcopy (rcopy (rcopy (rcopy (rcopy S (k + 1) (o + 1)) (k + 3) (o + 3)) (k + 5) (o + 5)) (k + 7) (o + 7)) (k + 9) (o + 9)
def wF (g : Int → Int) (lo j y : Int) : Int → Int := fun m => if lo ≤ m ∧ m < j then g m + y else g m
theorem wF_s (g : Int → Int) {lo j : Int} (y : Int) (h : lo ≤ j) : uF (wF g lo j y) j (g j + y) = wF g lo (j + 1) y := by
  funext m
  unfold uF wF
  by_cases hm : m = j
  · rw [if_pos hm, if_pos (by omega), hm]
  · rw [if_neg hm]
    by_cases h2 : lo ≤ m ∧ m < j
    · rw [if_pos h2, if_pos (by omega)]
    · rw [if_neg h2, if_neg (by omega)]
theorem wF_0 (g : Int → Int) (lo y : Int) : wF g lo lo y = g := by
  funext m
  unfold wF
  rw [if_neg (by omega)]
theorem wF_j (g : Int → Int) (lo j y : Int) : wF g lo j y j = g j := by
  unfold wF
  rw [if_neg (by omega)]
def swear (S : Sg) (a b y : Int) : Sg := aset S (if a < b then 36 else 38) (wF (S.1 (if a < b then 36 else 38)) (min a b) (max a b) y)
set_option maxRecDepth 4000 in
theorem cS_begin (X : XT) {S : Sg} (hW : Wr S) : Ctr X 1 yS_begin bS_begin 1 none [.ref 30] (mk S) (PV (fun S' => S' = sbegin S)) 0 0 := by
  refine Ctr.ofS (by decide) rfl (Nat.le_of_ble_eq_true rfl) (fun F h hF hE => ?_)
  refine go_aload_n (pc' := 1) h ⟨dS_begin_0, rfl⟩ rfl ?_
  refine gs_get (v := .ref 31) (pc' := 4) h ⟨dS_begin_1, rfl⟩ fgS_14 rfl (by decide) (rfl) ?_
  refine gd_callVV (E := rempty S 31) (pc' := 7) (As := []) (st := []) h hF ⟨dS_begin_4, rfl⟩ kvS_32 (cR_empty X rfl) (by omega) rfl (by decide) ⟨_, _, rfl⟩ rfl (Nat.le_of_ble_eq_true rfl) rfl ?_
  refine go_aload_n (pc' := 8) h ⟨dS_begin_7, rfl⟩ rfl ?_
  refine gs_get (v := .ref 33) (pc' := 11) h ⟨dS_begin_8, rfl⟩ fgS_20 rfl (by decide) (rfl) ?_
  refine gd_callVV (E := rempty (rempty S 31) 33) (pc' := 14) (As := []) (st := []) h hF ⟨dS_begin_11, rfl⟩ kvS_32 (cR_empty X rfl) (by omega) rfl (by decide) ⟨_, _, rfl⟩ rfl (Nat.le_of_ble_eq_true rfl) rfl ?_
  refine go_aload_n (pc' := 15) h ⟨dS_begin_14, rfl⟩ rfl ?_
  refine gs_get (v := .ref 35) (pc' := 18) h ⟨dS_begin_15, rfl⟩ fgS_23 rfl (by decide) (rfl) ?_
  refine gd_callVV (E := rempty (rempty (rempty S 31) 33) 35) (pc' := 21) (As := []) (st := []) h hF ⟨dS_begin_18, rfl⟩ kvS_32 (cR_empty X rfl) (by omega) rfl (by decide) ⟨_, _, rfl⟩ rfl (Nat.le_of_ble_eq_true rfl) rfl ?_
  refine go_aload_n (pc' := 22) h ⟨dS_begin_21, rfl⟩ rfl ?_
  refine gs_get (v := .ref 37) (pc' := 25) h ⟨dS_begin_22, rfl⟩ fgS_26 rfl (by decide) (rfl) ?_
  refine gd_callVV (E := rempty (rempty (rempty (rempty S 31) 33) 35) 37) (pc' := 28) (As := []) (st := []) h hF ⟨dS_begin_25, rfl⟩ kvS_32 (cR_empty X rfl) (by omega) rfl (by decide) ⟨_, _, rfl⟩ rfl (Nat.le_of_ble_eq_true rfl) rfl ?_
  refine go_aload_n (pc' := 29) h ⟨dS_begin_28, rfl⟩ rfl ?_
  refine gs_get (v := .ref 39) (pc' := 32) h ⟨dS_begin_29, rfl⟩ fgS_29 rfl (by decide) (rfl) ?_
  refine gd_callVV (E := rempty (rempty (rempty (rempty (rempty S 31) 33) 35) 37) 39) (pc' := 35) (As := []) (st := []) h hF ⟨dS_begin_32, rfl⟩ kvS_32 (cR_empty X rfl) (by omega) rfl (by decide) ⟨_, _, rfl⟩ rfl (Nat.le_of_ble_eq_true rfl) rfl ?_
  exact gs_vret h hE dS_begin_35 (rfl)
set_option maxRecDepth 4000 in
theorem cS_staying (X : XT) {S : Sg} : Ctr X 1 yS_staying bS_staying 1 (some .int) [.ref 30] (mk S) (PI (fun r S' => r = sumI (S.1 34) 4 ∧ S' = S)) 0 0 := by
  refine Ctr.ofS (by decide) rfl (Nat.le_of_ble_eq_true rfl) (fun F h hF hE => ?_)
  refine go_aload_n (pc' := 1) h ⟨dS_staying_0, rfl⟩ rfl ?_
  refine gs_get (v := .ref 33) (pc' := 4) h ⟨dS_staying_1, rfl⟩ fgS_20 rfl (by decide) (rfl) ?_
  refine gd_callVI (e := sumI (S.1 34) 4) (E := S) (pc' := 7) (As := []) (st := []) h hF ⟨dS_staying_4, rfl⟩ kvS_43 (cR_sum X rfl) (by omega) rfl (by decide) ⟨_, _, rfl⟩ rfl (Nat.le_of_ble_eq_true rfl) rfl ?_
  exact gs_iret h hE dS_staying_7 (⟨rfl, rfl⟩)
set_option maxRecDepth 4000 in
theorem cS_hasStayed (X : XT) {S : Sg} {t : Int} (ht : 0 ≤ t ∧ t < 4) (hs : S.1 34 t = 0 ∨ S.1 34 t = 1) : Ctr X 1 yS_hasStayed bS_hasStayed 2 (some .boolean) [.ref 30, .int (iI (t))] (mk S) (PI (fun r S' => r = (if S.1 34 t = 1 then 1 else 0) ∧ S' = S)) 0 0 := by
  refine Ctr.ofS (by decide) rfl (Nat.le_of_ble_eq_true rfl) (fun F h hF hE => ?_)
  refine go_aload_n (pc' := 1) h ⟨dS_hasStayed_0, rfl⟩ rfl ?_
  refine gs_get (v := .ref 33) (pc' := 4) h ⟨dS_hasStayed_1, rfl⟩ fgS_20 rfl (by decide) (rfl) ?_
  refine go_iload_n (pc' := 5) h ⟨dS_hasStayed_4, rfl⟩ rfl ?_
  refine gd_callVI (e := S.1 34 t) (E := S) (pc' := 8) (As := [.int (iI (t))]) (st := []) h hF ⟨dS_hasStayed_5, rfl⟩ kvS_39 (cR_ati X (n := 4) rfl rfl (by omega)) (by omega) rfl (by decide) ⟨_, _, rfl⟩ rfl (Nat.le_of_ble_eq_true rfl) rfl ?_
  refine gi_if_eq (tgt := 15) (pc' := 11) h dS_hasStayed_8 rfl rfl (by omega) (fun c8 => ?_) (fun c8 => ?_)
  · refine gi_iconst (pc' := 16) h ⟨dS_hasStayed_15, rfl⟩ ?_
    exact gs_zret h hE dS_hasStayed_16 (by omega) (⟨by split <;> omega, rfl⟩)
  · refine gi_iconst (pc' := 12) h ⟨dS_hasStayed_11, rfl⟩ ?_
    refine gi_goto (tgt := 16) h dS_hasStayed_12 rfl ?_
    exact gs_zret h hE dS_hasStayed_16 (by omega) (⟨by split <;> omega, rfl⟩)
set_option maxRecDepth 4000 in
theorem cS_wearWay (X : XT) {S : Sg} {a b y : Int} (ha : 0 ≤ a ∧ a ≤ 100) (hb : 0 ≤ b ∧ b ≤ 100) (hy : -1 ≤ y ∧ y ≤ 1) (h1 : ∀ m : Int, 0 ≤ m → m < 100 → 0 ≤ S.1 36 m ∧ S.1 36 m ≤ 9999) (h2 : ∀ m : Int, 0 ≤ m → m < 100 → 0 ≤ S.1 38 m ∧ S.1 38 m ≤ 9999) : Ctr X 1 yS_wearWay bS_wearWay 7 none [.ref 30, .int (iI (a)), .int (iI (b)), .int (iI (y))] (mk S) (PV (fun S' => S' = swear S a b y)) 0 0 := by
  refine Ctr.ofS (by decide) rfl (Nat.le_of_ble_eq_true rfl) (fun F h hF hE => ?_)
  have loop : ∀ (k : Nat) (hk : kd k = 3) (hln : ln (k + 1) = 100) (lo hi : Int), 0 ≤ lo → hi ≤ 100 → (∀ m : Int, 0 ≤ m → m < 100 → 0 ≤ S.1 (k + 1) m ∧ S.1 (k + 1) m ≤ 9999) → Fend F (PV fun S' => S' = aset S (k + 1) (wF (S.1 (k + 1)) lo hi y)) 0 0 → ∀ (n : Nat) (j : Int), hi - j < n → lo ≤ j → j ≤ hi → Go F 7 (mk (aset S (k + 1) (wF (S.1 (k + 1)) lo j y))) 0 0 32 [.ref 30, .int (iI a), .int (iI b), .int (iI y), .ref k, .int (iI hi), .int (iI j)] [] := by
    intro k hk hln lo hi g1 g2 g3 hE n
    induction n with
    | zero => intro j g4 g5 g6; exfalso; omega
    | succ n ih =>
      intro j g4 g5 g6
      refine go_iload (pc' := 34) h ⟨dS_wearWay_32, rfl⟩ rfl ?_
      refine go_iload (pc' := 36) h ⟨dS_wearWay_34, rfl⟩ rfl ?_
      refine gi_icmp_ge (tgt := 61) (pc' := 39) h dS_wearWay_36 rfl rfl (by omega) (fun c36 => ?_) (fun c36 => ?_)
      · exact gs_vret h hE dS_wearWay_61 (by rw [show j = hi by omega])
      · refine go_aload (pc' := 41) h ⟨dS_wearWay_39, rfl⟩ rfl ?_
        refine go_iload (pc' := 43) h ⟨dS_wearWay_41, rfl⟩ rfl ?_
        refine go_aload (pc' := 45) h ⟨dS_wearWay_43, rfl⟩ rfl ?_
        refine go_iload (pc' := 47) h ⟨dS_wearWay_45, rfl⟩ rfl ?_
        refine gd_callVI (e := (aset S (k + 1) (wF (S.1 (k + 1)) lo j y)).1 (k + 1) j) (E := aset S (k + 1) (wF (S.1 (k + 1)) lo j y)) (pc' := 50) (As := [.int (iI (j))]) (st := [.int (iI (j)), .ref k]) h hF ⟨dS_wearWay_47, rfl⟩ kvS_39 (cR_ati X (n := 100) hk hln (by omega)) (by omega) hk (by decide) ⟨_, _, rfl⟩ rfl (Nat.le_of_ble_eq_true rfl) rfl ?_
        rw [aset_eq, wF_j]
        have g7 := g3 j (by omega) (by omega)
        refine go_iload_n (pc' := 51) h ⟨dS_wearWay_50, rfl⟩ rfl ?_
        refine gi_iadd (pc' := 52) h ⟨dS_wearWay_51, rfl⟩ ?_
        refine gd_callVV (E := rput (aset S (k + 1) (wF (S.1 (k + 1)) lo j y)) k j ((S.1 (k + 1) j) + y)) (pc' := 55) (As := [.int (iI (j)), .int (iI ((S.1 (k + 1) j) + y))]) (st := []) h hF ⟨dS_wearWay_52, rfl⟩ kvS_56 (cR_put X hk (by omega)) (by omega) hk (by decide) ⟨_, _, rfl⟩ rfl (Nat.le_of_ble_eq_true rfl) rfl ?_
        refine gi_iinc (L' := [.ref 30, .int (iI (a)), .int (iI (b)), .int (iI (y)), .ref k, .int (iI (hi)), .int (iI (j + 1))]) (pc' := 58) h ⟨dS_wearWay_55, rfl⟩ rfl (by decide) rfl rfl ?_
        refine gi_goto (tgt := 32) h dS_wearWay_58 rfl ?_
        rw [rput_in _ (by omega), pt_aset, aset_eq, aset_aset, wF_s _ _ (by omega)]
        exact ih (j + 1) (by omega) (by omega) (by omega)
  refine go_iload_n (pc' := 1) h ⟨dS_wearWay_0, rfl⟩ rfl ?_
  refine go_iload_n (pc' := 2) h ⟨dS_wearWay_1, rfl⟩ rfl ?_
  refine gi_icmp_ge (tgt := 12) (pc' := 5) h dS_wearWay_2 rfl rfl (by omega) (fun c2 => ?_) (fun c2 => ?_)
  · refine go_aload_n (pc' := 13) h ⟨dS_wearWay_12, rfl⟩ rfl ?_
    refine gs_get (v := .ref 37) (pc' := 16) h ⟨dS_wearWay_13, rfl⟩ fgS_26 rfl (by decide) (rfl) ?_
    refine go_astore (L' := [.ref 30, .int (iI (a)), .int (iI (b)), .int (iI (y)), .ref 37]) (pc' := 18) h ⟨dS_wearWay_16, rfl⟩ (by decide) rfl rfl ?_
    refine go_iload_n (pc' := 19) h ⟨dS_wearWay_18, rfl⟩ rfl ?_
    refine go_iload_n (pc' := 20) h ⟨dS_wearWay_19, rfl⟩ rfl ?_
    refine gd_callSI (e := max a b) (E := S) (pc' := 23) (As := [.int (iI (a)), .int (iI (b))]) (st := []) h hF ⟨dS_wearWay_20, rfl⟩ kvS_47 (cK_max X (by omega)) (by omega) rfl (Nat.le_of_ble_eq_true rfl) rfl ?_
    refine go_istore (L' := [.ref 30, .int (iI (a)), .int (iI (b)), .int (iI (y)), .ref 37, .int (iI (max a b))]) (pc' := 25) h ⟨dS_wearWay_23, rfl⟩ (by decide) rfl rfl ?_
    refine go_iload_n (pc' := 26) h ⟨dS_wearWay_25, rfl⟩ rfl ?_
    refine go_iload_n (pc' := 27) h ⟨dS_wearWay_26, rfl⟩ rfl ?_
    refine gd_callSI (e := min a b) (E := S) (pc' := 30) (As := [.int (iI (a)), .int (iI (b))]) (st := []) h hF ⟨dS_wearWay_27, rfl⟩ kvS_53 (cK_min X (by omega)) (by omega) rfl (Nat.le_of_ble_eq_true rfl) rfl ?_
    refine go_istore (L' := [.ref 30, .int (iI (a)), .int (iI (b)), .int (iI (y)), .ref 37, .int (iI (max a b)), .int (iI (min a b))]) (pc' := 32) h ⟨dS_wearWay_30, rfl⟩ (by decide) rfl rfl ?_
    have h0 := loop 37 rfl rfl (min a b) (max a b) (by omega) (by omega) h2 (by unfold swear at hE; rw [if_neg (by omega)] at hE; exact hE) 101 (min a b) (by omega) (by omega) (by omega)
    rw [wF_0, aset_self] at h0
    exact h0
  · refine go_aload_n (pc' := 6) h ⟨dS_wearWay_5, rfl⟩ rfl ?_
    refine gs_get (v := .ref 35) (pc' := 9) h ⟨dS_wearWay_6, rfl⟩ fgS_23 rfl (by decide) (rfl) ?_
    refine gi_goto (tgt := 16) h dS_wearWay_9 rfl ?_
    refine go_astore (L' := [.ref 30, .int (iI (a)), .int (iI (b)), .int (iI (y)), .ref 35]) (pc' := 18) h ⟨dS_wearWay_16, rfl⟩ (by decide) rfl rfl ?_
    refine go_iload_n (pc' := 19) h ⟨dS_wearWay_18, rfl⟩ rfl ?_
    refine go_iload_n (pc' := 20) h ⟨dS_wearWay_19, rfl⟩ rfl ?_
    refine gd_callSI (e := max a b) (E := S) (pc' := 23) (As := [.int (iI (a)), .int (iI (b))]) (st := []) h hF ⟨dS_wearWay_20, rfl⟩ kvS_47 (cK_max X (by omega)) (by omega) rfl (Nat.le_of_ble_eq_true rfl) rfl ?_
    refine go_istore (L' := [.ref 30, .int (iI (a)), .int (iI (b)), .int (iI (y)), .ref 35, .int (iI (max a b))]) (pc' := 25) h ⟨dS_wearWay_23, rfl⟩ (by decide) rfl rfl ?_
    refine go_iload_n (pc' := 26) h ⟨dS_wearWay_25, rfl⟩ rfl ?_
    refine go_iload_n (pc' := 27) h ⟨dS_wearWay_26, rfl⟩ rfl ?_
    refine gd_callSI (e := min a b) (E := S) (pc' := 30) (As := [.int (iI (a)), .int (iI (b))]) (st := []) h hF ⟨dS_wearWay_27, rfl⟩ kvS_53 (cK_min X (by omega)) (by omega) rfl (Nat.le_of_ble_eq_true rfl) rfl ?_
    refine go_istore (L' := [.ref 30, .int (iI (a)), .int (iI (b)), .int (iI (y)), .ref 35, .int (iI (max a b)), .int (iI (min a b))]) (pc' := 32) h ⟨dS_wearWay_30, rfl⟩ (by decide) rfl rfl ?_
    have h0 := loop 35 rfl rfl (min a b) (max a b) (by omega) (by omega) h1 (by unfold swear at hE; rw [if_pos (by omega)] at hE; exact hE) 101 (min a b) (by omega) (by omega) (by omega)
    rw [wF_0, aset_self] at h0
    exact h0
def sdF (S : Sg) (x y : Int) : Int := if x = 0 then S.1 36 y else S.1 38 y
set_option maxRecDepth 4000 in
theorem cS_wearOf (X : XT) {S : Sg} {x y : Int} (hx : 0 ≤ x ∧ x ≤ 1) (hy : 0 ≤ y ∧ y < 100) (h1 : ∀ m : Int, 0 ≤ m → m < 100 → 0 ≤ S.1 36 m ∧ S.1 36 m ≤ 9999) (h2 : ∀ m : Int, 0 ≤ m → m < 100 → 0 ≤ S.1 38 m ∧ S.1 38 m ≤ 9999) : Ctr X 1 yS_wearOf bS_wearOf 3 (some .int) [.ref 30, .int (iI (x)), .int (iI (y))] (mk S) (PI (fun r S' => r = sdF S x y ∧ S' = S)) 0 0 := by
  refine Ctr.ofS (by decide) rfl (Nat.le_of_ble_eq_true rfl) (fun F h hF hE => ?_)
  have w1 := h1 y hy.1 hy.2
  have w2 := h2 y hy.1 hy.2
  refine gi_sipush (pc' := 3) h ⟨dS_wearOf_0, rfl⟩ rfl ?_
  refine go_iload_n (pc' := 4) h ⟨dS_wearOf_3, rfl⟩ rfl ?_
  refine gi_if_ne (tgt := 18) (pc' := 7) h dS_wearOf_4 rfl rfl (by omega) (fun c4 => ?_) (fun c4 => ?_)
  · refine go_aload_n (pc' := 19) h ⟨dS_wearOf_18, rfl⟩ rfl ?_
    refine gs_get (v := .ref 37) (pc' := 22) h ⟨dS_wearOf_19, rfl⟩ fgS_26 rfl (by decide) (rfl) ?_
    refine go_iload_n (pc' := 23) h ⟨dS_wearOf_22, rfl⟩ rfl ?_
    refine gd_callVI (e := S.1 38 y) (E := S) (pc' := 26) (As := [.int (iI (y))]) (st := [.int (iI (9999))]) h hF ⟨dS_wearOf_23, rfl⟩ kvS_39 (cR_ati X (n := 100) rfl rfl (by omega)) (by omega) rfl (by decide) ⟨_, _, rfl⟩ rfl (Nat.le_of_ble_eq_true rfl) rfl ?_
    refine gd_callSI (e := min 9999 (S.1 38 y)) (E := S) (pc' := 29) (As := [.int (iI (9999)), .int (iI (S.1 38 y))]) (st := []) h hF ⟨dS_wearOf_26, rfl⟩ kvS_53 (cK_min X (by omega)) (by omega) rfl (Nat.le_of_ble_eq_true rfl) rfl ?_
    exact gs_iret h hE dS_wearOf_29 (by unfold sdF; rw [if_neg (by omega)]; exact ⟨by omega, rfl⟩)
  · refine go_aload_n (pc' := 8) h ⟨dS_wearOf_7, rfl⟩ rfl ?_
    refine gs_get (v := .ref 35) (pc' := 11) h ⟨dS_wearOf_8, rfl⟩ fgS_23 rfl (by decide) (rfl) ?_
    refine go_iload_n (pc' := 12) h ⟨dS_wearOf_11, rfl⟩ rfl ?_
    refine gd_callVI (e := S.1 36 y) (E := S) (pc' := 15) (As := [.int (iI (y))]) (st := [.int (iI (9999))]) h hF ⟨dS_wearOf_12, rfl⟩ kvS_39 (cR_ati X (n := 100) rfl rfl (by omega)) (by omega) rfl (by decide) ⟨_, _, rfl⟩ rfl (Nat.le_of_ble_eq_true rfl) rfl ?_
    refine gi_goto (tgt := 26) h dS_wearOf_15 rfl ?_
    refine gd_callSI (e := min 9999 (S.1 36 y)) (E := S) (pc' := 29) (As := [.int (iI (9999)), .int (iI (S.1 36 y))]) (st := []) h hF ⟨dS_wearOf_26, rfl⟩ kvS_53 (cK_min X (by omega)) (by omega) rfl (Nat.le_of_ble_eq_true rfl) rfl ?_
    exact gs_iret h hE dS_wearOf_29 (by unfold sdF; rw [if_pos (by omega)]; exact ⟨by omega, rfl⟩)
theorem cS_wearL (X : XT) {S : Sg} {y : Int} (hy : 0 ≤ y ∧ y < 100) (h1 : ∀ m : Int, 0 ≤ m → m < 100 → 0 ≤ S.1 36 m ∧ S.1 36 m ≤ 9999) (h2 : ∀ m : Int, 0 ≤ m → m < 100 → 0 ≤ S.1 38 m ∧ S.1 38 m ≤ 9999) : Ctr X 1 yS_wearOf bS_wearOf 3 (some .int) [.ref 30, .int (iI 0), .int (iI y)] (mk S) (PI (fun r S' => r = S.1 36 y ∧ S' = S)) 0 0 := cS_wearOf X (x := 0) (by omega) hy h1 h2
theorem cS_wearR (X : XT) {S : Sg} {y : Int} (hy : 0 ≤ y ∧ y < 100) (h1 : ∀ m : Int, 0 ≤ m → m < 100 → 0 ≤ S.1 36 m ∧ S.1 36 m ≤ 9999) (h2 : ∀ m : Int, 0 ≤ m → m < 100 → 0 ≤ S.1 38 m ∧ S.1 38 m ≤ 9999) : Ctr X 1 yS_wearOf bS_wearOf 3 (some .int) [.ref 30, .int (iI 1), .int (iI y)] (mk S) (PI (fun r S' => r = S.1 38 y ∧ S' = S)) 0 0 := cS_wearOf X (x := 1) (by omega) hy h1 h2
set_option maxRecDepth 4000 in
theorem cS_allWear (X : XT) {S : Sg} (h1 : ∀ m : Int, 0 ≤ m → m < 100 → 0 ≤ S.1 36 m ∧ S.1 36 m ≤ 9999) (h2 : ∀ m : Int, 0 ≤ m → m < 100 → 0 ≤ S.1 38 m ∧ S.1 38 m ≤ 9999) : Ctr X 2 yS_allWear bS_allWear 3 (some .int) [.ref 30] (mk S) (PI (fun r S' => r = sumI (S.1 36) 100 + sumI (S.1 38) 100 ∧ S' = S)) 0 0 := by
  refine Ctr.ofS (by decide) rfl (Nat.le_of_ble_eq_true rfl) (fun F h hF hE => ?_)
  have loop : ∀ (n : Nat) (j : Int), 101 < j + n → 0 ≤ j → j ≤ 100 → Go F 3 (mk S) 0 0 4 [.ref 30, .int (iI (sumI (S.1 36) j + sumI (S.1 38) j)), .int (iI j)] [] := by
    intro n
    induction n with
    | zero => intro j g4 g5 g6; exfalso; omega
    | succ n ih =>
      intro j g4 g5 g6
      refine go_iload_n (pc' := 5) h ⟨dS_allWear_4, rfl⟩ rfl ?_
      refine gi_bipush (pc' := 7) h ⟨dS_allWear_5, rfl⟩ rfl ?_
      refine gi_icmp_ge (tgt := 32) (pc' := 10) h dS_allWear_7 rfl rfl (by omega) (fun c7 => ?_) (fun c7 => ?_)
      · refine go_iload_n (pc' := 33) h ⟨dS_allWear_32, rfl⟩ rfl ?_
        exact gs_iret h hE dS_allWear_33 (⟨by rw [show j = 100 by omega], rfl⟩)
      · refine go_iload_n (pc' := 11) h ⟨dS_allWear_10, rfl⟩ rfl ?_
        refine go_aload_n (pc' := 12) h ⟨dS_allWear_11, rfl⟩ rfl ?_
        refine gi_iconst (pc' := 13) h ⟨dS_allWear_12, rfl⟩ ?_
        refine go_iload_n (pc' := 14) h ⟨dS_allWear_13, rfl⟩ rfl ?_
        refine gd_callVI (e := S.1 36 j) (E := S) (pc' := 17) (As := [.int (iI (0)), .int (iI (j))]) (st := [.int (iI (sumI (S.1 36) j + sumI (S.1 38) j))]) h hF ⟨dS_allWear_14, rfl⟩ kvS_60 (cS_wearL X (by omega) h1 h2) (by omega) rfl (by decide) ⟨_, _, rfl⟩ rfl (Nat.le_of_ble_eq_true rfl) rfl ?_
        refine go_aload_n (pc' := 18) h ⟨dS_allWear_17, rfl⟩ rfl ?_
        refine gi_iconst (pc' := 19) h ⟨dS_allWear_18, rfl⟩ ?_
        refine go_iload_n (pc' := 20) h ⟨dS_allWear_19, rfl⟩ rfl ?_
        refine gd_callVI (e := S.1 38 j) (E := S) (pc' := 23) (As := [.int (iI (1)), .int (iI (j))]) (st := [.int (iI (S.1 36 j)), .int (iI (sumI (S.1 36) j + sumI (S.1 38) j))]) h hF ⟨dS_allWear_20, rfl⟩ kvS_60 (cS_wearR X (by omega) h1 h2) (by omega) rfl (by decide) ⟨_, _, rfl⟩ rfl (Nat.le_of_ble_eq_true rfl) rfl ?_
        refine gi_iadd (pc' := 24) h ⟨dS_allWear_23, rfl⟩ ?_
        refine gi_iadd (pc' := 25) h ⟨dS_allWear_24, rfl⟩ ?_
        refine go_istore_n (L' := [.ref 30, .int (iI ((sumI (S.1 36) j + sumI (S.1 38) j) + ((S.1 36 j) + (S.1 38 j)))), .int (iI (j))]) (pc' := 26) h ⟨dS_allWear_25, rfl⟩ (by decide) rfl rfl ?_
        refine gi_iinc (L' := [.ref 30, .int (iI ((sumI (S.1 36) j + sumI (S.1 38) j) + ((S.1 36 j) + (S.1 38 j)))), .int (iI (j + 1))]) (pc' := 29) h ⟨dS_allWear_26, rfl⟩ rfl (by decide) rfl rfl ?_
        refine gi_goto (tgt := 4) h dS_allWear_29 rfl ?_
        have g10 := ih (j + 1) (by omega) (by omega) (by omega)
        rw [sumI_s _ g5, sumI_s _ g5] at g10
        rw [show ((sumI (S.1 36) j + sumI (S.1 38) j) + ((S.1 36 j) + (S.1 38 j))) = sumI (S.1 36) j + S.1 36 j + (sumI (S.1 38) j + S.1 38 j) by omega]
        exact g10
  refine gi_iconst (pc' := 1) h ⟨dS_allWear_0, rfl⟩ ?_
  refine go_istore_n (L' := [.ref 30, .int (iI (0))]) (pc' := 2) h ⟨dS_allWear_1, rfl⟩ (by decide) rfl rfl ?_
  refine gi_iconst (pc' := 3) h ⟨dS_allWear_2, rfl⟩ ?_
  refine go_istore_n (L' := [.ref 30, .int (iI (0)), .int (iI (0))]) (pc' := 4) h ⟨dS_allWear_3, rfl⟩ (by decide) rfl rfl ?_
  have h0 := loop 102 0 (by omega) (by omega) (by omega)
  rw [sumI_0, sumI_0] at h0
  exact h0
set_option maxRecDepth 4000 in
theorem cS_firstThingAt (X : XT) {S : Sg} {x : Int} (hx : -2147483648 ≤ x ∧ x ≤ 2147483647) (hz : 0 ≤ S.1 39 1 ∧ S.1 39 1 ≤ 6) (hf : ∀ i : Int, 0 ≤ i → i < S.1 39 1 → 0 ≤ S.1 40 i ∧ S.1 40 i ≤ 100) : Ctr X 1 yS_firstThingAt bS_firstThingAt 3 (some .int) [.ref 30, .int (iI (x))] (mk S) (PI (fun r S' => S' = S ∧ ((r = -1 ∧ ∀ i : Int, 0 ≤ i → i < S.1 39 1 → S.1 40 i ≠ x) ∨ (0 ≤ r ∧ r < S.1 39 1 ∧ S.1 40 r = x ∧ ∀ i : Int, 0 ≤ i → i < r → S.1 40 i ≠ x)))) 0 0 := by
  refine Ctr.ofS (by decide) rfl (Nat.le_of_ble_eq_true rfl) (fun F h hF hE => ?_)
  have loop : ∀ (n : Nat) (j : Int), 7 < j + n → 0 ≤ j → j ≤ S.1 39 1 → (∀ i : Int, 0 ≤ i → i < j → S.1 40 i ≠ x) → Go F 3 (mk S) 0 0 2 [.ref 30, .int (iI x), .int (iI j)] [] := by
    intro n
    induction n with
    | zero => intro j g4 g5 g6; exfalso; omega
    | succ n ih =>
      intro j g4 g5 g6 g7
      refine go_iload_n (pc' := 3) h ⟨dS_firstThingAt_2, rfl⟩ rfl ?_
      refine go_aload_n (pc' := 4) h ⟨dS_firstThingAt_3, rfl⟩ rfl ?_
      refine gs_get (v := .ref 39) (pc' := 7) h ⟨dS_firstThingAt_4, rfl⟩ fgS_29 rfl (by decide) (rfl) ?_
      refine gd_callVI (e := S.1 39 1) (E := S) (pc' := 10) (As := []) (st := [.int (iI (j))]) h hF ⟨dS_firstThingAt_7, rfl⟩ kvS_63 (cR_size X rfl) (by omega) rfl (by decide) ⟨_, _, rfl⟩ rfl (Nat.le_of_ble_eq_true rfl) rfl ?_
      refine gi_icmp_ge (tgt := 33) (pc' := 13) h dS_firstThingAt_10 rfl rfl (by omega) (fun c10 => ?_) (fun c10 => ?_)
      · refine gi_iconst (pc' := 34) h ⟨dS_firstThingAt_33, rfl⟩ ?_
        exact gs_iret h hE dS_firstThingAt_34 (⟨rfl, Or.inl ⟨rfl, fun i i1 i2 => g7 i i1 (by omega)⟩⟩)
      · refine go_aload_n (pc' := 14) h ⟨dS_firstThingAt_13, rfl⟩ rfl ?_
        refine gs_get (v := .ref 39) (pc' := 17) h ⟨dS_firstThingAt_14, rfl⟩ fgS_29 rfl (by decide) (rfl) ?_
        refine go_iload_n (pc' := 18) h ⟨dS_firstThingAt_17, rfl⟩ rfl ?_
        refine gd_callVI (e := S.1 40 j) (E := S) (pc' := 21) (As := [.int (iI (j))]) (st := []) h hF ⟨dS_firstThingAt_18, rfl⟩ kvS_39 (cR_ati X (n := 6) rfl rfl (by omega)) (by omega) rfl (by decide) ⟨_, _, rfl⟩ rfl (Nat.le_of_ble_eq_true rfl) rfl ?_
        have g8 := hf j (by omega) (by omega)
        refine go_iload_n (pc' := 22) h ⟨dS_firstThingAt_21, rfl⟩ rfl ?_
        refine gi_icmp_ne (tgt := 27) (pc' := 25) h dS_firstThingAt_22 rfl rfl (by omega) (fun c22 => ?_) (fun c22 => ?_)
        · refine gi_iinc (L' := [.ref 30, .int (iI (x)), .int (iI (j + 1))]) (pc' := 30) h ⟨dS_firstThingAt_27, rfl⟩ rfl (by decide) rfl rfl ?_
          refine gi_goto (tgt := 2) h dS_firstThingAt_30 rfl ?_
          exact ih (j + 1) (by omega) (by omega) (by omega) (fun i i1 i2 => by
            by_cases hi : i = j
            · rw [hi]; assumption
            · exact g7 i i1 (by omega))
        · refine go_iload_n (pc' := 26) h ⟨dS_firstThingAt_25, rfl⟩ rfl ?_
          exact gs_iret h hE dS_firstThingAt_26 (⟨rfl, Or.inr ⟨by omega, by omega, by omega, g7⟩⟩)
  refine gi_iconst (pc' := 1) h ⟨dS_firstThingAt_0, rfl⟩ ?_
  refine go_istore_n (L' := [.ref 30, .int (iI (x)), .int (iI (0))]) (pc' := 2) h ⟨dS_firstThingAt_1, rfl⟩ (by decide) rfl rfl ?_
  exact loop 8 0 (by omega) (by omega) (by omega) (fun i i1 i2 => by omega)
set_option maxRecDepth 4000 in
theorem cS_thingsBetween (X : XT) {S : Sg} {x y : Int} (hx : -2147483648 ≤ x ∧ x ≤ 2147483647 ∧ -2147483648 ≤ y ∧ y ≤ 2147483647) (hz : 0 ≤ S.1 39 1 ∧ S.1 39 1 ≤ 6) (hf : ∀ i : Int, 0 ≤ i → i < S.1 39 1 → 0 ≤ S.1 40 i ∧ S.1 40 i ≤ 100) : Ctr X 1 yS_thingsBetween bS_thingsBetween 5 (some .int) [.ref 30, .int (iI (x)), .int (iI (y))] (mk S) (PI (fun r S' => r = sumI (fun i => if x ≤ S.1 40 i ∧ S.1 40 i < y then 1 else 0) (S.1 39 1) ∧ S' = S)) 0 0 := by
  refine Ctr.ofS (by decide) rfl (Nat.le_of_ble_eq_true rfl) (fun F h hF hE => ?_)
  have loop : ∀ (n : Nat) (j : Int), 7 < j + n → 0 ≤ j → j ≤ S.1 39 1 → Go F 5 (mk S) 0 0 5 [.ref 30, .int (iI x), .int (iI y), .int (iI (sumI (fun i => if x ≤ S.1 40 i ∧ S.1 40 i < y then 1 else 0) j)), .int (iI j)] [] := by
    intro n
    induction n with
    | zero => intro j g4 g5 g6; exfalso; omega
    | succ n ih =>
      intro j g4 g5 g6
      have g9 := sumI_s (fun i => if x ≤ S.1 40 i ∧ S.1 40 i < y then 1 else 0) g5
      refine go_iload (pc' := 7) h ⟨dS_thingsBetween_5, rfl⟩ rfl ?_
      refine go_aload_n (pc' := 8) h ⟨dS_thingsBetween_7, rfl⟩ rfl ?_
      refine gs_get (v := .ref 39) (pc' := 11) h ⟨dS_thingsBetween_8, rfl⟩ fgS_29 rfl (by decide) (rfl) ?_
      refine gd_callVI (e := S.1 39 1) (E := S) (pc' := 14) (As := []) (st := [.int (iI (j))]) h hF ⟨dS_thingsBetween_11, rfl⟩ kvS_63 (cR_size X rfl) (by omega) rfl (by decide) ⟨_, _, rfl⟩ rfl (Nat.le_of_ble_eq_true rfl) rfl ?_
      refine gi_icmp_ge (tgt := 52) (pc' := 17) h dS_thingsBetween_14 rfl rfl (by omega) (fun c14 => ?_) (fun c14 => ?_)
      · refine go_iload_n (pc' := 53) h ⟨dS_thingsBetween_52, rfl⟩ rfl ?_
        exact gs_iret h hE dS_thingsBetween_53 (⟨by rw [show j = S.1 39 1 by omega], rfl⟩)
      · refine go_aload_n (pc' := 18) h ⟨dS_thingsBetween_17, rfl⟩ rfl ?_
        refine gs_get (v := .ref 39) (pc' := 21) h ⟨dS_thingsBetween_18, rfl⟩ fgS_29 rfl (by decide) (rfl) ?_
        refine go_iload (pc' := 23) h ⟨dS_thingsBetween_21, rfl⟩ rfl ?_
        refine gd_callVI (e := S.1 40 j) (E := S) (pc' := 26) (As := [.int (iI (j))]) (st := []) h hF ⟨dS_thingsBetween_23, rfl⟩ kvS_39 (cR_ati X (n := 6) rfl rfl (by omega)) (by omega) rfl (by decide) ⟨_, _, rfl⟩ rfl (Nat.le_of_ble_eq_true rfl) rfl ?_
        have g8 := hf j (by omega) (by omega)
        refine go_iload_n (pc' := 27) h ⟨dS_thingsBetween_26, rfl⟩ rfl ?_
        refine gi_icmp_lt (tgt := 46) (pc' := 30) h dS_thingsBetween_27 rfl rfl (by omega) (fun c27 => ?_) (fun c27 => ?_)
        · refine gi_iinc (L' := [.ref 30, .int (iI (x)), .int (iI (y)), .int (iI (sumI (fun i => if x ≤ S.1 40 i ∧ S.1 40 i < y then 1 else 0) j)), .int (iI (j + 1))]) (pc' := 49) h ⟨dS_thingsBetween_46, rfl⟩ rfl (by decide) rfl rfl ?_
          refine gi_goto (tgt := 5) h dS_thingsBetween_49 rfl ?_
          have g10 := ih (j + 1) (by omega) (by omega) (by omega)
          rw [g9, if_neg (by omega), Int.add_zero] at g10
          exact g10
        · refine go_aload_n (pc' := 31) h ⟨dS_thingsBetween_30, rfl⟩ rfl ?_
          refine gs_get (v := .ref 39) (pc' := 34) h ⟨dS_thingsBetween_31, rfl⟩ fgS_29 rfl (by decide) (rfl) ?_
          refine go_iload (pc' := 36) h ⟨dS_thingsBetween_34, rfl⟩ rfl ?_
          refine gd_callVI (e := S.1 40 j) (E := S) (pc' := 39) (As := [.int (iI (j))]) (st := []) h hF ⟨dS_thingsBetween_36, rfl⟩ kvS_39 (cR_ati X (n := 6) rfl rfl (by omega)) (by omega) rfl (by decide) ⟨_, _, rfl⟩ rfl (Nat.le_of_ble_eq_true rfl) rfl ?_
          refine go_iload_n (pc' := 40) h ⟨dS_thingsBetween_39, rfl⟩ rfl ?_
          refine gi_icmp_ge (tgt := 46) (pc' := 43) h dS_thingsBetween_40 rfl rfl (by omega) (fun c40 => ?_) (fun c40 => ?_)
          · refine gi_iinc (L' := [.ref 30, .int (iI (x)), .int (iI (y)), .int (iI (sumI (fun i => if x ≤ S.1 40 i ∧ S.1 40 i < y then 1 else 0) j)), .int (iI (j + 1))]) (pc' := 49) h ⟨dS_thingsBetween_46, rfl⟩ rfl (by decide) rfl rfl ?_
            refine gi_goto (tgt := 5) h dS_thingsBetween_49 rfl ?_
            have g10 := ih (j + 1) (by omega) (by omega) (by omega)
            rw [g9, if_neg (by omega), Int.add_zero] at g10
            exact g10
          · refine gi_iinc (L' := [.ref 30, .int (iI (x)), .int (iI (y)), .int (iI (sumI (fun i => if x ≤ S.1 40 i ∧ S.1 40 i < y then 1 else 0) j + 1)), .int (iI (j))]) (pc' := 46) h ⟨dS_thingsBetween_43, rfl⟩ rfl (by decide) rfl rfl ?_
            refine gi_iinc (L' := [.ref 30, .int (iI (x)), .int (iI (y)), .int (iI (sumI (fun i => if x ≤ S.1 40 i ∧ S.1 40 i < y then 1 else 0) j + 1)), .int (iI (j + 1))]) (pc' := 49) h ⟨dS_thingsBetween_46, rfl⟩ rfl (by decide) rfl rfl ?_
            refine gi_goto (tgt := 5) h dS_thingsBetween_49 rfl ?_
            have g10 := ih (j + 1) (by omega) (by omega) (by omega)
            rw [g9, if_pos (by omega)] at g10
            exact g10
  refine gi_iconst (pc' := 1) h ⟨dS_thingsBetween_0, rfl⟩ ?_
  refine go_istore_n (L' := [.ref 30, .int (iI (x)), .int (iI (y)), .int (iI (0))]) (pc' := 2) h ⟨dS_thingsBetween_1, rfl⟩ (by decide) rfl rfl ?_
  refine gi_iconst (pc' := 3) h ⟨dS_thingsBetween_2, rfl⟩ ?_
  refine go_istore (L' := [.ref 30, .int (iI (x)), .int (iI (y)), .int (iI (0)), .int (iI (0))]) (pc' := 5) h ⟨dS_thingsBetween_3, rfl⟩ (by decide) rfl rfl ?_
  exact loop 8 0 (by omega) (by omega) (by omega)
set_option maxRecDepth 4000 in
theorem cS_copy_41_30 (X : XT) {S : Sg} (hW : Wr S) : Ctr X 2 yS_copy bS_copy 2 none [.ref 41, .ref 30] (mk S) (PV (fun S' => S' = scopy S 41 30)) 0 0 := by
  refine Ctr.ofS (by decide) rfl (Nat.le_of_ble_eq_true rfl) (fun F h hF hE => ?_)
  refine go_aload_n (pc' := 1) h ⟨dS_copy_0, rfl⟩ rfl ?_
  refine gs_get (v := .ref 42) (pc' := 4) h ⟨dS_copy_1, rfl⟩ fgS_14 rfl (by decide) (rfl) ?_
  refine go_aload_n (pc' := 5) h ⟨dS_copy_4, rfl⟩ rfl ?_
  refine gs_get (v := .ref 31) (pc' := 8) h ⟨dS_copy_5, rfl⟩ fgS_14 rfl (by decide) (rfl) ?_
  refine gd_callVV (E := rcopy S 42 31) (pc' := 11) (As := [.ref 31]) (st := []) h hF ⟨dS_copy_8, rfl⟩ kvS_35 (cR_copy X rfl rfl (by decide) (hW 31 rfl)) (by omega) rfl (by decide) ⟨_, _, rfl⟩ rfl (Nat.le_of_ble_eq_true rfl) rfl ?_
  refine go_aload_n (pc' := 12) h ⟨dS_copy_11, rfl⟩ rfl ?_
  refine gs_get (v := .ref 44) (pc' := 15) h ⟨dS_copy_12, rfl⟩ fgS_20 rfl (by decide) (rfl) ?_
  refine go_aload_n (pc' := 16) h ⟨dS_copy_15, rfl⟩ rfl ?_
  refine gs_get (v := .ref 33) (pc' := 19) h ⟨dS_copy_16, rfl⟩ fgS_20 rfl (by decide) (rfl) ?_
  refine gd_callVV (E := rcopy (rcopy S 42 31) 44 33) (pc' := 22) (As := [.ref 33]) (st := []) h hF ⟨dS_copy_19, rfl⟩ kvS_35 (cR_copy X rfl rfl (by decide) ((hW.copy rfl rfl) 33 rfl)) (by omega) rfl (by decide) ⟨_, _, rfl⟩ rfl (Nat.le_of_ble_eq_true rfl) rfl ?_
  refine go_aload_n (pc' := 23) h ⟨dS_copy_22, rfl⟩ rfl ?_
  refine gs_get (v := .ref 46) (pc' := 26) h ⟨dS_copy_23, rfl⟩ fgS_23 rfl (by decide) (rfl) ?_
  refine go_aload_n (pc' := 27) h ⟨dS_copy_26, rfl⟩ rfl ?_
  refine gs_get (v := .ref 35) (pc' := 30) h ⟨dS_copy_27, rfl⟩ fgS_23 rfl (by decide) (rfl) ?_
  refine gd_callVV (E := rcopy (rcopy (rcopy S 42 31) 44 33) 46 35) (pc' := 33) (As := [.ref 35]) (st := []) h hF ⟨dS_copy_30, rfl⟩ kvS_35 (cR_copy X rfl rfl (by decide) (((hW.copy rfl rfl).copy rfl rfl) 35 rfl)) (by omega) rfl (by decide) ⟨_, _, rfl⟩ rfl (Nat.le_of_ble_eq_true rfl) rfl ?_
  refine go_aload_n (pc' := 34) h ⟨dS_copy_33, rfl⟩ rfl ?_
  refine gs_get (v := .ref 48) (pc' := 37) h ⟨dS_copy_34, rfl⟩ fgS_26 rfl (by decide) (rfl) ?_
  refine go_aload_n (pc' := 38) h ⟨dS_copy_37, rfl⟩ rfl ?_
  refine gs_get (v := .ref 37) (pc' := 41) h ⟨dS_copy_38, rfl⟩ fgS_26 rfl (by decide) (rfl) ?_
  refine gd_callVV (E := rcopy (rcopy (rcopy (rcopy S 42 31) 44 33) 46 35) 48 37) (pc' := 44) (As := [.ref 37]) (st := []) h hF ⟨dS_copy_41, rfl⟩ kvS_35 (cR_copy X rfl rfl (by decide) ((((hW.copy rfl rfl).copy rfl rfl).copy rfl rfl) 37 rfl)) (by omega) rfl (by decide) ⟨_, _, rfl⟩ rfl (Nat.le_of_ble_eq_true rfl) rfl ?_
  refine go_aload_n (pc' := 45) h ⟨dS_copy_44, rfl⟩ rfl ?_
  refine gs_get (v := .ref 50) (pc' := 48) h ⟨dS_copy_45, rfl⟩ fgS_29 rfl (by decide) (rfl) ?_
  refine go_aload_n (pc' := 49) h ⟨dS_copy_48, rfl⟩ rfl ?_
  refine gs_get (v := .ref 39) (pc' := 52) h ⟨dS_copy_49, rfl⟩ fgS_29 rfl (by decide) (rfl) ?_
  refine gd_callVV (E := rcopy (rcopy (rcopy (rcopy (rcopy S 42 31) 44 33) 46 35) 48 37) 50 39) (pc' := 55) (As := [.ref 39]) (st := []) h hF ⟨dS_copy_52, rfl⟩ kvS_35 (cR_copy X rfl rfl (by decide) (((((hW.copy rfl rfl).copy rfl rfl).copy rfl rfl).copy rfl rfl) 39 rfl)) (by omega) rfl (by decide) ⟨_, _, rfl⟩ rfl (Nat.le_of_ble_eq_true rfl) rfl ?_
  exact gs_vret h hE dS_copy_55 (rfl)
set_option maxRecDepth 4000 in
theorem cS_copy_52_30 (X : XT) {S : Sg} (hW : Wr S) : Ctr X 2 yS_copy bS_copy 2 none [.ref 52, .ref 30] (mk S) (PV (fun S' => S' = scopy S 52 30)) 0 0 := by
  refine Ctr.ofS (by decide) rfl (Nat.le_of_ble_eq_true rfl) (fun F h hF hE => ?_)
  refine go_aload_n (pc' := 1) h ⟨dS_copy_0, rfl⟩ rfl ?_
  refine gs_get (v := .ref 53) (pc' := 4) h ⟨dS_copy_1, rfl⟩ fgS_14 rfl (by decide) (rfl) ?_
  refine go_aload_n (pc' := 5) h ⟨dS_copy_4, rfl⟩ rfl ?_
  refine gs_get (v := .ref 31) (pc' := 8) h ⟨dS_copy_5, rfl⟩ fgS_14 rfl (by decide) (rfl) ?_
  refine gd_callVV (E := rcopy S 53 31) (pc' := 11) (As := [.ref 31]) (st := []) h hF ⟨dS_copy_8, rfl⟩ kvS_35 (cR_copy X rfl rfl (by decide) (hW 31 rfl)) (by omega) rfl (by decide) ⟨_, _, rfl⟩ rfl (Nat.le_of_ble_eq_true rfl) rfl ?_
  refine go_aload_n (pc' := 12) h ⟨dS_copy_11, rfl⟩ rfl ?_
  refine gs_get (v := .ref 55) (pc' := 15) h ⟨dS_copy_12, rfl⟩ fgS_20 rfl (by decide) (rfl) ?_
  refine go_aload_n (pc' := 16) h ⟨dS_copy_15, rfl⟩ rfl ?_
  refine gs_get (v := .ref 33) (pc' := 19) h ⟨dS_copy_16, rfl⟩ fgS_20 rfl (by decide) (rfl) ?_
  refine gd_callVV (E := rcopy (rcopy S 53 31) 55 33) (pc' := 22) (As := [.ref 33]) (st := []) h hF ⟨dS_copy_19, rfl⟩ kvS_35 (cR_copy X rfl rfl (by decide) ((hW.copy rfl rfl) 33 rfl)) (by omega) rfl (by decide) ⟨_, _, rfl⟩ rfl (Nat.le_of_ble_eq_true rfl) rfl ?_
  refine go_aload_n (pc' := 23) h ⟨dS_copy_22, rfl⟩ rfl ?_
  refine gs_get (v := .ref 57) (pc' := 26) h ⟨dS_copy_23, rfl⟩ fgS_23 rfl (by decide) (rfl) ?_
  refine go_aload_n (pc' := 27) h ⟨dS_copy_26, rfl⟩ rfl ?_
  refine gs_get (v := .ref 35) (pc' := 30) h ⟨dS_copy_27, rfl⟩ fgS_23 rfl (by decide) (rfl) ?_
  refine gd_callVV (E := rcopy (rcopy (rcopy S 53 31) 55 33) 57 35) (pc' := 33) (As := [.ref 35]) (st := []) h hF ⟨dS_copy_30, rfl⟩ kvS_35 (cR_copy X rfl rfl (by decide) (((hW.copy rfl rfl).copy rfl rfl) 35 rfl)) (by omega) rfl (by decide) ⟨_, _, rfl⟩ rfl (Nat.le_of_ble_eq_true rfl) rfl ?_
  refine go_aload_n (pc' := 34) h ⟨dS_copy_33, rfl⟩ rfl ?_
  refine gs_get (v := .ref 59) (pc' := 37) h ⟨dS_copy_34, rfl⟩ fgS_26 rfl (by decide) (rfl) ?_
  refine go_aload_n (pc' := 38) h ⟨dS_copy_37, rfl⟩ rfl ?_
  refine gs_get (v := .ref 37) (pc' := 41) h ⟨dS_copy_38, rfl⟩ fgS_26 rfl (by decide) (rfl) ?_
  refine gd_callVV (E := rcopy (rcopy (rcopy (rcopy S 53 31) 55 33) 57 35) 59 37) (pc' := 44) (As := [.ref 37]) (st := []) h hF ⟨dS_copy_41, rfl⟩ kvS_35 (cR_copy X rfl rfl (by decide) ((((hW.copy rfl rfl).copy rfl rfl).copy rfl rfl) 37 rfl)) (by omega) rfl (by decide) ⟨_, _, rfl⟩ rfl (Nat.le_of_ble_eq_true rfl) rfl ?_
  refine go_aload_n (pc' := 45) h ⟨dS_copy_44, rfl⟩ rfl ?_
  refine gs_get (v := .ref 61) (pc' := 48) h ⟨dS_copy_45, rfl⟩ fgS_29 rfl (by decide) (rfl) ?_
  refine go_aload_n (pc' := 49) h ⟨dS_copy_48, rfl⟩ rfl ?_
  refine gs_get (v := .ref 39) (pc' := 52) h ⟨dS_copy_49, rfl⟩ fgS_29 rfl (by decide) (rfl) ?_
  refine gd_callVV (E := rcopy (rcopy (rcopy (rcopy (rcopy S 53 31) 55 33) 57 35) 59 37) 61 39) (pc' := 55) (As := [.ref 39]) (st := []) h hF ⟨dS_copy_52, rfl⟩ kvS_35 (cR_copy X rfl rfl (by decide) (((((hW.copy rfl rfl).copy rfl rfl).copy rfl rfl).copy rfl rfl) 39 rfl)) (by omega) rfl (by decide) ⟨_, _, rfl⟩ rfl (Nat.le_of_ble_eq_true rfl) rfl ?_
  exact gs_vret h hE dS_copy_55 (rfl)
set_option maxRecDepth 4000 in
theorem cS_copy_30_41 (X : XT) {S : Sg} (hW : Wr S) : Ctr X 2 yS_copy bS_copy 2 none [.ref 30, .ref 41] (mk S) (PV (fun S' => S' = scopy S 30 41)) 0 0 := by
  refine Ctr.ofS (by decide) rfl (Nat.le_of_ble_eq_true rfl) (fun F h hF hE => ?_)
  refine go_aload_n (pc' := 1) h ⟨dS_copy_0, rfl⟩ rfl ?_
  refine gs_get (v := .ref 31) (pc' := 4) h ⟨dS_copy_1, rfl⟩ fgS_14 rfl (by decide) (rfl) ?_
  refine go_aload_n (pc' := 5) h ⟨dS_copy_4, rfl⟩ rfl ?_
  refine gs_get (v := .ref 42) (pc' := 8) h ⟨dS_copy_5, rfl⟩ fgS_14 rfl (by decide) (rfl) ?_
  refine gd_callVV (E := rcopy S 31 42) (pc' := 11) (As := [.ref 42]) (st := []) h hF ⟨dS_copy_8, rfl⟩ kvS_35 (cR_copy X rfl rfl (by decide) (hW 42 rfl)) (by omega) rfl (by decide) ⟨_, _, rfl⟩ rfl (Nat.le_of_ble_eq_true rfl) rfl ?_
  refine go_aload_n (pc' := 12) h ⟨dS_copy_11, rfl⟩ rfl ?_
  refine gs_get (v := .ref 33) (pc' := 15) h ⟨dS_copy_12, rfl⟩ fgS_20 rfl (by decide) (rfl) ?_
  refine go_aload_n (pc' := 16) h ⟨dS_copy_15, rfl⟩ rfl ?_
  refine gs_get (v := .ref 44) (pc' := 19) h ⟨dS_copy_16, rfl⟩ fgS_20 rfl (by decide) (rfl) ?_
  refine gd_callVV (E := rcopy (rcopy S 31 42) 33 44) (pc' := 22) (As := [.ref 44]) (st := []) h hF ⟨dS_copy_19, rfl⟩ kvS_35 (cR_copy X rfl rfl (by decide) ((hW.copy rfl rfl) 44 rfl)) (by omega) rfl (by decide) ⟨_, _, rfl⟩ rfl (Nat.le_of_ble_eq_true rfl) rfl ?_
  refine go_aload_n (pc' := 23) h ⟨dS_copy_22, rfl⟩ rfl ?_
  refine gs_get (v := .ref 35) (pc' := 26) h ⟨dS_copy_23, rfl⟩ fgS_23 rfl (by decide) (rfl) ?_
  refine go_aload_n (pc' := 27) h ⟨dS_copy_26, rfl⟩ rfl ?_
  refine gs_get (v := .ref 46) (pc' := 30) h ⟨dS_copy_27, rfl⟩ fgS_23 rfl (by decide) (rfl) ?_
  refine gd_callVV (E := rcopy (rcopy (rcopy S 31 42) 33 44) 35 46) (pc' := 33) (As := [.ref 46]) (st := []) h hF ⟨dS_copy_30, rfl⟩ kvS_35 (cR_copy X rfl rfl (by decide) (((hW.copy rfl rfl).copy rfl rfl) 46 rfl)) (by omega) rfl (by decide) ⟨_, _, rfl⟩ rfl (Nat.le_of_ble_eq_true rfl) rfl ?_
  refine go_aload_n (pc' := 34) h ⟨dS_copy_33, rfl⟩ rfl ?_
  refine gs_get (v := .ref 37) (pc' := 37) h ⟨dS_copy_34, rfl⟩ fgS_26 rfl (by decide) (rfl) ?_
  refine go_aload_n (pc' := 38) h ⟨dS_copy_37, rfl⟩ rfl ?_
  refine gs_get (v := .ref 48) (pc' := 41) h ⟨dS_copy_38, rfl⟩ fgS_26 rfl (by decide) (rfl) ?_
  refine gd_callVV (E := rcopy (rcopy (rcopy (rcopy S 31 42) 33 44) 35 46) 37 48) (pc' := 44) (As := [.ref 48]) (st := []) h hF ⟨dS_copy_41, rfl⟩ kvS_35 (cR_copy X rfl rfl (by decide) ((((hW.copy rfl rfl).copy rfl rfl).copy rfl rfl) 48 rfl)) (by omega) rfl (by decide) ⟨_, _, rfl⟩ rfl (Nat.le_of_ble_eq_true rfl) rfl ?_
  refine go_aload_n (pc' := 45) h ⟨dS_copy_44, rfl⟩ rfl ?_
  refine gs_get (v := .ref 39) (pc' := 48) h ⟨dS_copy_45, rfl⟩ fgS_29 rfl (by decide) (rfl) ?_
  refine go_aload_n (pc' := 49) h ⟨dS_copy_48, rfl⟩ rfl ?_
  refine gs_get (v := .ref 50) (pc' := 52) h ⟨dS_copy_49, rfl⟩ fgS_29 rfl (by decide) (rfl) ?_
  refine gd_callVV (E := rcopy (rcopy (rcopy (rcopy (rcopy S 31 42) 33 44) 35 46) 37 48) 39 50) (pc' := 55) (As := [.ref 50]) (st := []) h hF ⟨dS_copy_52, rfl⟩ kvS_35 (cR_copy X rfl rfl (by decide) (((((hW.copy rfl rfl).copy rfl rfl).copy rfl rfl).copy rfl rfl) 50 rfl)) (by omega) rfl (by decide) ⟨_, _, rfl⟩ rfl (Nat.le_of_ble_eq_true rfl) rfl ?_
  exact gs_vret h hE dS_copy_55 (rfl)
set_option maxRecDepth 4000 in
theorem cS_copy_30_52 (X : XT) {S : Sg} (hW : Wr S) : Ctr X 2 yS_copy bS_copy 2 none [.ref 30, .ref 52] (mk S) (PV (fun S' => S' = scopy S 30 52)) 0 0 := by
  refine Ctr.ofS (by decide) rfl (Nat.le_of_ble_eq_true rfl) (fun F h hF hE => ?_)
  refine go_aload_n (pc' := 1) h ⟨dS_copy_0, rfl⟩ rfl ?_
  refine gs_get (v := .ref 31) (pc' := 4) h ⟨dS_copy_1, rfl⟩ fgS_14 rfl (by decide) (rfl) ?_
  refine go_aload_n (pc' := 5) h ⟨dS_copy_4, rfl⟩ rfl ?_
  refine gs_get (v := .ref 53) (pc' := 8) h ⟨dS_copy_5, rfl⟩ fgS_14 rfl (by decide) (rfl) ?_
  refine gd_callVV (E := rcopy S 31 53) (pc' := 11) (As := [.ref 53]) (st := []) h hF ⟨dS_copy_8, rfl⟩ kvS_35 (cR_copy X rfl rfl (by decide) (hW 53 rfl)) (by omega) rfl (by decide) ⟨_, _, rfl⟩ rfl (Nat.le_of_ble_eq_true rfl) rfl ?_
  refine go_aload_n (pc' := 12) h ⟨dS_copy_11, rfl⟩ rfl ?_
  refine gs_get (v := .ref 33) (pc' := 15) h ⟨dS_copy_12, rfl⟩ fgS_20 rfl (by decide) (rfl) ?_
  refine go_aload_n (pc' := 16) h ⟨dS_copy_15, rfl⟩ rfl ?_
  refine gs_get (v := .ref 55) (pc' := 19) h ⟨dS_copy_16, rfl⟩ fgS_20 rfl (by decide) (rfl) ?_
  refine gd_callVV (E := rcopy (rcopy S 31 53) 33 55) (pc' := 22) (As := [.ref 55]) (st := []) h hF ⟨dS_copy_19, rfl⟩ kvS_35 (cR_copy X rfl rfl (by decide) ((hW.copy rfl rfl) 55 rfl)) (by omega) rfl (by decide) ⟨_, _, rfl⟩ rfl (Nat.le_of_ble_eq_true rfl) rfl ?_
  refine go_aload_n (pc' := 23) h ⟨dS_copy_22, rfl⟩ rfl ?_
  refine gs_get (v := .ref 35) (pc' := 26) h ⟨dS_copy_23, rfl⟩ fgS_23 rfl (by decide) (rfl) ?_
  refine go_aload_n (pc' := 27) h ⟨dS_copy_26, rfl⟩ rfl ?_
  refine gs_get (v := .ref 57) (pc' := 30) h ⟨dS_copy_27, rfl⟩ fgS_23 rfl (by decide) (rfl) ?_
  refine gd_callVV (E := rcopy (rcopy (rcopy S 31 53) 33 55) 35 57) (pc' := 33) (As := [.ref 57]) (st := []) h hF ⟨dS_copy_30, rfl⟩ kvS_35 (cR_copy X rfl rfl (by decide) (((hW.copy rfl rfl).copy rfl rfl) 57 rfl)) (by omega) rfl (by decide) ⟨_, _, rfl⟩ rfl (Nat.le_of_ble_eq_true rfl) rfl ?_
  refine go_aload_n (pc' := 34) h ⟨dS_copy_33, rfl⟩ rfl ?_
  refine gs_get (v := .ref 37) (pc' := 37) h ⟨dS_copy_34, rfl⟩ fgS_26 rfl (by decide) (rfl) ?_
  refine go_aload_n (pc' := 38) h ⟨dS_copy_37, rfl⟩ rfl ?_
  refine gs_get (v := .ref 59) (pc' := 41) h ⟨dS_copy_38, rfl⟩ fgS_26 rfl (by decide) (rfl) ?_
  refine gd_callVV (E := rcopy (rcopy (rcopy (rcopy S 31 53) 33 55) 35 57) 37 59) (pc' := 44) (As := [.ref 59]) (st := []) h hF ⟨dS_copy_41, rfl⟩ kvS_35 (cR_copy X rfl rfl (by decide) ((((hW.copy rfl rfl).copy rfl rfl).copy rfl rfl) 59 rfl)) (by omega) rfl (by decide) ⟨_, _, rfl⟩ rfl (Nat.le_of_ble_eq_true rfl) rfl ?_
  refine go_aload_n (pc' := 45) h ⟨dS_copy_44, rfl⟩ rfl ?_
  refine gs_get (v := .ref 39) (pc' := 48) h ⟨dS_copy_45, rfl⟩ fgS_29 rfl (by decide) (rfl) ?_
  refine go_aload_n (pc' := 49) h ⟨dS_copy_48, rfl⟩ rfl ?_
  refine gs_get (v := .ref 61) (pc' := 52) h ⟨dS_copy_49, rfl⟩ fgS_29 rfl (by decide) (rfl) ?_
  refine gd_callVV (E := rcopy (rcopy (rcopy (rcopy (rcopy S 31 53) 33 55) 35 57) 37 59) 39 61) (pc' := 55) (As := [.ref 61]) (st := []) h hF ⟨dS_copy_52, rfl⟩ kvS_35 (cR_copy X rfl rfl (by decide) (((((hW.copy rfl rfl).copy rfl rfl).copy rfl rfl).copy rfl rfl) 61 rfl)) (by omega) rfl (by decide) ⟨_, _, rfl⟩ rfl (Nat.le_of_ble_eq_true rfl) rfl ?_
  exact gs_vret h hE dS_copy_55 (rfl)
