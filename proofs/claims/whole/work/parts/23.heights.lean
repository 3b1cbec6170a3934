theorem isT_eq {x n : Int} : (if 0 ≤ x ∧ x ≤ n - 1 then (1 : Int) else 0) = (if 0 ≤ x ∧ x < n then 1 else 0) := by
  by_cases h9 : 0 ≤ x ∧ x < n
  · rw [if_pos h9, if_pos (by omega)]
  · rw [if_neg h9, if_neg (by omega)]
/-! the reference's heights -/
def mkZ (S : Sg) (l : Int) : Int := sumI (S.1 91) l
def tpZ (S : Sg) : Int := mkZ S (S.1 90 0)
def ZS (S : Sg) : Prop := (0 ≤ S.1 90 0 ∧ S.1 90 0 ≤ 5) ∧ (∀ k : Int, 0 ≤ k → k < S.1 90 0 → (1 ≤ S.1 91 k ∧ S.1 91 k ≤ 20) ∧ (1 ≤ S.1 92 k ∧ S.1 92 k ≤ 20) ∧ (-3 ≤ S.1 93 k ∧ S.1 93 k ≤ 3))
theorem mkZ_bd {S : Sg} (h : ZS S) {l : Int} (hl : 0 ≤ l ∧ l ≤ S.1 90 0) : l ≤ mkZ S l ∧ mkZ S l ≤ 20 * l := by
  have h1 : ∀ n : Nat, (n : Int) ≤ S.1 90 0 → (n : Int) ≤ mkZ S n ∧ mkZ S n ≤ 20 * n := by
    intro n
    induction n with
    | zero => intro _; unfold mkZ; rw [show ((0 : Nat) : Int) = 0 from rfl, sumI_0]; omega
    | succ n ih =>
      intro hn
      have h2 := ih (by omega)
      have h3 := (h.2 (n : Int) (by omega) (by omega)).1
      unfold mkZ at h2 ⊢
      rw [show ((n + 1 : Nat) : Int) = (n : Int) + 1 from rfl, sumI_s _ (by omega)]
      omega
  have h2 := h1 l.toNat (by omega)
  rw [Int.toNat_of_nonneg hl.1] at h2
  exact h2
theorem tpZ_bd {S : Sg} (h : ZS S) : 0 ≤ tpZ S ∧ tpZ S ≤ 100 := by
  have h0 := h.1
  have := mkZ_bd h (l := S.1 90 0) (by omega)
  unfold tpZ
  omega
def hzF (L : Int → Int) : Nat → Int → Int → Int × Int
  | 0, k, r => (k, r)
  | n + 1, k, r => if L k ≤ r then hzF L n (k + 1) (r - L k) else (k, r)
def htZ (S : Sg) (m : Int) : Int := max 1 (S.1 92 (hzF (S.1 91) 6 0 m).1 + (hzF (S.1 91) 6 0 m).2 * S.1 93 (hzF (S.1 91) 6 0 m).1)
theorem hzF_in {S : Sg} (h : ZS S) {m : Int} (hm : m < tpZ S) : ∀ (n : Nat) (k r : Int), 5 < k + n → 0 ≤ k → k ≤ S.1 90 0 → 0 ≤ r → mkZ S k + r = m → (0 ≤ (hzF (S.1 91) n k r).1 ∧ (hzF (S.1 91) n k r).1 < S.1 90 0) ∧ (0 ≤ (hzF (S.1 91) n k r).2 ∧ (hzF (S.1 91) n k r).2 < S.1 91 (hzF (S.1 91) n k r).1) ∧ mkZ S (hzF (S.1 91) n k r).1 + (hzF (S.1 91) n k r).2 = m
  | 0, k, r, h1, h2, h3, h4, h5 => by have := h.1; omega
  | n + 1, k, r, h1, h2, h3, h4, h5 => by
    have hk : k < S.1 90 0 := by
      by_cases hk : k = S.1 90 0
      · rw [hk] at h5; unfold tpZ at hm; omega
      · omega
    rw [hzF]
    split
    · refine hzF_in h hm n (k + 1) (r - S.1 91 k) (by omega) (by omega) (by omega) (by omega) ?_
      unfold mkZ at h5 ⊢
      rw [sumI_s _ h2]
      omega
    · exact ⟨⟨h2, hk⟩, ⟨h4, by show r < S.1 91 k; omega⟩, h5⟩
theorem htZ_in {S : Sg} (h : ZS S) {m : Int} (hm : 0 ≤ m ∧ m < tpZ S) : (0 ≤ (hzF (S.1 91) 6 0 m).1 ∧ (hzF (S.1 91) 6 0 m).1 < S.1 90 0) ∧ (0 ≤ (hzF (S.1 91) 6 0 m).2 ∧ (hzF (S.1 91) 6 0 m).2 < S.1 91 (hzF (S.1 91) 6 0 m).1) ∧ mkZ S (hzF (S.1 91) 6 0 m).1 + (hzF (S.1 91) 6 0 m).2 = m :=
  hzF_in h hm.2 6 0 m (by omega) (by omega) h.1.1 hm.1 (by unfold mkZ; rw [sumI_0]; omega)
theorem htZ_bd {S : Sg} (h : ZS S) {m : Int} (hm : 0 ≤ m ∧ m < tpZ S) : 1 ≤ htZ S m ∧ htZ S m ≤ 80 := by
  have h1 := htZ_in h hm
  have h2 := h.2 _ h1.1.1 h1.1.2
  have h3 := mul_bd (j := (hzF (S.1 91) 6 0 m).2) (b := S.1 93 (hzF (S.1 91) 6 0 m).1) (by omega) (by omega)
  unfold htZ
  omega
set_option maxRecDepth 4000 in
theorem cZ_markOf (X : XT) {S : Sg} {x : Int} (hx : -100 ≤ x ∧ x ≤ 10) : Ctr X 0 yZ_markOf bZ_markOf 4 (some .int) [.ref 88, .int (iI (x))] (mk S) (PI (fun r S' => r = mkZ S x ∧ S' = S)) 0 0 := by
  refine Ctr.ofS (by decide) rfl (Nat.le_of_ble_eq_true rfl) (fun F h hF hE => ?_)
  have loop : ∀ (n : Nat) (j : Int), 10 < j + n → 0 ≤ j → j ≤ max x 0 → Go F 4 (mk S) 0 0 4 [.ref 88, .int (iI x), .int (iI (sumI (S.1 91) j)), .int (iI j)] [] := by
    intro n
    induction n with
    | zero => intro j g4 g5 g6; exfalso; omega
    | succ n ih =>
      intro j g4 g5 g6
      refine go_iload_n (pc' := 5) h ⟨dZ_markOf_4, rfl⟩ rfl ?_
      refine go_iload_n (pc' := 6) h ⟨dZ_markOf_5, rfl⟩ rfl ?_
      refine gi_icmp_ge (tgt := 24) (pc' := 9) h dZ_markOf_6 rfl rfl (by omega) (fun c6 => ?_) (fun c6 => ?_)
      · refine go_iload_n (pc' := 25) h ⟨dZ_markOf_24, rfl⟩ rfl ?_
        exact gs_iret h hE dZ_markOf_25 (⟨by unfold mkZ sumI; rw [show x.toNat = j.toNat by omega], rfl⟩)
      · refine go_iload_n (pc' := 10) h ⟨dZ_markOf_9, rfl⟩ rfl ?_
        refine go_aload_n (pc' := 11) h ⟨dZ_markOf_10, rfl⟩ rfl ?_
        refine gs_get (v := .ref 91) (pc' := 14) h ⟨dZ_markOf_11, rfl⟩ fgZ_16 rfl (by decide) (rfl) ?_
        refine go_iload_n (pc' := 15) h ⟨dZ_markOf_14, rfl⟩ rfl ?_
        refine gs_iald (pc' := 16) h ⟨dZ_markOf_15, rfl⟩ rfl (by have hln : (ln 91 : Int) = 10 := rfl; omega) ?_
        refine gi_iadd (pc' := 17) h ⟨dZ_markOf_16, rfl⟩ ?_
        refine go_istore_n (L' := [.ref 88, .int (iI (x)), .int (iI ((sumI (S.1 91) j) + (S.1 91 j))), .int (iI (j))]) (pc' := 18) h ⟨dZ_markOf_17, rfl⟩ (by decide) rfl rfl ?_
        refine gi_iinc (L' := [.ref 88, .int (iI (x)), .int (iI ((sumI (S.1 91) j) + (S.1 91 j))), .int (iI (j + 1))]) (pc' := 21) h ⟨dZ_markOf_18, rfl⟩ rfl (by decide) rfl rfl ?_
        refine gi_goto (tgt := 4) h dZ_markOf_21 rfl ?_
        have g7 := ih (j + 1) (by omega) (by omega) (by omega)
        rw [sumI_s _ g5] at g7
        exact g7
  refine gi_iconst (pc' := 1) h ⟨dZ_markOf_0, rfl⟩ ?_
  refine go_istore_n (L' := [.ref 88, .int (iI (x)), .int (iI (0))]) (pc' := 2) h ⟨dZ_markOf_1, rfl⟩ (by decide) rfl rfl ?_
  refine gi_iconst (pc' := 3) h ⟨dZ_markOf_2, rfl⟩ ?_
  refine go_istore_n (L' := [.ref 88, .int (iI (x)), .int (iI (0)), .int (iI (0))]) (pc' := 4) h ⟨dZ_markOf_3, rfl⟩ (by decide) rfl rfl ?_
  exact loop 11 0 (by omega) (by omega) (by omega)
set_option maxRecDepth 4000 in
theorem cZ_top (X : XT) {S : Sg} (hz : 0 ≤ S.1 90 0 ∧ S.1 90 0 ≤ 5) : Ctr X 1 yZ_top bZ_top 1 (some .int) [.ref 88] (mk S) (PI (fun r S' => r = tpZ S ∧ S' = S)) 0 0 := by
  refine Ctr.ofS (by decide) rfl (Nat.le_of_ble_eq_true rfl) (fun F h hF hE => ?_)
  refine go_aload_n (pc' := 1) h ⟨dZ_top_0, rfl⟩ rfl ?_
  refine go_aload_n (pc' := 2) h ⟨dZ_top_1, rfl⟩ rfl ?_
  refine gs_get (v := .ref 90) (pc' := 5) h ⟨dZ_top_2, rfl⟩ fgZ_13 rfl (by decide) (rfl) ?_
  refine gi_iconst (pc' := 6) h ⟨dZ_top_5, rfl⟩ ?_
  refine gs_iald (pc' := 7) h ⟨dZ_top_6, rfl⟩ rfl (by have hln : (ln 90 : Int) = 8 := rfl; omega) ?_
  refine gd_callVI (e := mkZ S (S.1 90 0)) (E := S) (pc' := 10) (As := [.int (iI (S.1 90 0))]) (st := []) h hF ⟨dZ_top_7, rfl⟩ kvZ_136 (cZ_markOf X (by omega)) (by omega) rfl (by decide) ⟨_, _, rfl⟩ rfl (Nat.le_of_ble_eq_true rfl) rfl ?_
  exact gs_iret h hE dZ_top_10 (⟨rfl, rfl⟩)
set_option maxRecDepth 4000 in
theorem cZ_heightAt (X : XT) {S : Sg} {x : Int} (hz : ZS S) (hx : 0 ≤ x ∧ x < tpZ S) : Ctr X 0 yZ_heightAt bZ_heightAt 5 (some .int) [.ref 88, .int (iI (x))] (mk S) (PI (fun r S' => r = htZ S x ∧ S' = S)) 0 0 := by
  refine Ctr.ofS (by decide) rfl (Nat.le_of_ble_eq_true rfl) (fun F h hF hE => ?_)
  have hb := tpZ_bd hz
  have loop : ∀ (n : Nat) (k r : Int), 5 < k + n → 0 ≤ k → k ≤ S.1 90 0 → 0 ≤ r → mkZ S k + r = x → hzF (S.1 91) 6 0 x = hzF (S.1 91) n k r → Go F 5 (mk S) 0 0 4 [.ref 88, .int (iI x), .int (iI k), .int (iI r)] [] := by
    intro n
    induction n with
    | zero => intro k r h1 h2 h3 h4 h5; have := hz.1; exfalso; omega
    | succ n ih =>
      intro k r h1 h2 h3 h4 h5 h6
      have hk : k < S.1 90 0 := by
        by_cases hk : k = S.1 90 0
        · rw [hk] at h5; unfold tpZ at hx; omega
        · omega
      have hz1 := hz.1
      have hz2 := hz.2 k h2 hk
      have hz3 := mkZ_bd hz (l := k) (by omega)
      refine go_iload_n (pc' := 5) h ⟨dZ_heightAt_4, rfl⟩ rfl ?_
      refine go_aload_n (pc' := 6) h ⟨dZ_heightAt_5, rfl⟩ rfl ?_
      refine gs_get (v := .ref 91) (pc' := 9) h ⟨dZ_heightAt_6, rfl⟩ fgZ_16 rfl (by decide) (rfl) ?_
      refine go_iload_n (pc' := 10) h ⟨dZ_heightAt_9, rfl⟩ rfl ?_
      refine gs_iald (pc' := 11) h ⟨dZ_heightAt_10, rfl⟩ rfl (by have hln : (ln 91 : Int) = 10 := rfl; omega) ?_
      refine gi_icmp_lt (tgt := 29) (pc' := 14) h dZ_heightAt_11 rfl rfl (by omega) (fun c11 => ?_) (fun c11 => ?_)
      · have hz4 := mul_bd (j := r) (b := S.1 93 k) (by omega) (by omega)
        have e_h : hzF (S.1 91) 6 0 x = (k, r) := by rw [h6, hzF, if_neg (by omega)]
        refine go_aload_n (pc' := 30) h ⟨dZ_heightAt_29, rfl⟩ rfl ?_
        refine gs_get (v := .ref 92) (pc' := 33) h ⟨dZ_heightAt_30, rfl⟩ fgZ_19 rfl (by decide) (rfl) ?_
        refine go_iload_n (pc' := 34) h ⟨dZ_heightAt_33, rfl⟩ rfl ?_
        refine gs_iald (pc' := 35) h ⟨dZ_heightAt_34, rfl⟩ rfl (by have hln : (ln 92 : Int) = 10 := rfl; omega) ?_
        refine go_iload_n (pc' := 36) h ⟨dZ_heightAt_35, rfl⟩ rfl ?_
        refine go_aload_n (pc' := 37) h ⟨dZ_heightAt_36, rfl⟩ rfl ?_
        refine gs_get (v := .ref 93) (pc' := 40) h ⟨dZ_heightAt_37, rfl⟩ fgZ_22 rfl (by decide) (rfl) ?_
        refine go_iload_n (pc' := 41) h ⟨dZ_heightAt_40, rfl⟩ rfl ?_
        refine gs_iald (pc' := 42) h ⟨dZ_heightAt_41, rfl⟩ rfl (by have hln : (ln 93 : Int) = 10 := rfl; omega) ?_
        refine gi_imul (pc' := 43) h ⟨dZ_heightAt_42, rfl⟩ ?_
        refine gi_iadd (pc' := 44) h ⟨dZ_heightAt_43, rfl⟩ ?_
        refine go_istore (L' := [.ref 88, .int (iI (x)), .int (iI (k)), .int (iI (r)), .int (iI ((S.1 92 k) + (r * (S.1 93 k))))]) (pc' := 46) h ⟨dZ_heightAt_44, rfl⟩ (by decide) rfl rfl ?_
        refine go_iload (pc' := 48) h ⟨dZ_heightAt_46, rfl⟩ rfl ?_
        refine gi_iconst (pc' := 49) h ⟨dZ_heightAt_48, rfl⟩ ?_
        refine gi_icmp_ge (tgt := 56) (pc' := 52) h dZ_heightAt_49 rfl rfl (by omega) (fun c49 => ?_) (fun c49 => ?_)
        · refine go_iload (pc' := 58) h ⟨dZ_heightAt_56, rfl⟩ rfl ?_
          exact gs_iret h hE dZ_heightAt_58 (⟨by unfold htZ; rw [e_h]; show _ = max 1 (S.1 92 k + r * S.1 93 k); omega, rfl⟩)
        · refine gi_iconst (pc' := 53) h ⟨dZ_heightAt_52, rfl⟩ ?_
          refine gi_goto (tgt := 58) h dZ_heightAt_53 rfl ?_
          exact gs_iret h hE dZ_heightAt_58 (⟨by unfold htZ; rw [e_h]; show _ = max 1 (S.1 92 k + r * S.1 93 k); omega, rfl⟩)
      · refine go_iload_n (pc' := 15) h ⟨dZ_heightAt_14, rfl⟩ rfl ?_
        refine go_aload_n (pc' := 16) h ⟨dZ_heightAt_15, rfl⟩ rfl ?_
        refine gs_get (v := .ref 91) (pc' := 19) h ⟨dZ_heightAt_16, rfl⟩ fgZ_16 rfl (by decide) (rfl) ?_
        refine go_iload_n (pc' := 20) h ⟨dZ_heightAt_19, rfl⟩ rfl ?_
        refine gs_iald (pc' := 21) h ⟨dZ_heightAt_20, rfl⟩ rfl (by have hln : (ln 91 : Int) = 10 := rfl; omega) ?_
        refine gi_isub (pc' := 22) h ⟨dZ_heightAt_21, rfl⟩ ?_
        refine go_istore_n (L' := [.ref 88, .int (iI (x)), .int (iI (k)), .int (iI (r - (S.1 91 k)))]) (pc' := 23) h ⟨dZ_heightAt_22, rfl⟩ (by decide) rfl rfl ?_
        refine gi_iinc (L' := [.ref 88, .int (iI (x)), .int (iI (k + 1)), .int (iI (r - (S.1 91 k)))]) (pc' := 26) h ⟨dZ_heightAt_23, rfl⟩ rfl (by decide) rfl rfl ?_
        refine gi_goto (tgt := 4) h dZ_heightAt_26 rfl ?_
        exact ih (k + 1) (r - S.1 91 k) (by omega) (by omega) (by omega) (by omega) (by unfold mkZ at h5 ⊢; rw [sumI_s _ h2]; omega) (by rw [h6, hzF, if_pos (by omega)])
  refine gi_iconst (pc' := 1) h ⟨dZ_heightAt_0, rfl⟩ ?_
  refine go_istore_n (L' := [.ref 88, .int (iI (x)), .int (iI (0))]) (pc' := 2) h ⟨dZ_heightAt_1, rfl⟩ (by decide) rfl rfl ?_
  refine go_iload_n (pc' := 3) h ⟨dZ_heightAt_2, rfl⟩ rfl ?_
  refine go_istore_n (L' := [.ref 88, .int (iI (x)), .int (iI (0)), .int (iI (x))]) (pc' := 4) h ⟨dZ_heightAt_3, rfl⟩ (by decide) rfl rfl ?_
  exact loop 6 0 x (by omega) (by omega) hz.1.1 hx.1 (by unfold mkZ; rw [sumI_0]; omega) rfl
set_option maxRecDepth 4000 in
theorem cZ_isStretch (X : XT) {S : Sg} {x : Int} (hz : 0 ≤ S.1 90 0 ∧ S.1 90 0 ≤ 5) (hx : -2147483648 ≤ x ∧ x ≤ 2147483647) : Ctr X 1 yZ_isStretch bZ_isStretch 2 (some .boolean) [.ref 88, .int (iI (x))] (mk S) (PI (fun r S' => r = (if 0 ≤ x ∧ x < S.1 90 0 then 1 else 0) ∧ S' = S)) 0 0 := by
  refine Ctr.ofS (by decide) rfl (Nat.le_of_ble_eq_true rfl) (fun F h hF hE => ?_)
  refine go_iload_n (pc' := 1) h ⟨dZ_isStretch_0, rfl⟩ rfl ?_
  refine gi_iconst (pc' := 2) h ⟨dZ_isStretch_1, rfl⟩ ?_
  refine go_aload_n (pc' := 3) h ⟨dZ_isStretch_2, rfl⟩ rfl ?_
  refine gs_get (v := .ref 90) (pc' := 6) h ⟨dZ_isStretch_3, rfl⟩ fgZ_13 rfl (by decide) (rfl) ?_
  refine gi_iconst (pc' := 7) h ⟨dZ_isStretch_6, rfl⟩ ?_
  refine gs_iald (pc' := 8) h ⟨dZ_isStretch_7, rfl⟩ rfl (by have hln : (ln 90 : Int) = 8 := rfl; omega) ?_
  refine gi_iconst (pc' := 9) h ⟨dZ_isStretch_8, rfl⟩ ?_
  refine gi_isub (pc' := 10) h ⟨dZ_isStretch_9, rfl⟩ ?_
  refine gd_callSI (e := if 0 ≤ x ∧ x ≤ (S.1 90 0) - 1 then 1 else 0) (E := S) (pc' := 13) (As := [.int (iI (x)), .int (iI (0)), .int (iI ((S.1 90 0) - 1))]) (st := []) h hF ⟨dZ_isStretch_10, rfl⟩ kvZ_72 (cZ_in X (by omega)) (by omega) rfl (Nat.le_of_ble_eq_true rfl) rfl ?_
  exact gs_zret h hE dZ_isStretch_13 (by split <;> omega) (⟨isT_eq, rfl⟩)
set_option maxRecDepth 4000 in
theorem cZ_isTraveller (X : XT) {S : Sg} {x : Int} (hz : 0 ≤ S.1 90 1 ∧ S.1 90 1 ≤ 5) (hx : -2147483648 ≤ x ∧ x ≤ 2147483647) : Ctr X 1 yZ_isTraveller bZ_isTraveller 2 (some .boolean) [.ref 88, .int (iI (x))] (mk S) (PI (fun r S' => r = (if 0 ≤ x ∧ x < S.1 90 1 then 1 else 0) ∧ S' = S)) 0 0 := by
  refine Ctr.ofS (by decide) rfl (Nat.le_of_ble_eq_true rfl) (fun F h hF hE => ?_)
  refine go_iload_n (pc' := 1) h ⟨dZ_isTraveller_0, rfl⟩ rfl ?_
  refine gi_iconst (pc' := 2) h ⟨dZ_isTraveller_1, rfl⟩ ?_
  refine go_aload_n (pc' := 3) h ⟨dZ_isTraveller_2, rfl⟩ rfl ?_
  refine gs_get (v := .ref 90) (pc' := 6) h ⟨dZ_isTraveller_3, rfl⟩ fgZ_13 rfl (by decide) (rfl) ?_
  refine gi_iconst (pc' := 7) h ⟨dZ_isTraveller_6, rfl⟩ ?_
  refine gs_iald (pc' := 8) h ⟨dZ_isTraveller_7, rfl⟩ rfl (by have hln : (ln 90 : Int) = 8 := rfl; omega) ?_
  refine gi_iconst (pc' := 9) h ⟨dZ_isTraveller_8, rfl⟩ ?_
  refine gi_isub (pc' := 10) h ⟨dZ_isTraveller_9, rfl⟩ ?_
  refine gd_callSI (e := if 0 ≤ x ∧ x ≤ (S.1 90 1) - 1 then 1 else 0) (E := S) (pc' := 13) (As := [.int (iI (x)), .int (iI (0)), .int (iI ((S.1 90 1) - 1))]) (st := []) h hF ⟨dZ_isTraveller_10, rfl⟩ kvZ_72 (cZ_in X (by omega)) (by omega) rfl (Nat.le_of_ble_eq_true rfl) rfl ?_
  exact gs_zret h hE dZ_isTraveller_13 (by split <;> omega) (⟨isT_eq, rfl⟩)
