theorem isT_eq {x n : Int} : (if 0 ≤ x ∧ x ≤ n - 1 then (1 : Int) else 0) = (if 0 ≤ x ∧ x < n then 1 else 0) := by
  by_cases h9 : 0 ≤ x ∧ x < n
  · rw [if_pos h9, if_pos (by omega)]
  · rw [if_neg h9, if_neg (by omega)]
/-! the reference's heights -/
def mkZ (S : Sg) (l : Int) : Int := sumI (S.1 91) l
def tpZ (S : Sg) : Int := mkZ S (S.1 90 0)
def ZS (S : Sg) : Prop := (0 ≤ S.1 90 0 ∧ S.1 90 0 ≤ 5) ∧ (∀ k : Int, 0 ≤ k → k < S.1 90 0 → (1 ≤ S.1 91 k ∧ S.1 91 k ≤ 20) ∧ (1 ≤ S.1 92 k ∧ S.1 92 k ≤ 20) ∧ (-3 ≤ S.1 93 k ∧ S.1 93 k ≤ 3))
theorem mkZ_bd {S : Sg} (h : ZS S) {l : Int} (hl : 0 ≤ l ∧ l ≤ S.1 90 0) : l ≤ mkZ S l ∧ mkZ S l ≤ 20 * l := by
  have h1 : ∀ n : Nat, (n : Int) ≤ S.1 90 0 → (n : Int) ≤ mkZ S n ∧ mkZ S n ≤ 20 * n := by
    intro n
    induction n with
    | zero => intro _; unfold mkZ; rw [show ((0 : Nat) : Int) = 0 from rfl, sumI_0]; omega
    | succ n ih =>
      intro hn
      have h2 := ih (by omega)
      have h3 := (h.2 (n : Int) (by omega) (by omega)).1
      unfold mkZ at h2 ⊢
      rw [show ((n + 1 : Nat) : Int) = (n : Int) + 1 from rfl, sumI_s _ (by omega)]
      omega
  have h2 := h1 l.toNat (by omega)
  rw [Int.toNat_of_nonneg hl.1] at h2
  exact h2
theorem tpZ_bd {S : Sg} (h : ZS S) : 0 ≤ tpZ S ∧ tpZ S ≤ 100 := by
  have h0 := h.1
  have := mkZ_bd h (l := S.1 90 0) (by omega)
  unfold tpZ
  omega
def hzF (L : Int → Int) : Nat → Int → Int → Int × Int
  | 0, k, r => (k, r)
  | n + 1, k, r => if L k ≤ r then hzF L n (k + 1) (r - L k) else (k, r)
def htZ (S : Sg) (m : Int) : Int := max 1 (S.1 92 (hzF (S.1 91) 6 0 m).1 + (hzF (S.1 91) 6 0 m).2 * S.1 93 (hzF (S.1 91) 6 0 m).1)
theorem hzF_in {S : Sg} (h : ZS S) {m : Int} (hm : m < tpZ S) : ∀ (n : Nat) (k r : Int), 5 < k + n → 0 ≤ k → k ≤ S.1 90 0 → 0 ≤ r → mkZ S k + r = m → (0 ≤ (hzF (S.1 91) n k r).1 ∧ (hzF (S.1 91) n k r).1 < S.1 90 0) ∧ (0 ≤ (hzF (S.1 91) n k r).2 ∧ (hzF (S.1 91) n k r).2 < S.1 91 (hzF (S.1 91) n k r).1) ∧ mkZ S (hzF (S.1 91) n k r).1 + (hzF (S.1 91) n k r).2 = m
  | 0, k, r, h1, h2, h3, h4, h5 => by have := h.1; omega
  | n + 1, k, r, h1, h2, h3, h4, h5 => by
    have hk : k < S.1 90 0 := by
      by_cases hk : k = S.1 90 0
      · rw [hk] at h5; unfold tpZ at hm; omega
      · omega
    rw [hzF]
    split
    · refine hzF_in h hm n (k + 1) (r - S.1 91 k) (by omega) (by omega) (by omega) (by omega) ?_
      unfold mkZ at h5 ⊢
      rw [sumI_s _ h2]
      omega
    · exact ⟨⟨h2, hk⟩, ⟨h4, by show r < S.1 91 k; omega⟩, h5⟩
theorem htZ_in {S : Sg} (h : ZS S) {m : Int} (hm : 0 ≤ m ∧ m < tpZ S) : (0 ≤ (hzF (S.1 91) 6 0 m).1 ∧ (hzF (S.1 91) 6 0 m).1 < S.1 90 0) ∧ (0 ≤ (hzF (S.1 91) 6 0 m).2 ∧ (hzF (S.1 91) 6 0 m).2 < S.1 91 (hzF (S.1 91) 6 0 m).1) ∧ mkZ S (hzF (S.1 91) 6 0 m).1 + (hzF (S.1 91) 6 0 m).2 = m :=
  hzF_in h hm.2 6 0 m (by omega) (by omega) h.1.1 hm.1 (by unfold mkZ; rw [sumI_0]; omega)
theorem htZ_bd {S : Sg} (h : ZS S) {m : Int} (hm : 0 ≤ m ∧ m < tpZ S) : 1 ≤ htZ S m ∧ htZ S m ≤ 80 := by
  have h1 := htZ_in h hm
  have h2 := h.2 _ h1.1.1 h1.1.2
  have h3 := mul_bd (j := (hzF (S.1 91) 6 0 m).2) (b := S.1 93 (hzF (S.1 91) 6 0 m).1) (by omega) (by omega)
  unfold htZ
  omega
set_option maxRecDepth 4000 in
theorem cZ_markOf (X : XT) {S : Sg} {x : Int} (hx : -100 ≤ x ∧ x ≤ 10) : Ctr X 0 yZ_markOf bZ_markOf 4 (some .int) [.ref 88, .int (iI (x))] (mk S) (PI (fun r S' => r = mkZ S x ∧ S' = S)) 0 0 := by
  refine Ctr.ofS (by decide) rfl (Nat.le_of_ble_eq_true rfl) (fun F h hF hE => ?_)
  have loop : ∀ (n : Nat) (j : Int), 10 < j + n → 0 ≤ j → j ≤ max x 0 → Go F 4 (mk S) 0 0 4 [.ref 88, .int (iI x), .int (iI (sumI (S.1 91) j)), .int (iI j)] [] := by
    intro n
    induction n with
    | zero => intro j g4 g5 g6; exfalso; omega
    | succ n ih =>
      intro j g4 g5 g6
      refine go_iload_n (pc' := 5) h ⟨dZ_markOf_4, rfl⟩ rfl ?_
      refine go_iload_n (pc' := 6) h ⟨dZ_markOf_5, rfl⟩ rfl ?_
      refine gi_icmp_ge (tgt := 24) (pc' := 9) h dZ_markOf_6 rfl rfl (by omega) (fun c6 => ?_) (fun c6 => ?_)
      · refine go_iload_n (pc' := 25) h ⟨dZ_markOf_24, rfl⟩ rfl ?_
        exact gs_iret h hE dZ_markOf_25 (⟨by unfold mkZ sumI; rw [show x.toNat = j.toNat by omega], rfl⟩)
      · refine go_iload_n (pc' := 10) h ⟨dZ_markOf_9, rfl⟩ rfl ?_
        refine go_aload_n (pc' := 11) h ⟨dZ_markOf_10, rfl⟩ rfl ?_
        refine gs_get (v := .ref 91) (pc' := 14) h ⟨dZ_markOf_11, rfl⟩ fgZ_16 rfl (by decide) (rfl) ?_
        refine go_iload_n (pc' := 15) h ⟨dZ_markOf_14, rfl⟩ rfl ?_
        refine gs_iald (pc' := 16) h ⟨dZ_markOf_15, rfl⟩ rfl (by have hln : (ln 91 : Int) = 10 := rfl; omega) ?_
        refine gi_iadd (pc' := 17) h ⟨dZ_markOf_16, rfl⟩ ?_
        refine go_istore_n (L' := [.ref 88, .int (iI (x)), .int (iI ((sumI (S.1 91) j) + (S.1 91 j))), .int (iI (j))]) (pc' := 18) h ⟨dZ_markOf_17, rfl⟩ (by decide) rfl rfl ?_
        refine gi_iinc (L' := [.ref 88, .int (iI (x)), .int (iI ((sumI (S.1 91) j) + (S.1 91 j))), .int (iI (j + 1))]) (pc' := 21) h ⟨dZ_markOf_18, rfl⟩ rfl (by decide) rfl rfl ?_
        refine gi_goto (tgt := 4) h dZ_markOf_21 rfl ?_
        have g7 := ih (j + 1) (by omega) (by omega) (by omega)
        rw [sumI_s _ g5] at g7
        exact g7
  refine gi_iconst (pc' := 1) h ⟨dZ_markOf_0, rfl⟩ ?_
  refine go_istore_n (L' := [.ref 88, .int (iI (x)), .int (iI (0))]) (pc' := 2) h ⟨dZ_markOf_1, rfl⟩ (by decide) rfl rfl ?_
  refine gi_iconst (pc' := 3) h ⟨dZ_markOf_2, rfl⟩ ?_
  refine go_istore_n (L' := [.ref 88, .int (iI (x)), .int (iI (0)), .int (iI (0))]) (pc' := 4) h ⟨dZ_markOf_3, rfl⟩ (by decide) rfl rfl ?_
  exact loop 11 0 (by omega) (by omega) (by omega)
set_option maxRecDepth 4000 in
theorem cZ_top (X : XT) {S : Sg} (hz : 0 ≤ S.1 90 0 ∧ S.1 90 0 ≤ 5) : Ctr X 1 yZ_top bZ_top 1 (some .int) [.ref 88] (mk S) (PI (fun r S' => r = tpZ S ∧ S' = S)) 0 0 := by
  refine Ctr.ofS (by decide) rfl (Nat.le_of_ble_eq_true rfl) (fun F h hF hE => ?_)
  refine go_aload_n (pc' := 1) h ⟨dZ_top_0, rfl⟩ rfl ?_
  refine go_aload_n (pc' := 2) h ⟨dZ_top_1, rfl⟩ rfl ?_
  refine gs_get (v := .ref 90) (pc' := 5) h ⟨dZ_top_2, rfl⟩ fgZ_13 rfl (by decide) (rfl) ?_
  refine gi_iconst (pc' := 6) h ⟨dZ_top_5, rfl⟩ ?_
  refine gs_iald (pc' := 7) h ⟨dZ_top_6, rfl⟩ rfl (by have hln : (ln 90 : Int) = 8 := rfl; omega) ?_
  refine gd_callVI (e := mkZ S (S.1 90 0)) (E := S) (pc' := 10) (As := [.int (iI (S.1 90 0))]) (st := []) h hF ⟨dZ_top_7, rfl⟩ kvZ_136 (cZ_markOf X (by omega)) (by omega) rfl (by decide) ⟨_, _, rfl⟩ rfl (Nat.le_of_ble_eq_true rfl) rfl ?_
  exact gs_iret h hE dZ_top_10 (⟨rfl, rfl⟩)
set_option maxRecDepth 4000 in
theorem cZ_heightAt (X : XT) {S : Sg} {x : Int} (hz : ZS S) (hx : 0 ≤ x ∧ x < tpZ S) : Ctr X 0 yZ_heightAt bZ_heightAt 5 (some .int) [.ref 88, .int (iI (x))] (mk S) (PI (fun r S' => r = htZ S x ∧ S' = S)) 0 0 := by
  refine Ctr.ofS (by decide) rfl (Nat.le_of_ble_eq_true rfl) (fun F h hF hE => ?_)
  have hb := tpZ_bd hz
  have loop : ∀ (n : Nat) (k r : Int), 5 < k + n → 0 ≤ k → k ≤ S.1 90 0 → 0 ≤ r → mkZ S k + r = x → hzF (S.1 91) 6 0 x = hzF (S.1 91) n k r → Go F 5 (mk S) 0 0 4 [.ref 88, .int (iI x), .int (iI k), .int (iI r)] [] := by
    intro n
    induction n with
    | zero => intro k r h1 h2 h3 h4 h5; have := hz.1; exfalso; omega
    | succ n ih =>
      intro k r h1 h2 h3 h4 h5 h6
      have hk : k < S.1 90 0 := by
        by_cases hk : k = S.1 90 0
        · rw [hk] at h5; unfold tpZ at hx; omega
        · omega
      have hz1 := hz.1
      have hz2 := hz.2 k h2 hk
      have hz3 := mkZ_bd hz (l := k) (by omega)
      refine go_iload_n (pc' := 5) h ⟨dZ_heightAt_4, rfl⟩ rfl ?_
      refine go_aload_n (pc' := 6) h ⟨dZ_heightAt_5, rfl⟩ rfl ?_
      refine gs_get (v := .ref 91) (pc' := 9) h ⟨dZ_heightAt_6, rfl⟩ fgZ_16 rfl (by decide) (rfl) ?_
      refine go_iload_n (pc' := 10) h ⟨dZ_heightAt_9, rfl⟩ rfl ?_
      refine gs_iald (pc' := 11) h ⟨dZ_heightAt_10, rfl⟩ rfl (by have hln : (ln 91 : Int) = 10 := rfl; omega) ?_
      refine gi_icmp_lt (tgt := 29) (pc' := 14) h dZ_heightAt_11 rfl rfl (by omega) (fun c11 => ?_) (fun c11 => ?_)
      · have hz4 := mul_bd (j := r) (b := S.1 93 k) (by omega) (by omega)
        have e_h : hzF (S.1 91) 6 0 x = (k, r) := by rw [h6, hzF, if_neg (by omega)]
        refine go_aload_n (pc' := 30) h ⟨dZ_heightAt_29, rfl⟩ rfl ?_
        refine gs_get (v := .ref 92) (pc' := 33) h ⟨dZ_heightAt_30, rfl⟩ fgZ_19 rfl (by decide) (rfl) ?_
        refine go_iload_n (pc' := 34) h ⟨dZ_heightAt_33, rfl⟩ rfl ?_
        refine gs_iald (pc' := 35) h ⟨dZ_heightAt_34, rfl⟩ rfl (by have hln : (ln 92 : Int) = 10 := rfl; omega) ?_
        refine go_iload_n (pc' := 36) h ⟨dZ_heightAt_35, rfl⟩ rfl ?_
        refine go_aload_n (pc' := 37) h ⟨dZ_heightAt_36, rfl⟩ rfl ?_
        refine gs_get (v := .ref 93) (pc' := 40) h ⟨dZ_heightAt_37, rfl⟩ fgZ_22 rfl (by decide) (rfl) ?_
        refine go_iload_n (pc' := 41) h ⟨dZ_heightAt_40, rfl⟩ rfl ?_
        refine gs_iald (pc' := 42) h ⟨dZ_heightAt_41, rfl⟩ rfl (by have hln : (ln 93 : Int) = 10 := rfl; omega) ?_
        refine gi_imul (pc' := 43) h ⟨dZ_heightAt_42, rfl⟩ ?_
        refine gi_iadd (pc' := 44) h ⟨dZ_heightAt_43, rfl⟩ ?_
        refine go_istore (L' := [.ref 88, .int (iI (x)), .int (iI (k)), .int (iI (r)), .int (iI ((S.1 92 k) + (r * (S.1 93 k))))]) (pc' := 46) h ⟨dZ_heightAt_44, rfl⟩ (by decide) rfl rfl ?_
        refine go_iload (pc' := 48) h ⟨dZ_heightAt_46, rfl⟩ rfl ?_
        refine gi_iconst (pc' := 49) h ⟨dZ_heightAt_48, rfl⟩ ?_
        refine gi_icmp_ge (tgt := 56) (pc' := 52) h dZ_heightAt_49 rfl rfl (by omega) (fun c49 => ?_) (fun c49 => ?_)
        · refine go_iload (pc' := 58) h ⟨dZ_heightAt_56, rfl⟩ rfl ?_
          exact gs_iret h hE dZ_heightAt_58 (⟨by unfold htZ; rw [e_h]; show _ = max 1 (S.1 92 k + r * S.1 93 k); omega, rfl⟩)
        · refine gi_iconst (pc' := 53) h ⟨dZ_heightAt_52, rfl⟩ ?_
          refine gi_goto (tgt := 58) h dZ_heightAt_53 rfl ?_
          exact gs_iret h hE dZ_heightAt_58 (⟨by unfold htZ; rw [e_h]; show _ = max 1 (S.1 92 k + r * S.1 93 k); omega, rfl⟩)
      · refine go_iload_n (pc' := 15) h ⟨dZ_heightAt_14, rfl⟩ rfl ?_
        refine go_aload_n (pc' := 16) h ⟨dZ_heightAt_15, rfl⟩ rfl ?_
        refine gs_get (v := .ref 91) (pc' := 19) h ⟨dZ_heightAt_16, rfl⟩ fgZ_16 rfl (by decide) (rfl) ?_
        refine go_iload_n (pc' := 20) h ⟨dZ_heightAt_19, rfl⟩ rfl ?_
        refine gs_iald (pc' := 21) h ⟨dZ_heightAt_20, rfl⟩ rfl (by have hln : (ln 91 : Int) = 10 := rfl; omega) ?_
        refine gi_isub (pc' := 22) h ⟨dZ_heightAt_21, rfl⟩ ?_
        refine go_istore_n (L' := [.ref 88, .int (iI (x)), .int (iI (k)), .int (iI (r - (S.1 91 k)))]) (pc' := 23) h ⟨dZ_heightAt_22, rfl⟩ (by decide) rfl rfl ?_
        refine gi_iinc (L' := [.ref 88, .int (iI (x)), .int (iI (k + 1)), .int (iI (r - (S.1 91 k)))]) (pc' := 26) h ⟨dZ_heightAt_23, rfl⟩ rfl (by decide) rfl rfl ?_
        refine gi_goto (tgt := 4) h dZ_heightAt_26 rfl ?_
        exact ih (k + 1) (r - S.1 91 k) (by omega) (by omega) (by omega) (by omega) (by unfold mkZ at h5 ⊢; rw [sumI_s _ h2]; omega) (by rw [h6, hzF, if_pos (by omega)])
  refine gi_iconst (pc' := 1) h ⟨dZ_heightAt_0, rfl⟩ ?_
  refine go_istore_n (L' := [.ref 88, .int (iI (x)), .int (iI (0))]) (pc' := 2) h ⟨dZ_heightAt_1, rfl⟩ (by decide) rfl rfl ?_
  refine go_iload_n (pc' := 3) h ⟨dZ_heightAt_2, rfl⟩ rfl ?_
  refine go_istore_n (L' := [.ref 88, .int (iI (x)), .int (iI (0)), .int (iI (x))]) (pc' := 4) h ⟨dZ_heightAt_3, rfl⟩ (by decide) rfl rfl ?_
  exact loop 6 0 x (by omega) (by omega) hz.1.1 hx.1 (by unfold mkZ; rw [sumI_0]; omega) rfl
set_option maxRecDepth 4000 in
theorem cZ_isStretch (X : XT) {S : Sg} {x : Int} (hz : 0 ≤ S.1 90 0 ∧ S.1 90 0 ≤ 5) (hx : -2147483648 ≤ x ∧ x ≤ 2147483647) : Ctr X 1 yZ_isStretch bZ_isStretch 2 (some .boolean) [.ref 88, .int (iI (x))] (mk S) (PI (fun r S' => r = (if 0 ≤ x ∧ x < S.1 90 0 then 1 else 0) ∧ S' = S)) 0 0 := by
  refine Ctr.ofS (by decide) rfl (Nat.le_of_ble_eq_true rfl) (fun F h hF hE => ?_)
  refine go_iload_n (pc' := 1) h ⟨dZ_isStretch_0, rfl⟩ rfl ?_
  refine gi_iconst (pc' := 2) h ⟨dZ_isStretch_1, rfl⟩ ?_
  refine go_aload_n (pc' := 3) h ⟨dZ_isStretch_2, rfl⟩ rfl ?_
  refine gs_get (v := .ref 90) (pc' := 6) h ⟨dZ_isStretch_3, rfl⟩ fgZ_13 rfl (by decide) (rfl) ?_
  refine gi_iconst (pc' := 7) h ⟨dZ_isStretch_6, rfl⟩ ?_
  refine gs_iald (pc' := 8) h ⟨dZ_isStretch_7, rfl⟩ rfl (by have hln : (ln 90 : Int) = 8 := rfl; omega) ?_
  refine gi_iconst (pc' := 9) h ⟨dZ_isStretch_8, rfl⟩ ?_
  refine gi_isub (pc' := 10) h ⟨dZ_isStretch_9, rfl⟩ ?_
  refine gd_callSI (e := if 0 ≤ x ∧ x ≤ (S.1 90 0) - 1 then 1 else 0) (E := S) (pc' := 13) (As := [.int (iI (x)), .int (iI (0)), .int (iI ((S.1 90 0) - 1))]) (st := []) h hF ⟨dZ_isStretch_10, rfl⟩ kvZ_72 (cZ_in X (by omega)) (by omega) rfl (Nat.le_of_ble_eq_true rfl) rfl ?_
  exact gs_zret h hE dZ_isStretch_13 (by split <;> omega) (⟨isT_eq, rfl⟩)
set_option maxRecDepth 4000 in
theorem cZ_isTraveller (X : XT) {S : Sg} {x : Int} (hz : 0 ≤ S.1 90 1 ∧ S.1 90 1 ≤ 5) (hx : -2147483648 ≤ x ∧ x ≤ 2147483647) : Ctr X 1 yZ_isTraveller bZ_isTraveller 2 (some .boolean) [.ref 88, .int (iI (x))] (mk S) (PI (fun r S' => r = (if 0 ≤ x ∧ x < S.1 90 1 then 1 else 0) ∧ S' = S)) 0 0 := by
  refine Ctr.ofS (by decide) rfl (Nat.le_of_ble_eq_true rfl) (fun F h hF hE => ?_)
  refine go_iload_n (pc' := 1) h ⟨dZ_isTraveller_0, rfl⟩ rfl ?_
  refine gi_iconst (pc' := 2) h ⟨dZ_isTraveller_1, rfl⟩ ?_
  refine go_aload_n (pc' := 3) h ⟨dZ_isTraveller_2, rfl⟩ rfl ?_
  refine gs_get (v := .ref 90) (pc' := 6) h ⟨dZ_isTraveller_3, rfl⟩ fgZ_13 rfl (by decide) (rfl) ?_
  refine gi_iconst (pc' := 7) h ⟨dZ_isTraveller_6, rfl⟩ ?_
  refine gs_iald (pc' := 8) h ⟨dZ_isTraveller_7, rfl⟩ rfl (by have hln : (ln 90 : Int) = 8 := rfl; omega) ?_
  refine gi_iconst (pc' := 9) h ⟨dZ_isTraveller_8, rfl⟩ ?_
  refine gi_isub (pc' := 10) h ⟨dZ_isTraveller_9, rfl⟩ ?_
  refine gd_callSI (e := if 0 ≤ x ∧ x ≤ (S.1 90 1) - 1 then 1 else 0) (E := S) (pc' := 13) (As := [.int (iI (x)), .int (iI (0)), .int (iI ((S.1 90 1) - 1))]) (st := []) h hF ⟨dZ_isTraveller_10, rfl⟩ kvZ_72 (cZ_in X (by omega)) (by omega) rfl (Nat.le_of_ble_eq_true rfl) rfl ?_
  exact gs_zret h hE dZ_isTraveller_13 (by split <;> omega) (⟨isT_eq, rfl⟩)
set_option maxRecDepth 4000 in
theorem cZ_isStaying (X : XT) {S : Sg} {x : Int} (hz : 0 ≤ S.1 95 4 ∧ S.1 95 4 ≤ 15) (hx : 0 ≤ x ∧ x ≤ 3) : Ctr X 0 yZ_isStaying bZ_isStaying 2 (some .boolean) [.ref 88, .int (iI (x))] (mk S) (PI (fun r S' => r = (if bitI (S.1 95 4) x = 1 then 1 else 0) ∧ S' = S)) 0 0 := by
  refine Ctr.ofS (by decide) rfl (Nat.le_of_ble_eq_true rfl) (fun F h hF hE => ?_)
  refine go_aload_n (pc' := 1) h ⟨dZ_isStaying_0, rfl⟩ rfl ?_
  refine gs_get (v := .ref 95) (pc' := 4) h ⟨dZ_isStaying_1, rfl⟩ fgZ_28 rfl (by decide) (rfl) ?_
  refine gi_iconst (pc' := 5) h ⟨dZ_isStaying_4, rfl⟩ ?_
  refine gs_iald (pc' := 6) h ⟨dZ_isStaying_5, rfl⟩ rfl (by have hln : (ln 95 : Int) = 212 := rfl; omega) ?_
  refine go_iload_n (pc' := 7) h ⟨dZ_isStaying_6, rfl⟩ rfl ?_
  refine gi_ishr (c := S.1 95 4 / 2 ^ x.toNat) (pc' := 8) h ⟨dZ_isStaying_7, rfl⟩ (shrI (by omega) (by omega)) ?_
  refine gi_iconst (pc' := 9) h ⟨dZ_isStaying_8, rfl⟩ ?_
  refine gi_iand (c := bitI (S.1 95 4) x) (pc' := 10) h ⟨dZ_isStaying_9, rfl⟩ (bitI_1 (by omega)) ?_
  have b1 := bitI_01 (S.1 95 4) x
  refine gi_iconst (pc' := 11) h ⟨dZ_isStaying_10, rfl⟩ ?_
  refine gi_icmp_ne (tgt := 18) (pc' := 14) h dZ_isStaying_11 rfl rfl (by omega) (fun c11 => ?_) (fun c11 => ?_)
  · refine gi_iconst (pc' := 19) h ⟨dZ_isStaying_18, rfl⟩ ?_
    exact gs_zret h hE dZ_isStaying_19 (by omega) (⟨by rw [if_neg (by omega)], rfl⟩)
  · refine gi_iconst (pc' := 15) h ⟨dZ_isStaying_14, rfl⟩ ?_
    refine gi_goto (tgt := 19) h dZ_isStaying_15 rfl ?_
    exact gs_zret h hE dZ_isStaying_19 (by omega) (⟨by rw [if_pos (by omega)], rfl⟩)
def zStretch (S : Sg) (x y : Int) : Int × Sg := if ¬ (0 ≤ x ∧ x < S.1 90 0) ∨ ¬ (0 ≤ y ∧ y ≤ 3) then (-1000000, S) else if y = 0 then (S.1 91 x, S) else if y = 1 then (S.1 92 x, S) else if y = 2 then (S.1 93 x, S) else (mkZ S (x + 1), S)
set_option maxRecDepth 4000 in
theorem cZ_stretch (X : XT) {S : Sg} (hZ : ZI S) {x : Int} (hx : -2147483648 ≤ x ∧ x ≤ 2147483647) {y : Int} (hy : -2147483648 ≤ y ∧ y ≤ 2147483647) : Ctr X 6 yZ_stretch bZ_stretch 3 (some .int) [.ref 88, .int (iI (x)), .int (iI (y))] (mk S) (PI (fun r S' => r = (zStretch S x y).1 ∧ S' = (zStretch S x y).2)) 0 0 := by
  refine Ctr.ofS (by decide) rfl (Nat.le_of_ble_eq_true rfl) (fun F h hF hE => ?_)
  obtain ⟨z0, zt, ztx, zm0, zm1, zm2, zm3, zst, ztr, zat, zsy, zth, ztg, zwr, zun, zkp, zse, zsk, zme, zmk, zl5, zl6, zl7⟩ := id hZ
  have hZS : ZS S := ⟨zm0, zst⟩
  have htp := tpZ_bd hZS
  refine go_aload_n (pc' := 1) h ⟨dZ_stretch_0, rfl⟩ rfl ?_
  refine gi_iconst (pc' := 2) h ⟨dZ_stretch_1, rfl⟩ ?_
  refine gd_putI (i := 0) (pc' := 5) h ⟨dZ_stretch_2, rfl⟩ fpZ_68 rfl (by decide) rfl rfl ?_
  rw [pt_z z0]
  refine go_aload_n (pc' := 6) h ⟨dZ_stretch_5, rfl⟩ rfl ?_
  refine go_iload_n (pc' := 7) h ⟨dZ_stretch_6, rfl⟩ rfl ?_
  refine gd_callVI (e := if 0 ≤ x ∧ x < S.1 90 0 then 1 else 0) (E := S) (pc' := 10) (As := [.int (iI (x))]) (st := []) h hF ⟨dZ_stretch_7, rfl⟩ kvZ_139 (cZ_isStretch X (by omega) (by omega)) (by omega) rfl (by decide) ⟨_, _, rfl⟩ rfl (Nat.le_of_ble_eq_true rfl) rfl ?_
  refine gi_if_eq (tgt := 22) (pc' := 13) h dZ_stretch_10 rfl rfl (by split <;> omega) (fun c10 => ?_) (fun c10 => ?_)
  · have c10 := b0 c10
    refine gi_ldc (n := -1000000) (pc' := 24) h ⟨dZ_stretch_22, rfl⟩ csZ_142 ?_
    exact gs_iret h hE dZ_stretch_24 (by unfold zStretch; rw [if_pos (by omega)]; exact ⟨rfl, rfl⟩)
  · have c10 := b1 c10
    refine go_iload_n (pc' := 14) h ⟨dZ_stretch_13, rfl⟩ rfl ?_
    refine gi_iconst (pc' := 15) h ⟨dZ_stretch_14, rfl⟩ ?_
    refine gi_iconst (pc' := 16) h ⟨dZ_stretch_15, rfl⟩ ?_
    refine gd_callSI (e := if 0 ≤ y ∧ y ≤ 3 then 1 else 0) (E := S) (pc' := 19) (As := [.int (iI (y)), .int (iI (0)), .int (iI (3))]) (st := []) h hF ⟨dZ_stretch_16, rfl⟩ kvZ_72 (cZ_in X (by omega)) (by omega) rfl (Nat.le_of_ble_eq_true rfl) rfl ?_
    refine gi_if_ne (tgt := 25) (pc' := 22) h dZ_stretch_19 rfl rfl (by split <;> omega) (fun c19 => ?_) (fun c19 => ?_)
    · have c19 := b1 c19
      refine go_iload_n (pc' := 26) h ⟨dZ_stretch_25, rfl⟩ rfl ?_
      refine gi_if_ne (tgt := 38) (pc' := 29) h dZ_stretch_26 rfl rfl (by omega) (fun c26 => ?_) (fun c26 => ?_)
      · refine go_iload_n (pc' := 39) h ⟨dZ_stretch_38, rfl⟩ rfl ?_
        refine gi_iconst (pc' := 40) h ⟨dZ_stretch_39, rfl⟩ ?_
        refine gi_icmp_ne (tgt := 52) (pc' := 43) h dZ_stretch_40 rfl rfl (by omega) (fun c40 => ?_) (fun c40 => ?_)
        · refine go_iload_n (pc' := 53) h ⟨dZ_stretch_52, rfl⟩ rfl ?_
          refine gi_iconst (pc' := 54) h ⟨dZ_stretch_53, rfl⟩ ?_
          refine gi_icmp_ne (tgt := 66) (pc' := 57) h dZ_stretch_54 rfl rfl (by omega) (fun c54 => ?_) (fun c54 => ?_)
          · refine go_aload_n (pc' := 67) h ⟨dZ_stretch_66, rfl⟩ rfl ?_
            refine go_iload_n (pc' := 68) h ⟨dZ_stretch_67, rfl⟩ rfl ?_
            refine gi_iconst (pc' := 69) h ⟨dZ_stretch_68, rfl⟩ ?_
            refine gi_iadd (pc' := 70) h ⟨dZ_stretch_69, rfl⟩ ?_
            refine gd_callVI (e := mkZ S (x + 1)) (E := S) (pc' := 73) (As := [.int (iI (x + 1))]) (st := []) h hF ⟨dZ_stretch_70, rfl⟩ kvZ_136 (cZ_markOf X (by omega)) (by omega) rfl (by decide) ⟨_, _, rfl⟩ rfl (Nat.le_of_ble_eq_true rfl) rfl ?_
            exact gs_iret h hE dZ_stretch_73 (by unfold zStretch; rw [if_neg (by omega), if_neg (by omega), if_neg (by omega), if_neg (by omega)]; exact ⟨rfl, rfl⟩)
          · refine go_aload_n (pc' := 58) h ⟨dZ_stretch_57, rfl⟩ rfl ?_
            refine gs_get (v := .ref 93) (pc' := 61) h ⟨dZ_stretch_58, rfl⟩ fgZ_22 rfl (by decide) (rfl) ?_
            refine go_iload_n (pc' := 62) h ⟨dZ_stretch_61, rfl⟩ rfl ?_
            refine gs_iald (pc' := 63) h ⟨dZ_stretch_62, rfl⟩ rfl (by have hln : (ln 93 : Int) = 10 := rfl; omega) ?_
            refine gi_goto (tgt := 73) h dZ_stretch_63 rfl ?_
            exact gs_iret h hE dZ_stretch_73 (by unfold zStretch; rw [if_neg (by omega), if_neg (by omega), if_neg (by omega), if_pos (by omega)]; exact ⟨rfl, rfl⟩)
        · refine go_aload_n (pc' := 44) h ⟨dZ_stretch_43, rfl⟩ rfl ?_
          refine gs_get (v := .ref 92) (pc' := 47) h ⟨dZ_stretch_44, rfl⟩ fgZ_19 rfl (by decide) (rfl) ?_
          refine go_iload_n (pc' := 48) h ⟨dZ_stretch_47, rfl⟩ rfl ?_
          refine gs_iald (pc' := 49) h ⟨dZ_stretch_48, rfl⟩ rfl (by have hln : (ln 92 : Int) = 10 := rfl; omega) ?_
          refine gi_goto (tgt := 73) h dZ_stretch_49 rfl ?_
          exact gs_iret h hE dZ_stretch_73 (by unfold zStretch; rw [if_neg (by omega), if_neg (by omega), if_pos (by omega)]; exact ⟨rfl, rfl⟩)
      · refine go_aload_n (pc' := 30) h ⟨dZ_stretch_29, rfl⟩ rfl ?_
        refine gs_get (v := .ref 91) (pc' := 33) h ⟨dZ_stretch_30, rfl⟩ fgZ_16 rfl (by decide) (rfl) ?_
        refine go_iload_n (pc' := 34) h ⟨dZ_stretch_33, rfl⟩ rfl ?_
        refine gs_iald (pc' := 35) h ⟨dZ_stretch_34, rfl⟩ rfl (by have hln : (ln 91 : Int) = 10 := rfl; omega) ?_
        refine gi_goto (tgt := 73) h dZ_stretch_35 rfl ?_
        exact gs_iret h hE dZ_stretch_73 (by unfold zStretch; rw [if_neg (by omega), if_pos (by omega)]; exact ⟨rfl, rfl⟩)
    · have c19 := b0 c19
      refine gi_ldc (n := -1000000) (pc' := 24) h ⟨dZ_stretch_22, rfl⟩ csZ_142 ?_
      exact gs_iret h hE dZ_stretch_24 (by unfold zStretch; rw [if_pos (by omega)]; exact ⟨rfl, rfl⟩)
def zTrav (S : Sg) (x y : Int) : Int × Sg := if ¬ (0 ≤ x ∧ x < S.1 90 1) ∨ ¬ (0 ≤ y ∧ y ≤ 2) then (-1, S) else if y = 0 then (S.1 94 x, S) else if y = 1 then (S.1 95 x, S) else (bitI (S.1 95 4) x, S)
set_option maxRecDepth 4000 in
theorem cZ_traveller (X : XT) {S : Sg} (hZ : ZI S) {x : Int} (hx : -2147483648 ≤ x ∧ x ≤ 2147483647) {y : Int} (hy : -2147483648 ≤ y ∧ y ≤ 2147483647) : Ctr X 6 yZ_traveller bZ_traveller 3 (some .int) [.ref 88, .int (iI (x)), .int (iI (y))] (mk S) (PI (fun r S' => r = (zTrav S x y).1 ∧ S' = (zTrav S x y).2)) 0 0 := by
  refine Ctr.ofS (by decide) rfl (Nat.le_of_ble_eq_true rfl) (fun F h hF hE => ?_)
  obtain ⟨z0, zt, ztx, zm0, zm1, zm2, zm3, zst, ztr, zat, zsy, zth, ztg, zwr, zun, zkp, zse, zsk, zme, zmk, zl5, zl6, zl7⟩ := id hZ
  have hZS : ZS S := ⟨zm0, zst⟩
  have htp := tpZ_bd hZS
  refine go_aload_n (pc' := 1) h ⟨dZ_traveller_0, rfl⟩ rfl ?_
  refine gi_iconst (pc' := 2) h ⟨dZ_traveller_1, rfl⟩ ?_
  refine gd_putI (i := 0) (pc' := 5) h ⟨dZ_traveller_2, rfl⟩ fpZ_68 rfl (by decide) rfl rfl ?_
  rw [pt_z z0]
  refine go_aload_n (pc' := 6) h ⟨dZ_traveller_5, rfl⟩ rfl ?_
  refine go_iload_n (pc' := 7) h ⟨dZ_traveller_6, rfl⟩ rfl ?_
  refine gd_callVI (e := if 0 ≤ x ∧ x < S.1 90 1 then 1 else 0) (E := S) (pc' := 10) (As := [.int (iI (x))]) (st := []) h hF ⟨dZ_traveller_7, rfl⟩ kvZ_143 (cZ_isTraveller X (by omega) (by omega)) (by omega) rfl (by decide) ⟨_, _, rfl⟩ rfl (Nat.le_of_ble_eq_true rfl) rfl ?_
  refine gi_if_eq (tgt := 22) (pc' := 13) h dZ_traveller_10 rfl rfl (by split <;> omega) (fun c10 => ?_) (fun c10 => ?_)
  · have c10 := b0 c10
    refine gi_iconst (pc' := 23) h ⟨dZ_traveller_22, rfl⟩ ?_
    exact gs_iret h hE dZ_traveller_23 (by unfold zTrav; rw [if_pos (by omega)]; exact ⟨rfl, rfl⟩)
  · have c10 := b1 c10
    refine go_iload_n (pc' := 14) h ⟨dZ_traveller_13, rfl⟩ rfl ?_
    refine gi_iconst (pc' := 15) h ⟨dZ_traveller_14, rfl⟩ ?_
    refine gi_iconst (pc' := 16) h ⟨dZ_traveller_15, rfl⟩ ?_
    refine gd_callSI (e := if 0 ≤ y ∧ y ≤ 2 then 1 else 0) (E := S) (pc' := 19) (As := [.int (iI (y)), .int (iI (0)), .int (iI (2))]) (st := []) h hF ⟨dZ_traveller_16, rfl⟩ kvZ_72 (cZ_in X (by omega)) (by omega) rfl (Nat.le_of_ble_eq_true rfl) rfl ?_
    refine gi_if_ne (tgt := 24) (pc' := 22) h dZ_traveller_19 rfl rfl (by split <;> omega) (fun c19 => ?_) (fun c19 => ?_)
    · have c19 := b1 c19
      refine go_iload_n (pc' := 25) h ⟨dZ_traveller_24, rfl⟩ rfl ?_
      refine gi_if_ne (tgt := 37) (pc' := 28) h dZ_traveller_25 rfl rfl (by omega) (fun c25 => ?_) (fun c25 => ?_)
      · refine go_iload_n (pc' := 38) h ⟨dZ_traveller_37, rfl⟩ rfl ?_
        refine gi_iconst (pc' := 39) h ⟨dZ_traveller_38, rfl⟩ ?_
        refine gi_icmp_ne (tgt := 53) (pc' := 42) h dZ_traveller_39 rfl rfl (by omega) (fun c39 => ?_) (fun c39 => ?_)
        · refine go_aload_n (pc' := 54) h ⟨dZ_traveller_53, rfl⟩ rfl ?_
          refine gs_get (v := .ref 95) (pc' := 57) h ⟨dZ_traveller_54, rfl⟩ fgZ_28 rfl (by decide) (rfl) ?_
          refine gi_iconst (pc' := 58) h ⟨dZ_traveller_57, rfl⟩ ?_
          refine gs_iald (pc' := 59) h ⟨dZ_traveller_58, rfl⟩ rfl (by have hln : (ln 95 : Int) = 212 := rfl; omega) ?_
          refine go_iload_n (pc' := 60) h ⟨dZ_traveller_59, rfl⟩ rfl ?_
          refine gi_ishr (c := S.1 95 4 / 2 ^ x.toNat) (pc' := 61) h ⟨dZ_traveller_60, rfl⟩ (shrI (by omega) (by omega)) ?_
          refine gi_iconst (pc' := 62) h ⟨dZ_traveller_61, rfl⟩ ?_
          refine gi_iand (c := bitI (S.1 95 4) x) (pc' := 63) h ⟨dZ_traveller_62, rfl⟩ (bitI_1 (by omega)) ?_
          exact gs_iret h hE dZ_traveller_63 (by unfold zTrav; rw [if_neg (by omega), if_neg (by omega), if_neg (by omega)]; exact ⟨rfl, rfl⟩)
        · refine go_aload_n (pc' := 43) h ⟨dZ_traveller_42, rfl⟩ rfl ?_
          refine gs_get (v := .ref 95) (pc' := 46) h ⟨dZ_traveller_43, rfl⟩ fgZ_28 rfl (by decide) (rfl) ?_
          refine gi_iconst (pc' := 47) h ⟨dZ_traveller_46, rfl⟩ ?_
          refine go_iload_n (pc' := 48) h ⟨dZ_traveller_47, rfl⟩ rfl ?_
          refine gi_iadd (pc' := 49) h ⟨dZ_traveller_48, rfl⟩ ?_
          refine gs_iald (pc' := 50) h ⟨dZ_traveller_49, rfl⟩ rfl (by have hln : (ln 95 : Int) = 212 := rfl; omega) ?_
          refine gi_goto (tgt := 63) h dZ_traveller_50 rfl ?_
          exact gs_iret h hE dZ_traveller_63 (by unfold zTrav; rw [if_neg (by omega), if_neg (by omega), if_pos (by omega)]; exact ⟨by rw [show (0 : Int) + x = x by omega], rfl⟩)
      · refine go_aload_n (pc' := 29) h ⟨dZ_traveller_28, rfl⟩ rfl ?_
        refine gs_get (v := .ref 94) (pc' := 32) h ⟨dZ_traveller_29, rfl⟩ fgZ_25 rfl (by decide) (rfl) ?_
        refine go_iload_n (pc' := 33) h ⟨dZ_traveller_32, rfl⟩ rfl ?_
        refine gs_iald (pc' := 34) h ⟨dZ_traveller_33, rfl⟩ rfl (by have hln : (ln 94 : Int) = 8 := rfl; omega) ?_
        refine gi_goto (tgt := 63) h dZ_traveller_34 rfl ?_
        exact gs_iret h hE dZ_traveller_63 (by unfold zTrav; rw [if_neg (by omega), if_pos (by omega)]; exact ⟨rfl, rfl⟩)
    · have c19 := b0 c19
      refine gi_iconst (pc' := 23) h ⟨dZ_traveller_22, rfl⟩ ?_
      exact gs_iret h hE dZ_traveller_23 (by unfold zTrav; rw [if_pos (by omega)]; exact ⟨rfl, rfl⟩)
def zWear (S : Sg) (x y : Int) : Int × Sg := if (0 ≤ x ∧ x ≤ 1) ∧ (0 ≤ y ∧ y < tpZ S) then (S.1 95 (12 + 100 * x + y), S) else (-1, S)
set_option maxRecDepth 4000 in
theorem cZ_wear (X : XT) {S : Sg} (hZ : ZI S) {x : Int} (hx : -2147483648 ≤ x ∧ x ≤ 2147483647) {y : Int} (hy : -2147483648 ≤ y ∧ y ≤ 2147483647) : Ctr X 6 yZ_wear bZ_wear 3 (some .int) [.ref 88, .int (iI (x)), .int (iI (y))] (mk S) (PI (fun r S' => r = (zWear S x y).1 ∧ S' = (zWear S x y).2)) 0 0 := by
  refine Ctr.ofS (by decide) rfl (Nat.le_of_ble_eq_true rfl) (fun F h hF hE => ?_)
  obtain ⟨z0, zt, ztx, zm0, zm1, zm2, zm3, zst, ztr, zat, zsy, zth, ztg, zwr, zun, zkp, zse, zsk, zme, zmk, zl5, zl6, zl7⟩ := id hZ
  have hZS : ZS S := ⟨zm0, zst⟩
  have htp := tpZ_bd hZS
  refine go_aload_n (pc' := 1) h ⟨dZ_wear_0, rfl⟩ rfl ?_
  refine gi_iconst (pc' := 2) h ⟨dZ_wear_1, rfl⟩ ?_
  refine gd_putI (i := 0) (pc' := 5) h ⟨dZ_wear_2, rfl⟩ fpZ_68 rfl (by decide) rfl rfl ?_
  rw [pt_z z0]
  refine go_iload_n (pc' := 6) h ⟨dZ_wear_5, rfl⟩ rfl ?_
  refine gi_iconst (pc' := 7) h ⟨dZ_wear_6, rfl⟩ ?_
  refine gi_iconst (pc' := 8) h ⟨dZ_wear_7, rfl⟩ ?_
  refine gd_callSI (e := if 0 ≤ x ∧ x ≤ 1 then 1 else 0) (E := S) (pc' := 11) (As := [.int (iI (x)), .int (iI (0)), .int (iI (1))]) (st := []) h hF ⟨dZ_wear_8, rfl⟩ kvZ_72 (cZ_in X (by omega)) (by omega) rfl (Nat.le_of_ble_eq_true rfl) rfl ?_
  refine gi_if_eq (tgt := 45) (pc' := 14) h dZ_wear_11 rfl rfl (by split <;> omega) (fun c11 => ?_) (fun c11 => ?_)
  · have c11 := b0 c11
    refine gi_iconst (pc' := 46) h ⟨dZ_wear_45, rfl⟩ ?_
    exact gs_iret h hE dZ_wear_46 (by unfold zWear; rw [if_neg (by omega)]; exact ⟨rfl, rfl⟩)
  · have c11 := b1 c11
    refine go_iload_n (pc' := 15) h ⟨dZ_wear_14, rfl⟩ rfl ?_
    refine gi_iconst (pc' := 16) h ⟨dZ_wear_15, rfl⟩ ?_
    refine go_aload_n (pc' := 17) h ⟨dZ_wear_16, rfl⟩ rfl ?_
    refine gd_callVI (e := tpZ S) (E := S) (pc' := 20) (As := []) (st := [.int (iI (0)), .int (iI (y))]) h hF ⟨dZ_wear_17, rfl⟩ kvZ_146 (cZ_top X zm0) (by omega) rfl (by decide) ⟨_, _, rfl⟩ rfl (Nat.le_of_ble_eq_true rfl) rfl ?_
    refine gi_iconst (pc' := 21) h ⟨dZ_wear_20, rfl⟩ ?_
    refine gi_isub (pc' := 22) h ⟨dZ_wear_21, rfl⟩ ?_
    refine gd_callSI (e := if 0 ≤ y ∧ y ≤ (tpZ S) - 1 then 1 else 0) (E := S) (pc' := 25) (As := [.int (iI (y)), .int (iI (0)), .int (iI ((tpZ S) - 1))]) (st := []) h hF ⟨dZ_wear_22, rfl⟩ kvZ_72 (cZ_in X (by omega)) (by omega) rfl (Nat.le_of_ble_eq_true rfl) rfl ?_
    refine gi_if_eq (tgt := 45) (pc' := 28) h dZ_wear_25 rfl rfl (by split <;> omega) (fun c25 => ?_) (fun c25 => ?_)
    · have c25 := b0 c25
      refine gi_iconst (pc' := 46) h ⟨dZ_wear_45, rfl⟩ ?_
      exact gs_iret h hE dZ_wear_46 (by unfold zWear; rw [if_neg (by omega)]; exact ⟨rfl, rfl⟩)
    · have c25 := b1 c25
      refine go_aload_n (pc' := 29) h ⟨dZ_wear_28, rfl⟩ rfl ?_
      refine gs_get (v := .ref 95) (pc' := 32) h ⟨dZ_wear_29, rfl⟩ fgZ_28 rfl (by decide) (rfl) ?_
      refine gi_bipush (pc' := 34) h ⟨dZ_wear_32, rfl⟩ rfl ?_
      refine gi_bipush (pc' := 36) h ⟨dZ_wear_34, rfl⟩ rfl ?_
      refine go_iload_n (pc' := 37) h ⟨dZ_wear_36, rfl⟩ rfl ?_
      refine gi_imul (pc' := 38) h ⟨dZ_wear_37, rfl⟩ ?_
      refine gi_iadd (pc' := 39) h ⟨dZ_wear_38, rfl⟩ ?_
      refine go_iload_n (pc' := 40) h ⟨dZ_wear_39, rfl⟩ rfl ?_
      refine gi_iadd (pc' := 41) h ⟨dZ_wear_40, rfl⟩ ?_
      refine gs_iald (pc' := 42) h ⟨dZ_wear_41, rfl⟩ rfl (by have hln : (ln 95 : Int) = 212 := rfl; omega) ?_
      refine gi_goto (tgt := 46) h dZ_wear_42 rfl ?_
      exact gs_iret h hE dZ_wear_46 (by unfold zWear; rw [if_pos (by omega)]; exact ⟨rfl, rfl⟩)
def zThing (S : Sg) (x : Int) : Int × Sg := if x < 0 ∨ 5 < x then (-1, S) else if x < S.1 95 5 then (S.1 95 (6 + x), S) else (-9, S)
set_option maxRecDepth 4000 in
theorem cZ_thing (X : XT) {S : Sg} (hZ : ZI S) {x : Int} (hx : -2147483648 ≤ x ∧ x ≤ 2147483647) : Ctr X 6 yZ_thing bZ_thing 2 (some .int) [.ref 88, .int (iI (x))] (mk S) (PI (fun r S' => r = (zThing S x).1 ∧ S' = (zThing S x).2)) 0 0 := by
  refine Ctr.ofS (by decide) rfl (Nat.le_of_ble_eq_true rfl) (fun F h hF hE => ?_)
  obtain ⟨z0, zt, ztx, zm0, zm1, zm2, zm3, zst, ztr, zat, zsy, zth, ztg, zwr, zun, zkp, zse, zsk, zme, zmk, zl5, zl6, zl7⟩ := id hZ
  refine go_aload_n (pc' := 1) h ⟨dZ_thing_0, rfl⟩ rfl ?_
  refine gi_iconst (pc' := 2) h ⟨dZ_thing_1, rfl⟩ ?_
  refine gd_putI (i := 0) (pc' := 5) h ⟨dZ_thing_2, rfl⟩ fpZ_68 rfl (by decide) rfl rfl ?_
  rw [pt_z z0]
  refine go_iload_n (pc' := 6) h ⟨dZ_thing_5, rfl⟩ rfl ?_
  refine gi_iconst (pc' := 7) h ⟨dZ_thing_6, rfl⟩ ?_
  refine gi_iconst (pc' := 8) h ⟨dZ_thing_7, rfl⟩ ?_
  refine gd_callSI (e := if 0 ≤ x ∧ x ≤ 5 then 1 else 0) (E := S) (pc' := 11) (As := [.int (iI (x)), .int (iI (0)), .int (iI (5))]) (st := []) h hF ⟨dZ_thing_8, rfl⟩ kvZ_72 (cZ_in X (by omega)) (by omega) rfl (Nat.le_of_ble_eq_true rfl) rfl ?_
  refine gi_if_ne (tgt := 16) (pc' := 14) h dZ_thing_11 rfl rfl (by split <;> omega) (fun c11 => ?_) (fun c11 => ?_)
  · have c11 := b1 c11
    refine go_iload_n (pc' := 17) h ⟨dZ_thing_16, rfl⟩ rfl ?_
    refine go_aload_n (pc' := 18) h ⟨dZ_thing_17, rfl⟩ rfl ?_
    refine gs_get (v := .ref 95) (pc' := 21) h ⟨dZ_thing_18, rfl⟩ fgZ_28 rfl (by decide) (rfl) ?_
    refine gi_iconst (pc' := 22) h ⟨dZ_thing_21, rfl⟩ ?_
    refine gs_iald (pc' := 23) h ⟨dZ_thing_22, rfl⟩ rfl (by have hln : (ln 95 : Int) = 212 := rfl; omega) ?_
    refine gi_icmp_ge (tgt := 38) (pc' := 26) h dZ_thing_23 rfl rfl (by omega) (fun c23 => ?_) (fun c23 => ?_)
    · refine gi_bipush (pc' := 40) h ⟨dZ_thing_38, rfl⟩ rfl ?_
      exact gs_iret h hE dZ_thing_40 (by unfold zThing; rw [if_neg (by omega), if_neg (by omega)]; exact ⟨rfl, rfl⟩)
    · refine go_aload_n (pc' := 27) h ⟨dZ_thing_26, rfl⟩ rfl ?_
      refine gs_get (v := .ref 95) (pc' := 30) h ⟨dZ_thing_27, rfl⟩ fgZ_28 rfl (by decide) (rfl) ?_
      refine gi_bipush (pc' := 32) h ⟨dZ_thing_30, rfl⟩ rfl ?_
      refine go_iload_n (pc' := 33) h ⟨dZ_thing_32, rfl⟩ rfl ?_
      refine gi_iadd (pc' := 34) h ⟨dZ_thing_33, rfl⟩ ?_
      refine gs_iald (pc' := 35) h ⟨dZ_thing_34, rfl⟩ rfl (by have hln : (ln 95 : Int) = 212 := rfl; omega) ?_
      refine gi_goto (tgt := 40) h dZ_thing_35 rfl ?_
      exact gs_iret h hE dZ_thing_40 (by unfold zThing; rw [if_neg (by omega), if_pos (by omega)]; exact ⟨rfl, rfl⟩)
  · have c11 := b0 c11
    refine gi_iconst (pc' := 15) h ⟨dZ_thing_14, rfl⟩ ?_
    exact gs_iret h hE dZ_thing_15 (by unfold zThing; rw [if_pos (by omega)]; exact ⟨rfl, rfl⟩)
def dbZ (S : Sg) (b : Int) : Int := (sumI (fun k => (S.1 91 k + S.1 90 2 - 1) / S.1 90 2) (S.1 90 0) + b - 2) / (b - 1)
def dvZ (S : Sg) : Int → Int := fun k => (S.1 91 k + S.1 90 2 - 1) / S.1 90 2
theorem dvZ_bd {S : Sg} (h : ZS S) (hr : 1 ≤ S.1 90 2 ∧ S.1 90 2 ≤ 9) {k : Int} (hk : 0 ≤ k ∧ k < S.1 90 0) : 0 ≤ dvZ S k ∧ dvZ S k ≤ 20 := by
  have h1 := (h.2 k hk.1 hk.2).1
  have h2 := dvU_bd (a := S.1 91 k) (q := S.1 90 2) (by omega) (by omega)
  unfold dvU at h2
  rw [if_neg (by omega)] at h2
  unfold dvZ
  omega
theorem dvZ_sm {S : Sg} (h : ZS S) (hr : 1 ≤ S.1 90 2 ∧ S.1 90 2 ≤ 9) : 0 ≤ sumI (dvZ S) (S.1 90 0) ∧ sumI (dvZ S) (S.1 90 0) ≤ 100 := by
  have h0 := h.1
  have := sumI_bd (f := dvZ S) (B := 20) (n := S.1 90 0) h0.1 (fun k k1 k2 => dvZ_bd h hr ⟨k1, k2⟩)
  omega
set_option maxRecDepth 4000 in
theorem cZ_days (X : XT) {S : Sg} {x : Int} (hz : ZS S) (hr : 1 ≤ S.1 90 2 ∧ S.1 90 2 ≤ 9) (hx : 2 ≤ x ∧ x ≤ 9) : Ctr X 0 yZ_daysBy bZ_daysBy 4 (some .int) [.ref 88, .int (iI (x))] (mk S) (PI (fun r S' => r = dbZ S x ∧ S' = S)) 0 0 := by
  refine Ctr.ofS (by decide) rfl (Nat.le_of_ble_eq_true rfl) (fun F h hF hE => ?_)
  have hz0 := hz.1
  have hs := dvZ_sm hz hr
  have loop : ∀ (n : Nat) (j : Int), 5 < j + n → 0 ≤ j → j ≤ S.1 90 0 → Go F 4 (mk S) 0 0 4 [.ref 88, .int (iI x), .int (iI (sumI (dvZ S) j)), .int (iI j)] [] := by
    intro n
    induction n with
    | zero => intro j g4 g5 g6; exfalso; omega
    | succ n ih =>
      intro j g4 g5 g6
      refine go_iload_n (pc' := 5) h ⟨dZ_daysBy_4, rfl⟩ rfl ?_
      refine go_aload_n (pc' := 6) h ⟨dZ_daysBy_5, rfl⟩ rfl ?_
      refine gs_get (v := .ref 90) (pc' := 9) h ⟨dZ_daysBy_6, rfl⟩ fgZ_13 rfl (by decide) (rfl) ?_
      refine gi_iconst (pc' := 10) h ⟨dZ_daysBy_9, rfl⟩ ?_
      refine gs_iald (pc' := 11) h ⟨dZ_daysBy_10, rfl⟩ rfl (by have hln : (ln 90 : Int) = 8 := rfl; omega) ?_
      refine gi_icmp_ge (tgt := 45) (pc' := 14) h dZ_daysBy_11 rfl rfl (by omega) (fun c11 => ?_) (fun c11 => ?_)
      · have e_j : j = S.1 90 0 := by omega
        subst e_j
        refine go_iload_n (pc' := 46) h ⟨dZ_daysBy_45, rfl⟩ rfl ?_
        refine go_iload_n (pc' := 47) h ⟨dZ_daysBy_46, rfl⟩ rfl ?_
        refine gi_iadd (pc' := 48) h ⟨dZ_daysBy_47, rfl⟩ ?_
        refine gi_iconst (pc' := 49) h ⟨dZ_daysBy_48, rfl⟩ ?_
        refine gi_isub (pc' := 50) h ⟨dZ_daysBy_49, rfl⟩ ?_
        refine go_iload_n (pc' := 51) h ⟨dZ_daysBy_50, rfl⟩ rfl ?_
        refine gi_iconst (pc' := 52) h ⟨dZ_daysBy_51, rfl⟩ ?_
        refine gi_isub (pc' := 53) h ⟨dZ_daysBy_52, rfl⟩ ?_
        refine gi_idiv (pc' := 54) h ⟨dZ_daysBy_53, rfl⟩ (by omega) ?_
        exact gs_iret h hE dZ_daysBy_54 (⟨rfl, rfl⟩)
      · have hj := (hz.2 j (by omega) (by omega)).1
        have hjd := dvZ_bd hz hr (k := j) (by omega)
        refine go_iload_n (pc' := 15) h ⟨dZ_daysBy_14, rfl⟩ rfl ?_
        refine go_aload_n (pc' := 16) h ⟨dZ_daysBy_15, rfl⟩ rfl ?_
        refine gs_get (v := .ref 91) (pc' := 19) h ⟨dZ_daysBy_16, rfl⟩ fgZ_16 rfl (by decide) (rfl) ?_
        refine go_iload_n (pc' := 20) h ⟨dZ_daysBy_19, rfl⟩ rfl ?_
        refine gs_iald (pc' := 21) h ⟨dZ_daysBy_20, rfl⟩ rfl (by have hln : (ln 91 : Int) = 10 := rfl; omega) ?_
        refine go_aload_n (pc' := 22) h ⟨dZ_daysBy_21, rfl⟩ rfl ?_
        refine gs_get (v := .ref 90) (pc' := 25) h ⟨dZ_daysBy_22, rfl⟩ fgZ_13 rfl (by decide) (rfl) ?_
        refine gi_iconst (pc' := 26) h ⟨dZ_daysBy_25, rfl⟩ ?_
        refine gs_iald (pc' := 27) h ⟨dZ_daysBy_26, rfl⟩ rfl (by have hln : (ln 90 : Int) = 8 := rfl; omega) ?_
        refine gi_iadd (pc' := 28) h ⟨dZ_daysBy_27, rfl⟩ ?_
        refine gi_iconst (pc' := 29) h ⟨dZ_daysBy_28, rfl⟩ ?_
        refine gi_isub (pc' := 30) h ⟨dZ_daysBy_29, rfl⟩ ?_
        refine go_aload_n (pc' := 31) h ⟨dZ_daysBy_30, rfl⟩ rfl ?_
        refine gs_get (v := .ref 90) (pc' := 34) h ⟨dZ_daysBy_31, rfl⟩ fgZ_13 rfl (by decide) (rfl) ?_
        refine gi_iconst (pc' := 35) h ⟨dZ_daysBy_34, rfl⟩ ?_
        refine gs_iald (pc' := 36) h ⟨dZ_daysBy_35, rfl⟩ rfl (by have hln : (ln 90 : Int) = 8 := rfl; omega) ?_
        refine gi_idiv (pc' := 37) h ⟨dZ_daysBy_36, rfl⟩ (by omega) ?_
        refine gi_iadd (pc' := 38) h ⟨dZ_daysBy_37, rfl⟩ ?_
        refine go_istore_n (L' := [.ref 88, .int (iI (x)), .int (iI ((sumI (dvZ S) j) + ((((S.1 91 j) + (S.1 90 2)) - 1) / (S.1 90 2)))), .int (iI (j))]) (pc' := 39) h ⟨dZ_daysBy_38, rfl⟩ (by decide) rfl rfl ?_
        refine gi_iinc (L' := [.ref 88, .int (iI (x)), .int (iI ((sumI (dvZ S) j) + ((((S.1 91 j) + (S.1 90 2)) - 1) / (S.1 90 2)))), .int (iI (j + 1))]) (pc' := 42) h ⟨dZ_daysBy_39, rfl⟩ rfl (by decide) rfl rfl ?_
        refine gi_goto (tgt := 4) h dZ_daysBy_42 rfl ?_
        have g7 := ih (j + 1) (by omega) (by omega) (by omega)
        rw [sumI_s _ g5] at g7
        exact g7
  refine gi_iconst (pc' := 1) h ⟨dZ_daysBy_0, rfl⟩ ?_
  refine go_istore_n (L' := [.ref 88, .int (iI (x)), .int (iI (0))]) (pc' := 2) h ⟨dZ_daysBy_1, rfl⟩ (by decide) rfl rfl ?_
  refine gi_iconst (pc' := 3) h ⟨dZ_daysBy_2, rfl⟩ ?_
  refine go_istore_n (L' := [.ref 88, .int (iI (x)), .int (iI (0)), .int (iI (0))]) (pc' := 4) h ⟨dZ_daysBy_3, rfl⟩ (by decide) rfl rfl ?_
  exact loop 6 0 (by omega) (by omega) (by omega)
theorem dbZ_bd {S : Sg} (h : ZS S) (hr : 1 ≤ S.1 90 2 ∧ S.1 90 2 ≤ 9) {b : Int} (hb : 2 ≤ b ∧ b ≤ 9) : 0 ≤ dbZ S b ∧ dbZ S b ≤ 200 := by
  have h1 := dvZ_sm h hr
  have e : dbZ S b = (sumI (dvZ S) (S.1 90 0) + b - 2) / (b - 1) := rfl
  rw [e]
  have h2 : 0 ≤ (sumI (dvZ S) (S.1 90 0) + b - 2) / (b - 1) := Int.ediv_nonneg (by omega) (by omega)
  have h3 : (sumI (dvZ S) (S.1 90 0) + b - 2) / (b - 1) ≤ sumI (dvZ S) (S.1 90 0) + b - 2 := Int.ediv_le_self _ (by omega)
  omega
def alW (S : Sg) : Int := sumI (fun k => S.1 95 (12 + k)) 200
set_option maxRecDepth 4000 in
theorem cZ_allWear (X : XT) {S : Sg} : Ctr X 0 yZ_allWear bZ_allWear 3 (some .int) [.ref 88] (mk S) (PI (fun r S' => r = alW S ∧ S' = S)) 0 0 := by
  refine Ctr.ofS (by decide) rfl (Nat.le_of_ble_eq_true rfl) (fun F h hF hE => ?_)
  have loop : ∀ (n : Nat) (j : Int), 200 < j + n → 0 ≤ j → j ≤ 200 → Go F 3 (mk S) 0 0 5 [.ref 88, .int (iI (sumI (fun k => S.1 95 (12 + k)) j)), .int (iI (12 + j))] [] := by
    intro n
    induction n with
    | zero => intro j g4 g5 g6; exfalso; omega
    | succ n ih =>
      intro j g4 g5 g6
      refine go_iload_n (pc' := 6) h ⟨dZ_allWear_5, rfl⟩ rfl ?_
      refine gi_sipush (pc' := 9) h ⟨dZ_allWear_6, rfl⟩ rfl ?_
      refine gi_icmp_ge (tgt := 27) (pc' := 12) h dZ_allWear_9 rfl rfl (by omega) (fun c9 => ?_) (fun c9 => ?_)
      · refine go_iload_n (pc' := 28) h ⟨dZ_allWear_27, rfl⟩ rfl ?_
        exact gs_iret h hE dZ_allWear_28 (⟨by unfold alW; rw [show (200 : Int) = j by omega], rfl⟩)
      · refine go_iload_n (pc' := 13) h ⟨dZ_allWear_12, rfl⟩ rfl ?_
        refine go_aload_n (pc' := 14) h ⟨dZ_allWear_13, rfl⟩ rfl ?_
        refine gs_get (v := .ref 95) (pc' := 17) h ⟨dZ_allWear_14, rfl⟩ fgZ_28 rfl (by decide) (rfl) ?_
        refine go_iload_n (pc' := 18) h ⟨dZ_allWear_17, rfl⟩ rfl ?_
        refine gs_iald (pc' := 19) h ⟨dZ_allWear_18, rfl⟩ rfl (by have hln : (ln 95 : Int) = 212 := rfl; omega) ?_
        refine gi_iadd (pc' := 20) h ⟨dZ_allWear_19, rfl⟩ ?_
        refine go_istore_n (L' := [.ref 88, .int (iI ((sumI (fun k => S.1 95 (12 + k)) j) + (S.1 95 (12 + j)))), .int (iI (12 + j))]) (pc' := 21) h ⟨dZ_allWear_20, rfl⟩ (by decide) rfl rfl ?_
        refine gi_iinc (L' := [.ref 88, .int (iI ((sumI (fun k => S.1 95 (12 + k)) j) + (S.1 95 (12 + j)))), .int (iI (12 + j + 1))]) (pc' := 24) h ⟨dZ_allWear_21, rfl⟩ rfl (by decide) rfl rfl ?_
        refine gi_goto (tgt := 5) h dZ_allWear_24 rfl ?_
        have g7 := ih (j + 1) (by omega) (by omega) (by omega)
        rw [sumI_s _ g5, ← Int.add_assoc] at g7
        exact g7
  refine gi_iconst (pc' := 1) h ⟨dZ_allWear_0, rfl⟩ ?_
  refine go_istore_n (L' := [.ref 88, .int (iI (0))]) (pc' := 2) h ⟨dZ_allWear_1, rfl⟩ (by decide) rfl rfl ?_
  refine gi_bipush (pc' := 4) h ⟨dZ_allWear_2, rfl⟩ rfl ?_
  refine go_istore_n (L' := [.ref 88, .int (iI (0)), .int (iI (12))]) (pc' := 5) h ⟨dZ_allWear_4, rfl⟩ (by decide) rfl rfl ?_
  exact loop 201 0 (by omega) (by omega) (by omega)
set_option maxRecDepth 4000 in
theorem cZ_steepest (X : XT) {S : Sg} (hZS : ZS S) : Ctr X 2 yZ_steepest bZ_steepest 3 (some .int) [.ref 88] (mk S) (PI (fun r S' => r = stF (htZ S) (tpZ S) 102 0 (-9) ∧ S' = S)) 0 0 := by
  refine Ctr.ofS (by decide) rfl (Nat.le_of_ble_eq_true rfl) (fun F h hF hE => ?_)
  have htp := tpZ_bd hZS
  have zm0 := hZS.1
  have loop : ∀ (n : Nat) (j c : Int), 101 < j + n → 0 ≤ j → j ≤ tpZ S → (c = -9 ∨ (0 ≤ c ∧ c < j)) → stF (htZ S) (tpZ S) 102 0 (-9) = stF (htZ S) (tpZ S) n j c → Go F 3 (mk S) 0 0 5 [.ref 88, .int (iI c), .int (iI j)] [] := by
    intro n
    induction n with
    | zero => intro j c g4 g5 g6; exfalso; omega
    | succ n ih =>
      intro j c g4 g5 g6 g7 g8
      refine go_iload_n (pc' := 6) h ⟨dZ_steepest_5, rfl⟩ rfl ?_
      refine go_aload_n (pc' := 7) h ⟨dZ_steepest_6, rfl⟩ rfl ?_
      refine gd_callVI (e := tpZ S) (E := S) (pc' := 10) (As := []) (st := [.int (iI (j))]) h hF ⟨dZ_steepest_7, rfl⟩ kvZ_146 (cZ_top X zm0) (by omega) rfl (by decide) ⟨_, _, rfl⟩ rfl (Nat.le_of_ble_eq_true rfl) rfl ?_
      refine gi_icmp_ge (tgt := 44) (pc' := 13) h dZ_steepest_10 rfl rfl (by omega) (fun c10 => ?_) (fun c10 => ?_)
      · refine go_iload_n (pc' := 45) h ⟨dZ_steepest_44, rfl⟩ rfl ?_
        exact gs_iret h hE dZ_steepest_45 (⟨by rw [g8, stF, if_neg (by omega)], rfl⟩)
      · refine go_iload_n (pc' := 14) h ⟨dZ_steepest_13, rfl⟩ rfl ?_
        refine gi_bipush (pc' := 16) h ⟨dZ_steepest_14, rfl⟩ rfl ?_
        refine gi_icmp_eq (tgt := 32) (pc' := 19) h dZ_steepest_16 rfl rfl (by omega) (fun c16 => ?_) (fun c16 => ?_)
        · refine go_iload_n (pc' := 33) h ⟨dZ_steepest_32, rfl⟩ rfl ?_
          refine gi_goto (tgt := 37) h dZ_steepest_33 rfl ?_
          refine go_istore_n (L' := [.ref 88, .int (iI (j)), .int (iI (j))]) (pc' := 38) h ⟨dZ_steepest_37, rfl⟩ (by decide) rfl rfl ?_
          refine gi_iinc (L' := [.ref 88, .int (iI (j)), .int (iI (j + 1))]) (pc' := 41) h ⟨dZ_steepest_38, rfl⟩ rfl (by decide) rfl rfl ?_
          refine gi_goto (tgt := 5) h dZ_steepest_41 rfl ?_
          exact ih (j + 1) j (by omega) (by omega) (by omega) (by omega) (by rw [g8, stF, if_pos (by omega), if_pos (by omega)])
        · refine go_aload_n (pc' := 20) h ⟨dZ_steepest_19, rfl⟩ rfl ?_
          refine go_iload_n (pc' := 21) h ⟨dZ_steepest_20, rfl⟩ rfl ?_
          refine gd_callVI (e := htZ S j) (E := S) (pc' := 24) (As := [.int (iI (j))]) (st := []) h hF ⟨dZ_steepest_21, rfl⟩ kvZ_150 (cZ_heightAt X hZS (by omega)) (by omega) rfl (by decide) ⟨_, _, rfl⟩ rfl (Nat.le_of_ble_eq_true rfl) rfl ?_
          have ht_21 := htZ_bd hZS (m := j) (by omega)
          refine go_aload_n (pc' := 25) h ⟨dZ_steepest_24, rfl⟩ rfl ?_
          refine go_iload_n (pc' := 26) h ⟨dZ_steepest_25, rfl⟩ rfl ?_
          refine gd_callVI (e := htZ S c) (E := S) (pc' := 29) (As := [.int (iI (c))]) (st := [.int (iI (htZ S j))]) h hF ⟨dZ_steepest_26, rfl⟩ kvZ_150 (cZ_heightAt X hZS (by omega)) (by omega) rfl (by decide) ⟨_, _, rfl⟩ rfl (Nat.le_of_ble_eq_true rfl) rfl ?_
          have ht_26 := htZ_bd hZS (m := c) (by omega)
          refine gi_icmp_le (tgt := 36) (pc' := 32) h dZ_steepest_29 rfl rfl (by omega) (fun c29 => ?_) (fun c29 => ?_)
          · refine go_iload_n (pc' := 37) h ⟨dZ_steepest_36, rfl⟩ rfl ?_
            refine go_istore_n (L' := [.ref 88, .int (iI (c)), .int (iI (j))]) (pc' := 38) h ⟨dZ_steepest_37, rfl⟩ (by decide) rfl rfl ?_
            refine gi_iinc (L' := [.ref 88, .int (iI (c)), .int (iI (j + 1))]) (pc' := 41) h ⟨dZ_steepest_38, rfl⟩ rfl (by decide) rfl rfl ?_
            refine gi_goto (tgt := 5) h dZ_steepest_41 rfl ?_
            exact ih (j + 1) c (by omega) (by omega) (by omega) (by omega) (by rw [g8, stF, if_pos (by omega), if_neg (by omega)])
          · refine go_iload_n (pc' := 33) h ⟨dZ_steepest_32, rfl⟩ rfl ?_
            refine gi_goto (tgt := 37) h dZ_steepest_33 rfl ?_
            refine go_istore_n (L' := [.ref 88, .int (iI (j)), .int (iI (j))]) (pc' := 38) h ⟨dZ_steepest_37, rfl⟩ (by decide) rfl rfl ?_
            refine gi_iinc (L' := [.ref 88, .int (iI (j)), .int (iI (j + 1))]) (pc' := 41) h ⟨dZ_steepest_38, rfl⟩ rfl (by decide) rfl rfl ?_
            refine gi_goto (tgt := 5) h dZ_steepest_41 rfl ?_
            exact ih (j + 1) j (by omega) (by omega) (by omega) (by omega) (by rw [g8, stF, if_pos (by omega), if_pos (by omega)])
  refine gi_bipush (pc' := 2) h ⟨dZ_steepest_0, rfl⟩ rfl ?_
  refine go_istore_n (L' := [.ref 88, .int (iI (-9))]) (pc' := 3) h ⟨dZ_steepest_2, rfl⟩ (by decide) rfl rfl ?_
  refine gi_iconst (pc' := 4) h ⟨dZ_steepest_3, rfl⟩ ?_
  refine go_istore_n (L' := [.ref 88, .int (iI (-9)), .int (iI (0))]) (pc' := 5) h ⟨dZ_steepest_4, rfl⟩ (by decide) rfl rfl ?_
  exact loop 102 0 (-9) (by omega) (by omega) (by omega) (by omega) rfl
def zNow (S : Sg) (x : Int) : Int × Sg := if x < 0 ∨ 6 < x then (-1, S) else if x = 0 then (tpZ S, S) else if x = 1 then (S.1 95 5, S) else if x = 2 then (onesI (S.1 95 4), S) else if x = 3 then (alW S, S) else if x = 4 then (stF (htZ S) (tpZ S) 102 0 (-9), S) else if x = 5 then (dbZ S (S.1 90 3), S) else (S.1 88 19, S)
set_option maxRecDepth 4000 in
theorem cZ_now (X : XT) {S : Sg} (hZ : ZI S) {x : Int} (hx : -2147483648 ≤ x ∧ x ≤ 2147483647) : Ctr X 6 yZ_now bZ_now 2 (some .int) [.ref 88, .int (iI (x))] (mk S) (PI (fun r S' => r = (zNow S x).1 ∧ S' = (zNow S x).2)) 0 0 := by
  refine Ctr.ofS (by decide) rfl (Nat.le_of_ble_eq_true rfl) (fun F h hF hE => ?_)
  obtain ⟨z0, zt, ztx, zm0, zm1, zm2, zm3, zst, ztr, zat, zsy, zth, ztg, zwr, zun, zkp, zse, zsk, zme, zmk, zl5, zl6, zl7⟩ := id hZ
  have hZS : ZS S := ⟨zm0, zst⟩
  have htp := tpZ_bd hZS
  refine go_aload_n (pc' := 1) h ⟨dZ_now_0, rfl⟩ rfl ?_
  refine gi_iconst (pc' := 2) h ⟨dZ_now_1, rfl⟩ ?_
  refine gd_putI (i := 0) (pc' := 5) h ⟨dZ_now_2, rfl⟩ fpZ_68 rfl (by decide) rfl rfl ?_
  rw [pt_z z0]
  refine go_iload_n (pc' := 6) h ⟨dZ_now_5, rfl⟩ rfl ?_
  refine gi_iconst (pc' := 7) h ⟨dZ_now_6, rfl⟩ ?_
  refine gi_bipush (pc' := 9) h ⟨dZ_now_7, rfl⟩ rfl ?_
  refine gd_callSI (e := if 0 ≤ x ∧ x ≤ 6 then 1 else 0) (E := S) (pc' := 12) (As := [.int (iI (x)), .int (iI (0)), .int (iI (6))]) (st := []) h hF ⟨dZ_now_9, rfl⟩ kvZ_72 (cZ_in X (by omega)) (by omega) rfl (Nat.le_of_ble_eq_true rfl) rfl ?_
  refine gi_if_ne (tgt := 17) (pc' := 15) h dZ_now_12 rfl rfl (by split <;> omega) (fun c12 => ?_) (fun c12 => ?_)
  · have c12 := b1 c12
    refine go_iload_n (pc' := 18) h ⟨dZ_now_17, rfl⟩ rfl ?_
    refine gi_iconst (pc' := 19) h ⟨dZ_now_18, rfl⟩ ?_
    refine gi_icmp_ge (tgt := 69) (pc' := 22) h dZ_now_19 rfl rfl (by omega) (fun c19 => ?_) (fun c19 => ?_)
    · refine go_iload_n (pc' := 70) h ⟨dZ_now_69, rfl⟩ rfl ?_
      refine gi_iconst (pc' := 71) h ⟨dZ_now_70, rfl⟩ ?_
      refine gi_icmp_ne (tgt := 81) (pc' := 74) h dZ_now_71 rfl rfl (by omega) (fun c71 => ?_) (fun c71 => ?_)
      · refine go_iload_n (pc' := 82) h ⟨dZ_now_81, rfl⟩ rfl ?_
        refine gi_iconst (pc' := 83) h ⟨dZ_now_82, rfl⟩ ?_
        refine gi_icmp_ne (tgt := 99) (pc' := 86) h dZ_now_83 rfl rfl (by omega) (fun c83 => ?_) (fun c83 => ?_)
        · refine go_aload_n (pc' := 100) h ⟨dZ_now_99, rfl⟩ rfl ?_
          refine gs_get (v := .int (iI (S.1 88 19))) (pc' := 103) h ⟨dZ_now_100, rfl⟩ fgZ_133 rfl (by decide) (rfl) ?_
          exact gs_iret h hE dZ_now_103 (by unfold zNow; rw [if_neg (by omega), if_neg (by omega), if_neg (by omega), if_neg (by omega), if_neg (by omega), if_neg (by omega), if_neg (by omega)]; exact ⟨rfl, rfl⟩)
        · refine go_aload_n (pc' := 87) h ⟨dZ_now_86, rfl⟩ rfl ?_
          refine go_aload_n (pc' := 88) h ⟨dZ_now_87, rfl⟩ rfl ?_
          refine gs_get (v := .ref 90) (pc' := 91) h ⟨dZ_now_88, rfl⟩ fgZ_13 rfl (by decide) (rfl) ?_
          refine gi_iconst (pc' := 92) h ⟨dZ_now_91, rfl⟩ ?_
          refine gs_iald (pc' := 93) h ⟨dZ_now_92, rfl⟩ rfl (by have hln : (ln 90 : Int) = 8 := rfl; omega) ?_
          refine gd_callVI (e := dbZ S (S.1 90 3)) (E := S) (pc' := 96) (As := [.int (iI (S.1 90 3))]) (st := []) h hF ⟨dZ_now_93, rfl⟩ kvZ_162 (cZ_days X hZS zm2 (by omega)) (by omega) rfl (by decide) ⟨_, _, rfl⟩ rfl (Nat.le_of_ble_eq_true rfl) rfl ?_
          have hd_93 := dbZ_bd hZS zm2 (b := S.1 90 3) (by omega)
          refine gi_goto (tgt := 103) h dZ_now_96 rfl ?_
          exact gs_iret h hE dZ_now_103 (by unfold zNow; rw [if_neg (by omega), if_neg (by omega), if_neg (by omega), if_neg (by omega), if_neg (by omega), if_neg (by omega), if_pos (by omega)]; exact ⟨rfl, rfl⟩)
      · refine go_aload_n (pc' := 75) h ⟨dZ_now_74, rfl⟩ rfl ?_
        refine gd_callVI (e := stF (htZ S) (tpZ S) 102 0 (-9)) (E := S) (pc' := 78) (As := []) (st := []) h hF ⟨dZ_now_75, rfl⟩ kvZ_159 (cZ_steepest X hZS) (by omega) rfl (by decide) ⟨_, _, rfl⟩ rfl (Nat.le_of_ble_eq_true rfl) rfl ?_
        refine gi_goto (tgt := 103) h dZ_now_78 rfl ?_
        exact gs_iret h hE dZ_now_103 (by unfold zNow; rw [if_neg (by omega), if_neg (by omega), if_neg (by omega), if_neg (by omega), if_neg (by omega), if_pos (by omega)]; exact ⟨rfl, rfl⟩)
    · refine go_iload_n (pc' := 23) h ⟨dZ_now_22, rfl⟩ rfl ?_
      refine gi_if_ne (tgt := 33) (pc' := 26) h dZ_now_23 rfl rfl (by omega) (fun c23 => ?_) (fun c23 => ?_)
      · refine go_iload_n (pc' := 34) h ⟨dZ_now_33, rfl⟩ rfl ?_
        refine gi_iconst (pc' := 35) h ⟨dZ_now_34, rfl⟩ ?_
        refine gi_icmp_ne (tgt := 47) (pc' := 38) h dZ_now_35 rfl rfl (by omega) (fun c35 => ?_) (fun c35 => ?_)
        · refine go_iload_n (pc' := 48) h ⟨dZ_now_47, rfl⟩ rfl ?_
          refine gi_iconst (pc' := 49) h ⟨dZ_now_48, rfl⟩ ?_
          refine gi_icmp_ne (tgt := 64) (pc' := 52) h dZ_now_49 rfl rfl (by omega) (fun c49 => ?_) (fun c49 => ?_)
          · refine go_aload_n (pc' := 65) h ⟨dZ_now_64, rfl⟩ rfl ?_
            refine gd_callVI (e := alW S) (E := S) (pc' := 68) (As := []) (st := []) h hF ⟨dZ_now_65, rfl⟩ kvZ_156 (cZ_allWear X) (by omega) rfl (by decide) ⟨_, _, rfl⟩ rfl (Nat.le_of_ble_eq_true rfl) rfl ?_
            exact gs_iret h hE dZ_now_68 (by unfold zNow; rw [if_neg (by omega), if_neg (by omega), if_neg (by omega), if_neg (by omega), if_pos (by omega)]; exact ⟨rfl, rfl⟩)
          · refine go_aload_n (pc' := 53) h ⟨dZ_now_52, rfl⟩ rfl ?_
            refine gs_get (v := .ref 95) (pc' := 56) h ⟨dZ_now_53, rfl⟩ fgZ_28 rfl (by decide) (rfl) ?_
            refine gi_iconst (pc' := 57) h ⟨dZ_now_56, rfl⟩ ?_
            refine gs_iald (pc' := 58) h ⟨dZ_now_57, rfl⟩ rfl (by have hln : (ln 95 : Int) = 212 := rfl; omega) ?_
            refine gd_callSI (e := onesI (S.1 95 4)) (E := S) (pc' := 61) (As := [.int (iI (S.1 95 4))]) (st := []) h hF ⟨dZ_now_58, rfl⟩ kvZ_153 (cZ_ones X (by omega)) (by omega) rfl (Nat.le_of_ble_eq_true rfl) rfl ?_
            refine gi_goto (tgt := 68) h dZ_now_61 rfl ?_
            exact gs_iret h hE dZ_now_68 (by unfold zNow; rw [if_neg (by omega), if_neg (by omega), if_neg (by omega), if_pos (by omega)]; exact ⟨rfl, rfl⟩)
        · refine go_aload_n (pc' := 39) h ⟨dZ_now_38, rfl⟩ rfl ?_
          refine gs_get (v := .ref 95) (pc' := 42) h ⟨dZ_now_39, rfl⟩ fgZ_28 rfl (by decide) (rfl) ?_
          refine gi_iconst (pc' := 43) h ⟨dZ_now_42, rfl⟩ ?_
          refine gs_iald (pc' := 44) h ⟨dZ_now_43, rfl⟩ rfl (by have hln : (ln 95 : Int) = 212 := rfl; omega) ?_
          refine gi_goto (tgt := 68) h dZ_now_44 rfl ?_
          exact gs_iret h hE dZ_now_68 (by unfold zNow; rw [if_neg (by omega), if_neg (by omega), if_pos (by omega)]; exact ⟨rfl, rfl⟩)
      · refine go_aload_n (pc' := 27) h ⟨dZ_now_26, rfl⟩ rfl ?_
        refine gd_callVI (e := tpZ S) (E := S) (pc' := 30) (As := []) (st := []) h hF ⟨dZ_now_27, rfl⟩ kvZ_146 (cZ_top X zm0) (by omega) rfl (by decide) ⟨_, _, rfl⟩ rfl (Nat.le_of_ble_eq_true rfl) rfl ?_
        refine gi_goto (tgt := 68) h dZ_now_30 rfl ?_
        exact gs_iret h hE dZ_now_68 (by unfold zNow; rw [if_neg (by omega), if_pos (by omega)]; exact ⟨rfl, rfl⟩)
  · have c12 := b0 c12
    refine gi_iconst (pc' := 16) h ⟨dZ_now_15, rfl⟩ ?_
    exact gs_iret h hE dZ_now_16 (by unfold zNow; rw [if_pos (by omega)]; exact ⟨rfl, rfl⟩)
