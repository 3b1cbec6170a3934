/-! what the reference does: windows copied -/
def cpy (S : Sg) (a b : Nat) (o j : Int) : Sg := aset S b (fun k => if o ≤ k ∧ k < o + j then S.1 a (k - o) else S.1 b k)
def cpw (S : Sg) (a b : Nat) (o j : Int) : Sg := aset S b (fun k => if 0 ≤ k ∧ k < j then S.1 a (o + k) else S.1 b k)
theorem cpy_0 (S : Sg) (a b : Nat) (o : Int) : cpy S a b o 0 = S := by
  unfold cpy
  rw [show (fun k => if o ≤ k ∧ k < o + 0 then S.1 a (k - o) else S.1 b k) = S.1 b from funext fun k => if_neg (by omega), aset_self]
theorem cpw_0 (S : Sg) (a b : Nat) (o : Int) : cpw S a b o 0 = S := by
  unfold cpw
  rw [show (fun k => if 0 ≤ k ∧ k < 0 then S.1 a (o + k) else S.1 b k) = S.1 b from funext fun k => if_neg (by omega), aset_self]
theorem cpy_ne (S : Sg) {a b c : Nat} (o j : Int) (h : c ≠ b) : (cpy S a b o j).1 c = S.1 c := aset_ne _ _ h
theorem cpw_ne (S : Sg) {a b c : Nat} (o j : Int) (h : c ≠ b) : (cpw S a b o j).1 c = S.1 c := aset_ne _ _ h
theorem cpy_s (S : Sg) {a b : Nat} (hab : a ≠ b) {o j : Int} (h : 0 ≤ j) : pt (cpy S a b o j) b (o + j) ((cpy S a b o j).1 a j) = cpy S a b o (j + 1) := by
  rw [cpy_ne _ _ _ hab]
  unfold cpy
  rw [pt_aset, aset_eq, aset_aset]
  refine congrArg (aset S b) (funext fun k => ?_)
  unfold uF
  by_cases h1 : k = o + j
  · rw [if_pos h1, if_pos (by omega), show k - o = j by omega]
  · rw [if_neg h1]
    dsimp only
    by_cases h2 : o ≤ k ∧ k < o + j
    · rw [if_pos h2, if_pos (by omega)]
    · rw [if_neg h2, if_neg (by omega)]
theorem cpw_s (S : Sg) {a b : Nat} (hab : a ≠ b) {o j : Int} (h : 0 ≤ j) : pt (cpw S a b o j) b j ((cpw S a b o j).1 a (o + j)) = cpw S a b o (j + 1) := by
  rw [cpw_ne _ _ _ hab]
  unfold cpw
  rw [pt_aset, aset_eq, aset_aset]
  refine congrArg (aset S b) (funext fun k => ?_)
  unfold uF
  by_cases h1 : k = j
  · rw [if_pos h1, if_pos (by omega), h1]
  · rw [if_neg h1]
    dsimp only
    by_cases h2 : 0 ≤ k ∧ k < j
    · rw [if_pos h2, if_pos (by omega)]
    · rw [if_neg h2, if_neg (by omega)]
set_option maxRecDepth 4000 in
theorem cZ_oldest (X : XT) {S : Sg} {x : Int} (hx : 0 ≤ x ∧ x ≤ 1000) (hth : 0 ≤ S.1 95 5 ∧ S.1 95 5 ≤ 6) (htg : ∀ i : Int, 6 ≤ i → i < 6 + S.1 95 5 → 0 ≤ S.1 95 i ∧ S.1 95 i ≤ 100) : Ctr X 0 yZ_oldestAt bZ_oldestAt 4 (some .int) [.ref 88, .int (iI (x))] (mk S) (PI (fun r S' => S' = S ∧ ((r = -9 ∧ ∀ i : Int, 0 ≤ i → i < S.1 95 5 → S.1 95 (6 + i) ≠ x) ∨ (0 ≤ r ∧ r < S.1 95 5 ∧ S.1 95 (6 + r) = x ∧ ∀ i : Int, 0 ≤ i → i < r → S.1 95 (6 + i) ≠ x)))) 0 0 := by
  refine Ctr.ofS (by decide) rfl (Nat.le_of_ble_eq_true rfl) (fun F h hF hE => ?_)
  have loop : ∀ (n : Nat) (j c : Int), j + 1 < n → -1 ≤ j → j < S.1 95 5 → ((c = -9 ∧ ∀ i : Int, j < i → i < S.1 95 5 → S.1 95 (6 + i) ≠ x) ∨ (j < c ∧ c < S.1 95 5 ∧ S.1 95 (6 + c) = x ∧ ∀ i : Int, j < i → i < c → S.1 95 (6 + i) ≠ x)) → Go F 4 (mk S) 0 0 12 [.ref 88, .int (iI x), .int (iI c), .int (iI j)] [] := by
    intro n
    induction n with
    | zero => intro j c g4 g5 g6; exfalso; omega
    | succ n ih =>
      intro j c g4 g5 g6 g7
      refine go_iload_n (pc' := 13) h ⟨dZ_oldestAt_12, rfl⟩ rfl ?_
      refine gi_if_lt (tgt := 41) (pc' := 16) h dZ_oldestAt_13 rfl rfl (by omega) (fun c13 => ?_) (fun c13 => ?_)
      · refine go_iload_n (pc' := 42) h ⟨dZ_oldestAt_41, rfl⟩ rfl ?_
        exact gs_iret h hE dZ_oldestAt_42 (⟨rfl, g7.elim (fun g => Or.inl ⟨g.1, fun b b1 b2 => g.2 b (by omega) b2⟩) (fun g => Or.inr ⟨by omega, g.2.1, g.2.2.1, fun b b1 b2 => g.2.2.2 b (by omega) b2⟩)⟩)
      · have hj := htg (6 + j) (by omega) (by omega)
        refine go_aload_n (pc' := 17) h ⟨dZ_oldestAt_16, rfl⟩ rfl ?_
        refine gs_get (v := .ref 95) (pc' := 20) h ⟨dZ_oldestAt_17, rfl⟩ fgZ_28 rfl (by decide) (rfl) ?_
        refine gi_bipush (pc' := 22) h ⟨dZ_oldestAt_20, rfl⟩ rfl ?_
        refine go_iload_n (pc' := 23) h ⟨dZ_oldestAt_22, rfl⟩ rfl ?_
        refine gi_iadd (pc' := 24) h ⟨dZ_oldestAt_23, rfl⟩ ?_
        refine gs_iald (pc' := 25) h ⟨dZ_oldestAt_24, rfl⟩ rfl (by have hln : (ln 95 : Int) = 212 := rfl; omega) ?_
        refine go_iload_n (pc' := 26) h ⟨dZ_oldestAt_25, rfl⟩ rfl ?_
        refine gi_icmp_ne (tgt := 33) (pc' := 29) h dZ_oldestAt_26 rfl rfl (by omega) (fun c26 => ?_) (fun c26 => ?_)
        · refine go_iload_n (pc' := 34) h ⟨dZ_oldestAt_33, rfl⟩ rfl ?_
          refine go_istore_n (L' := [.ref 88, .int (iI (x)), .int (iI (c)), .int (iI (j))]) (pc' := 35) h ⟨dZ_oldestAt_34, rfl⟩ (by decide) rfl rfl ?_
          refine gi_iinc (L' := [.ref 88, .int (iI (x)), .int (iI (c)), .int (iI (j + (-1)))]) (pc' := 38) h ⟨dZ_oldestAt_35, rfl⟩ rfl (by decide) rfl rfl ?_
          refine gi_goto (tgt := 12) h dZ_oldestAt_38 rfl ?_
          exact ih (j + (-1)) c (by omega) (by omega) (by omega) (g7.elim (fun g => Or.inl ⟨g.1, fun b b1 b2 => by
            by_cases hb : b = j
            · rw [hb]; omega
            · exact g.2 b (by omega) b2⟩) (fun g => Or.inr ⟨by omega, g.2.1, g.2.2.1, fun b b1 b2 => by
            by_cases hb : b = j
            · rw [hb]; omega
            · exact g.2.2.2 b (by omega) b2⟩))
        · refine go_iload_n (pc' := 30) h ⟨dZ_oldestAt_29, rfl⟩ rfl ?_
          refine gi_goto (tgt := 34) h dZ_oldestAt_30 rfl ?_
          refine go_istore_n (L' := [.ref 88, .int (iI (x)), .int (iI (j)), .int (iI (j))]) (pc' := 35) h ⟨dZ_oldestAt_34, rfl⟩ (by decide) rfl rfl ?_
          refine gi_iinc (L' := [.ref 88, .int (iI (x)), .int (iI (j)), .int (iI (j + (-1)))]) (pc' := 38) h ⟨dZ_oldestAt_35, rfl⟩ rfl (by decide) rfl rfl ?_
          refine gi_goto (tgt := 12) h dZ_oldestAt_38 rfl ?_
          exact ih (j + (-1)) j (by omega) (by omega) (by omega) (Or.inr ⟨by omega, by omega, by omega, fun b b1 b2 => by omega⟩)
  refine gi_bipush (pc' := 2) h ⟨dZ_oldestAt_0, rfl⟩ rfl ?_
  refine go_istore_n (L' := [.ref 88, .int (iI (x)), .int (iI (-9))]) (pc' := 3) h ⟨dZ_oldestAt_2, rfl⟩ (by decide) rfl rfl ?_
  refine go_aload_n (pc' := 4) h ⟨dZ_oldestAt_3, rfl⟩ rfl ?_
  refine gs_get (v := .ref 95) (pc' := 7) h ⟨dZ_oldestAt_4, rfl⟩ fgZ_28 rfl (by decide) (rfl) ?_
  refine gi_iconst (pc' := 8) h ⟨dZ_oldestAt_7, rfl⟩ ?_
  refine gs_iald (pc' := 9) h ⟨dZ_oldestAt_8, rfl⟩ rfl (by have hln : (ln 95 : Int) = 212 := rfl; omega) ?_
  refine gi_iconst (pc' := 10) h ⟨dZ_oldestAt_9, rfl⟩ ?_
  refine gi_isub (pc' := 11) h ⟨dZ_oldestAt_10, rfl⟩ ?_
  refine go_istore_n (L' := [.ref 88, .int (iI (x)), .int (iI (-9)), .int (iI ((S.1 95 5) - 1))]) (pc' := 12) h ⟨dZ_oldestAt_11, rfl⟩ (by decide) rfl rfl ?_
  exact loop 8 (S.1 95 5 - 1) (-9) (by omega) (by omega) (by omega) (Or.inl ⟨rfl, fun b b1 b2 => by omega⟩)
def zN1 (S : Sg) : Sg := if S.1 88 19 = 10 then pt (sft S 98 212 1908) 88 19 9 else S
def zNote (S : Sg) : Sg := pt (cpy (zN1 S) 95 98 (212 * (zN1 S).1 88 19) 212) 88 19 ((zN1 S).1 88 19 + 1)
theorem zN1_19 {S : Sg} (h : 0 ≤ S.1 88 19 ∧ S.1 88 19 ≤ 10) : 0 ≤ (zN1 S).1 88 19 ∧ (zN1 S).1 88 19 ≤ 9 := by
  unfold zN1
  split
  · show 0 ≤ (9 : Int) ∧ (9 : Int) ≤ 9
    omega
  · omega
theorem zN1_ne (S : Sg) {a : Nat} (h : a ≠ 88) (h2 : a ≠ 98) : (zN1 S).1 a = S.1 a := by
  unfold zN1
  split
  · rw [pt_ne _ _ _ h, sft_ne _ _ _ h2]
  · rfl
theorem zNote_ne (S : Sg) {a : Nat} (h : a ≠ 88) (h2 : a ≠ 98) : (zNote S).1 a = S.1 a := by
  unfold zNote
  rw [pt_ne _ _ _ h, cpy_ne _ _ _ h2, zN1_ne _ h h2]
set_option maxRecDepth 4000 in
theorem cZ_notes (X : XT) {S : Sg} (hu : 0 ≤ S.1 88 19 ∧ S.1 88 19 ≤ 10) : Ctr X 0 yZ_notes bZ_notes 2 none [.ref 88] (mk S) (PV (fun S' => S' = zNote S)) 0 0 := by
  refine Ctr.ofS (by decide) rfl (Nat.le_of_ble_eq_true rfl) (fun F h hF hE => ?_)
  have hu1 := zN1_19 hu
  have l2 : ∀ (n : Nat) (j : Int), 212 < j + n → 0 ≤ j → j ≤ 212 → Go F 2 (mk (cpy (zN1 S) 95 98 (212 * (zN1 S).1 88 19) j)) 0 0 48 [.ref 88, .int (iI j)] [] := by
    intro n
    induction n with
    | zero => intro j g4 g5 g6; exfalso; omega
    | succ n ih =>
      intro j g4 g5 g6
      refine go_iload_n (pc' := 49) h ⟨dZ_notes_48, rfl⟩ rfl ?_
      refine gi_sipush (pc' := 52) h ⟨dZ_notes_49, rfl⟩ rfl ?_
      refine gi_icmp_ge (tgt := 82) (pc' := 55) h dZ_notes_52 rfl rfl (by omega) (fun c52 => ?_) (fun c52 => ?_)
      · refine go_aload_n (pc' := 83) h ⟨dZ_notes_82, rfl⟩ rfl ?_
        refine go_dup (pc' := 84) h ⟨dZ_notes_83, rfl⟩ rfl ?_
        refine gs_get (v := .int (iI ((zN1 S).1 88 19))) (pc' := 87) h ⟨dZ_notes_84, rfl⟩ fgZ_133 rfl (by decide) (rfl) ?_
        refine gi_iconst (pc' := 88) h ⟨dZ_notes_87, rfl⟩ ?_
        refine gi_iadd (pc' := 89) h ⟨dZ_notes_88, rfl⟩ ?_
        refine gd_putI (i := 19) (pc' := 92) h ⟨dZ_notes_89, rfl⟩ fpZ_133 rfl (by decide) rfl rfl ?_
        exact gs_vret h hE dZ_notes_92 (by rw [show j = 212 by omega]; rfl)
      · refine go_aload_n (pc' := 56) h ⟨dZ_notes_55, rfl⟩ rfl ?_
        refine gs_get (v := .ref 98) (pc' := 59) h ⟨dZ_notes_56, rfl⟩ fgZ_38 rfl (by decide) (rfl) ?_
        refine gi_sipush (pc' := 62) h ⟨dZ_notes_59, rfl⟩ rfl ?_
        refine go_aload_n (pc' := 63) h ⟨dZ_notes_62, rfl⟩ rfl ?_
        refine gs_get (v := .int (iI ((zN1 S).1 88 19))) (pc' := 66) h ⟨dZ_notes_63, rfl⟩ fgZ_133 rfl (by decide) (rfl) ?_
        refine gi_imul (pc' := 67) h ⟨dZ_notes_66, rfl⟩ ?_
        refine go_iload_n (pc' := 68) h ⟨dZ_notes_67, rfl⟩ rfl ?_
        refine gi_iadd (pc' := 69) h ⟨dZ_notes_68, rfl⟩ ?_
        refine go_aload_n (pc' := 70) h ⟨dZ_notes_69, rfl⟩ rfl ?_
        refine gs_get (v := .ref 95) (pc' := 73) h ⟨dZ_notes_70, rfl⟩ fgZ_28 rfl (by decide) (rfl) ?_
        refine go_iload_n (pc' := 74) h ⟨dZ_notes_73, rfl⟩ rfl ?_
        refine gs_iald (pc' := 75) h ⟨dZ_notes_74, rfl⟩ rfl (by have hln : (ln 95 : Int) = 212 := rfl; omega) ?_
        refine gs_iast (pc' := 76) h ⟨dZ_notes_75, rfl⟩ rfl (by have hln : (ln 98 : Int) = 2120 := rfl; omega) ?_
        refine gi_iinc (L' := [.ref 88, .int (iI (j + 1))]) (pc' := 79) h ⟨dZ_notes_76, rfl⟩ rfl (by decide) rfl rfl ?_
        refine gi_goto (tgt := 48) h dZ_notes_79 rfl ?_
        have g7 := ih (j + 1) (by omega) (by omega) (by omega)
        rw [← cpy_s _ (by decide) g5] at g7
        exact g7
  have l1 : ∀ (n : Nat) (j : Int), 1908 < j + n → 0 ≤ j → j ≤ 1908 → S.1 88 19 = 10 → Go F 2 (mk (sft S 98 212 j)) 0 0 11 [.ref 88, .int (iI j)] [] := by
    intro n
    induction n with
    | zero => intro j g4 g5 g6; exfalso; omega
    | succ n ih =>
      intro j g4 g5 g6 g8
      refine go_iload_n (pc' := 12) h ⟨dZ_notes_11, rfl⟩ rfl ?_
      refine gi_sipush (pc' := 15) h ⟨dZ_notes_12, rfl⟩ rfl ?_
      refine gi_icmp_ge (tgt := 40) (pc' := 18) h dZ_notes_15 rfl rfl (by omega) (fun c15 => ?_) (fun c15 => ?_)
      · refine go_aload_n (pc' := 41) h ⟨dZ_notes_40, rfl⟩ rfl ?_
        refine gi_bipush (pc' := 43) h ⟨dZ_notes_41, rfl⟩ rfl ?_
        refine gd_putI (i := 19) (pc' := 46) h ⟨dZ_notes_43, rfl⟩ fpZ_133 rfl (by decide) rfl rfl ?_
        refine Go.cut [.ref 88] 1 rfl ?_
        rw [show j = 1908 by omega, show pt (sft S 98 212 1908) 88 19 9 = zN1 S from by unfold zN1; rw [if_pos g8]]
        refine gi_iconst (pc' := 47) h ⟨dZ_notes_46, rfl⟩ ?_
        refine go_istore_n (L' := [.ref 88, .int (iI (0))]) (pc' := 48) h ⟨dZ_notes_47, rfl⟩ (by decide) rfl rfl ?_
        have h0 := l2 213 0 (by omega) (by omega) (by omega)
        rw [cpy_0] at h0
        exact h0
      · refine go_aload_n (pc' := 19) h ⟨dZ_notes_18, rfl⟩ rfl ?_
        refine gs_get (v := .ref 98) (pc' := 22) h ⟨dZ_notes_19, rfl⟩ fgZ_38 rfl (by decide) (rfl) ?_
        refine go_iload_n (pc' := 23) h ⟨dZ_notes_22, rfl⟩ rfl ?_
        refine go_aload_n (pc' := 24) h ⟨dZ_notes_23, rfl⟩ rfl ?_
        refine gs_get (v := .ref 98) (pc' := 27) h ⟨dZ_notes_24, rfl⟩ fgZ_38 rfl (by decide) (rfl) ?_
        refine go_iload_n (pc' := 28) h ⟨dZ_notes_27, rfl⟩ rfl ?_
        refine gi_sipush (pc' := 31) h ⟨dZ_notes_28, rfl⟩ rfl ?_
        refine gi_iadd (pc' := 32) h ⟨dZ_notes_31, rfl⟩ ?_
        refine gs_iald (pc' := 33) h ⟨dZ_notes_32, rfl⟩ rfl (by have hln : (ln 98 : Int) = 2120 := rfl; omega) ?_
        refine gs_iast (pc' := 34) h ⟨dZ_notes_33, rfl⟩ rfl (by have hln : (ln 98 : Int) = 2120 := rfl; omega) ?_
        refine gi_iinc (L' := [.ref 88, .int (iI (j + 1))]) (pc' := 37) h ⟨dZ_notes_34, rfl⟩ rfl (by decide) rfl rfl ?_
        refine gi_goto (tgt := 11) h dZ_notes_37 rfl ?_
        have g7 := ih (j + 1) (by omega) (by omega) (by omega) g8
        rw [← sft_s _ _ (by omega), Int.add_comm 212 j] at g7
        exact g7
  refine go_aload_n (pc' := 1) h ⟨dZ_notes_0, rfl⟩ rfl ?_
  refine gs_get (v := .int (iI (S.1 88 19))) (pc' := 4) h ⟨dZ_notes_1, rfl⟩ fgZ_133 rfl (by decide) (rfl) ?_
  refine gi_bipush (pc' := 6) h ⟨dZ_notes_4, rfl⟩ rfl ?_
  refine gi_icmp_ne (tgt := 46) (pc' := 9) h dZ_notes_6 rfl rfl (by omega) (fun c6 => ?_) (fun c6 => ?_)
  · rw [show S = zN1 S from by unfold zN1; rw [if_neg (by omega)]]
    refine gi_iconst (pc' := 47) h ⟨dZ_notes_46, rfl⟩ ?_
    refine go_istore_n (L' := [.ref 88, .int (iI (0))]) (pc' := 48) h ⟨dZ_notes_47, rfl⟩ (by decide) rfl rfl ?_
    have h0 := l2 213 0 (by omega) (by omega) (by omega)
    rw [cpy_0] at h0
    exact h0
  · refine gi_iconst (pc' := 10) h ⟨dZ_notes_9, rfl⟩ ?_
    refine go_istore_n (L' := [.ref 88, .int (iI (0))]) (pc' := 11) h ⟨dZ_notes_10, rfl⟩ (by decide) rfl rfl ?_
    have h0 := l1 1909 0 (by omega) (by omega) (by omega) (by omega)
    rw [sft_0] at h0
    exact h0
def wgF (g : Int → Int) (lo hi : Int) : Int → Int := fun k => if lo ≤ k ∧ k < hi then min 9999 (g k + 1) else g k
def wgS (U : Sg) (d lo j : Int) : Sg := aset U 95 (wgF (U.1 95) (12 + 100 * d + lo) (12 + 100 * d + j))
theorem wgS_0 (U : Sg) (d lo : Int) : wgS U d lo lo = U := by
  unfold wgS
  rw [show wgF (U.1 95) (12 + 100 * d + lo) (12 + 100 * d + lo) = U.1 95 from funext fun k => if_neg (by omega), aset_self]
theorem wgS_at (U : Sg) {d lo j : Int} : (wgS U d lo j).1 95 (12 + 100 * d + j) = U.1 95 (12 + 100 * d + j) := by
  unfold wgS
  rw [aset_eq]
  exact if_neg (by omega)
theorem wgS_s (U : Sg) {d lo j : Int} (h : lo ≤ j) : pt (wgS U d lo j) 95 (12 + 100 * d + j) (min 9999 (U.1 95 (12 + 100 * d + j) + 1)) = wgS U d lo (j + 1) := by
  unfold wgS
  rw [pt_aset, aset_eq, aset_aset]
  refine congrArg (aset U 95) (funext fun k => ?_)
  unfold uF wgF
  by_cases h1 : k = 12 + 100 * d + j
  · rw [if_pos h1, if_pos (by omega), h1]
  · rw [if_neg h1]
    by_cases h2 : 12 + 100 * d + lo ≤ k ∧ k < 12 + 100 * d + j
    · rw [if_pos h2, if_pos (by omega)]
    · rw [if_neg h2, if_neg (by omega)]
def zGoes (S : Sg) (x y : Int) : Int × Sg := if ¬ (0 ≤ x ∧ x < S.1 90 1) ∨ ¬ (0 ≤ y ∧ y ≤ tpZ S) then (-1, S) else if bitI (S.1 95 4) x = 1 ∨ S.1 95 x = y ∨ S.1 94 x < y then (-2, S) else if S.1 95 x < y then (y - S.1 95 x, pt (wgS (zNote S) 0 (S.1 95 x) y) 95 x y) else (S.1 95 x - y, pt (wgS (zNote S) 1 y (S.1 95 x)) 95 x y)
set_option maxRecDepth 4000 in
theorem cZ_goes (X : XT) {S : Sg} (hZ : ZI S) {x y : Int} (hx : -2147483648 ≤ x ∧ x ≤ 2147483647) (hy : -2147483648 ≤ y ∧ y ≤ 2147483647) : Ctr X 6 yZ_goes bZ_goes 9 (some .int) [.ref 88, .int (iI (x)), .int (iI (y))] (mk S) (PI (fun r S' => r = (zGoes S x y).1 ∧ S' = (zGoes S x y).2)) 0 0 := by
  refine Ctr.ofS (by decide) rfl (Nat.le_of_ble_eq_true rfl) (fun F h hF hE => ?_)
  obtain ⟨z0, zt, ztx, zm0, zm1, zm2, zm3, zst, ztr, zat, zsy, zth, ztg, zwr, zun, zkp, zse, zsk, zme, zmk, zl5, zl6, zl7⟩ := id hZ
  have hZS : ZS S := ⟨zm0, zst⟩
  have htp := tpZ_bd hZS
  have loop : ∀ (d lo hi : Int), (d = 0 ∨ d = 1) → 0 ≤ lo → hi ≤ 100 → 0 ≤ x ∧ x ≤ 3 → zGoes S x y = (hi - lo, pt (wgS (zNote S) d lo hi) 95 x y) → ∀ (n : Nat) (j : Int) (LL : List Value), LL.take 8 = [.ref 88, .int (iI x), .int (iI y), .int (iI (S.1 95 x)), .int (iI d), .int (iI lo), .int (iI hi), .int (iI j)] → hi < j + n → lo ≤ j → j ≤ hi → Go F 9 (mk (wgS (zNote S) d lo j)) 0 0 106 LL [] := by
    intro d lo hi hd h0 h1 hx3 hG n
    have e95 : (zNote S).1 95 = S.1 95 := zNote_ne S (by decide) (by decide)
    induction n with
    | zero => intro j LL hL g4 g5 g6; exfalso; omega
    | succ n ih =>
      intro j LL hL g4 g5 g6
      have hw := zwr (12 + 100 * d + j)
      have ew := wgS_at (zNote S) (d := d) (lo := lo) (j := j)
      rw [e95] at ew
      refine Go.cut [.ref 88, .int (iI x), .int (iI y), .int (iI (S.1 95 x)), .int (iI d), .int (iI lo), .int (iI hi), .int (iI j)] 8 hL ?_
      refine go_iload (pc' := 108) h ⟨dZ_goes_106, rfl⟩ rfl ?_
      refine go_iload (pc' := 110) h ⟨dZ_goes_108, rfl⟩ rfl ?_
      refine gi_icmp_ge (tgt := 167) (pc' := 113) h dZ_goes_110 rfl rfl (by omega) (fun c110 => ?_) (fun c110 => ?_)
      · refine go_aload_n (pc' := 168) h ⟨dZ_goes_167, rfl⟩ rfl ?_
        refine gs_get (v := .ref 95) (pc' := 171) h ⟨dZ_goes_168, rfl⟩ fgZ_28 rfl (by decide) (rfl) ?_
        refine gi_iconst (pc' := 172) h ⟨dZ_goes_171, rfl⟩ ?_
        refine go_iload_n (pc' := 173) h ⟨dZ_goes_172, rfl⟩ rfl ?_
        refine gi_iadd (pc' := 174) h ⟨dZ_goes_173, rfl⟩ ?_
        rw [show (0 : Int) + x = x from Int.zero_add x, show j = hi by omega]
        refine go_iload_n (pc' := 175) h ⟨dZ_goes_174, rfl⟩ rfl ?_
        refine gs_iast (pc' := 176) h ⟨dZ_goes_175, rfl⟩ rfl (by have hln : (ln 95 : Int) = 212 := rfl; omega) ?_
        refine go_iload (pc' := 178) h ⟨dZ_goes_176, rfl⟩ rfl ?_
        refine go_iload (pc' := 180) h ⟨dZ_goes_178, rfl⟩ rfl ?_
        refine gi_isub (pc' := 181) h ⟨dZ_goes_180, rfl⟩ ?_
        exact gs_iret h hE dZ_goes_181 (by rw [hG]; exact ⟨rfl, rfl⟩)
      · refine gi_bipush (pc' := 115) h ⟨dZ_goes_113, rfl⟩ rfl ?_
        refine gi_bipush (pc' := 117) h ⟨dZ_goes_115, rfl⟩ rfl ?_
        refine go_iload (pc' := 119) h ⟨dZ_goes_117, rfl⟩ rfl ?_
        refine gi_imul (pc' := 120) h ⟨dZ_goes_119, rfl⟩ ?_
        refine gi_iadd (pc' := 121) h ⟨dZ_goes_120, rfl⟩ ?_
        refine go_iload (pc' := 123) h ⟨dZ_goes_121, rfl⟩ rfl ?_
        refine gi_iadd (pc' := 124) h ⟨dZ_goes_123, rfl⟩ ?_
        refine go_istore (L' := [.ref 88, .int (iI (x)), .int (iI (y)), .int (iI (S.1 95 x)), .int (iI (d)), .int (iI (lo)), .int (iI (hi)), .int (iI (j)), .int (iI ((12 + (100 * d)) + j))]) (pc' := 126) h ⟨dZ_goes_124, rfl⟩ (by decide) rfl rfl ?_
        refine go_aload_n (pc' := 127) h ⟨dZ_goes_126, rfl⟩ rfl ?_
        refine gs_get (v := .ref 95) (pc' := 130) h ⟨dZ_goes_127, rfl⟩ fgZ_28 rfl (by decide) (rfl) ?_
        refine go_iload (pc' := 132) h ⟨dZ_goes_130, rfl⟩ rfl ?_
        refine go_aload_n (pc' := 133) h ⟨dZ_goes_132, rfl⟩ rfl ?_
        refine gs_get (v := .ref 95) (pc' := 136) h ⟨dZ_goes_133, rfl⟩ fgZ_28 rfl (by decide) (rfl) ?_
        refine go_iload (pc' := 138) h ⟨dZ_goes_136, rfl⟩ rfl ?_
        refine gs_iald (pc' := 139) h ⟨dZ_goes_138, rfl⟩ rfl (by have hln : (ln 95 : Int) = 212 := rfl; omega) ?_
        rw [ew]
        refine gi_sipush (pc' := 142) h ⟨dZ_goes_139, rfl⟩ rfl ?_
        refine gi_icmp_ge (tgt := 157) (pc' := 145) h dZ_goes_142 rfl rfl (by omega) (fun c142 => ?_) (fun c142 => ?_)
        · refine gi_sipush (pc' := 160) h ⟨dZ_goes_157, rfl⟩ rfl ?_
          refine gs_iast (pc' := 161) h ⟨dZ_goes_160, rfl⟩ rfl (by have hln : (ln 95 : Int) = 212 := rfl; omega) ?_
          refine gi_iinc (L' := [.ref 88, .int (iI (x)), .int (iI (y)), .int (iI (S.1 95 x)), .int (iI (d)), .int (iI (lo)), .int (iI (hi)), .int (iI (j + 1)), .int (iI ((12 + (100 * d)) + j))]) (pc' := 164) h ⟨dZ_goes_161, rfl⟩ rfl (by decide) rfl rfl ?_
          refine gi_goto (tgt := 106) h dZ_goes_164 rfl ?_
          have g7 := ih (j + 1) [.ref 88, .int (iI (x)), .int (iI (y)), .int (iI (S.1 95 x)), .int (iI (d)), .int (iI (lo)), .int (iI (hi)), .int (iI (j + 1)), .int (iI ((12 + (100 * d)) + j))] rfl (by omega) (by omega) (by omega)
          rw [← wgS_s _ g5, e95, show min 9999 (S.1 95 (12 + 100 * d + j) + 1) = 9999 by omega] at g7
          exact g7
        · refine go_aload_n (pc' := 146) h ⟨dZ_goes_145, rfl⟩ rfl ?_
          refine gs_get (v := .ref 95) (pc' := 149) h ⟨dZ_goes_146, rfl⟩ fgZ_28 rfl (by decide) (rfl) ?_
          refine go_iload (pc' := 151) h ⟨dZ_goes_149, rfl⟩ rfl ?_
          refine gs_iald (pc' := 152) h ⟨dZ_goes_151, rfl⟩ rfl (by have hln : (ln 95 : Int) = 212 := rfl; omega) ?_
          rw [ew]
          refine gi_iconst (pc' := 153) h ⟨dZ_goes_152, rfl⟩ ?_
          refine gi_iadd (pc' := 154) h ⟨dZ_goes_153, rfl⟩ ?_
          refine gi_goto (tgt := 160) h dZ_goes_154 rfl ?_
          refine gs_iast (pc' := 161) h ⟨dZ_goes_160, rfl⟩ rfl (by have hln : (ln 95 : Int) = 212 := rfl; omega) ?_
          refine gi_iinc (L' := [.ref 88, .int (iI (x)), .int (iI (y)), .int (iI (S.1 95 x)), .int (iI (d)), .int (iI (lo)), .int (iI (hi)), .int (iI (j + 1)), .int (iI ((12 + (100 * d)) + j))]) (pc' := 164) h ⟨dZ_goes_161, rfl⟩ rfl (by decide) rfl rfl ?_
          refine gi_goto (tgt := 106) h dZ_goes_164 rfl ?_
          have g7 := ih (j + 1) [.ref 88, .int (iI (x)), .int (iI (y)), .int (iI (S.1 95 x)), .int (iI (d)), .int (iI (lo)), .int (iI (hi)), .int (iI (j + 1)), .int (iI ((12 + (100 * d)) + j))] rfl (by omega) (by omega) (by omega)
          rw [← wgS_s _ g5, e95, show min 9999 (S.1 95 (12 + 100 * d + j) + 1) = (S.1 95 (12 + 100 * d + j)) + 1 by omega] at g7
          exact g7
  refine go_aload_n (pc' := 1) h ⟨dZ_goes_0, rfl⟩ rfl ?_
  refine gi_iconst (pc' := 2) h ⟨dZ_goes_1, rfl⟩ ?_
  refine gd_putI (i := 0) (pc' := 5) h ⟨dZ_goes_2, rfl⟩ fpZ_68 rfl (by decide) rfl rfl ?_
  rw [pt_z z0]
  refine go_aload_n (pc' := 6) h ⟨dZ_goes_5, rfl⟩ rfl ?_
  refine go_iload_n (pc' := 7) h ⟨dZ_goes_6, rfl⟩ rfl ?_
  refine gd_callVI (e := if 0 ≤ x ∧ x < S.1 90 1 then 1 else 0) (E := S) (pc' := 10) (As := [.int (iI (x))]) (st := []) h hF ⟨dZ_goes_7, rfl⟩ kvZ_143 (cZ_isTraveller X (by omega) (by omega)) (by omega) rfl (by decide) ⟨_, _, rfl⟩ rfl (Nat.le_of_ble_eq_true rfl) rfl ?_
  refine gi_if_eq (tgt := 25) (pc' := 13) h dZ_goes_10 rfl rfl (by split <;> omega) (fun c10 => ?_) (fun c10 => ?_)
  · have c10 := b0 c10
    refine gi_iconst (pc' := 26) h ⟨dZ_goes_25, rfl⟩ ?_
    exact gs_iret h hE dZ_goes_26 (by unfold zGoes; rw [if_pos (by omega)]; exact ⟨rfl, rfl⟩)
  · have c10 := b1 c10
    refine go_iload_n (pc' := 14) h ⟨dZ_goes_13, rfl⟩ rfl ?_
    refine gi_iconst (pc' := 15) h ⟨dZ_goes_14, rfl⟩ ?_
    refine go_aload_n (pc' := 16) h ⟨dZ_goes_15, rfl⟩ rfl ?_
    refine gd_callVI (e := tpZ S) (E := S) (pc' := 19) (As := []) (st := [.int (iI (0)), .int (iI (y))]) h hF ⟨dZ_goes_16, rfl⟩ kvZ_146 (cZ_top X zm0) (by omega) rfl (by decide) ⟨_, _, rfl⟩ rfl (Nat.le_of_ble_eq_true rfl) rfl ?_
    refine gd_callSI (e := if 0 ≤ y ∧ y ≤ tpZ S then 1 else 0) (E := S) (pc' := 22) (As := [.int (iI (y)), .int (iI (0)), .int (iI (tpZ S))]) (st := []) h hF ⟨dZ_goes_19, rfl⟩ kvZ_72 (cZ_in X (by omega)) (by omega) rfl (Nat.le_of_ble_eq_true rfl) rfl ?_
    refine gi_if_ne (tgt := 27) (pc' := 25) h dZ_goes_22 rfl rfl (by split <;> omega) (fun c22 => ?_) (fun c22 => ?_)
    · have c22 := b1 c22
      refine go_aload_n (pc' := 28) h ⟨dZ_goes_27, rfl⟩ rfl ?_
      refine gs_get (v := .ref 95) (pc' := 31) h ⟨dZ_goes_28, rfl⟩ fgZ_28 rfl (by decide) (rfl) ?_
      refine gi_iconst (pc' := 32) h ⟨dZ_goes_31, rfl⟩ ?_
      refine go_iload_n (pc' := 33) h ⟨dZ_goes_32, rfl⟩ rfl ?_
      refine gi_iadd (pc' := 34) h ⟨dZ_goes_33, rfl⟩ ?_
      rw [show (0 : Int) + x = x from Int.zero_add x]
      refine gs_iald (pc' := 35) h ⟨dZ_goes_34, rfl⟩ rfl (by have hln : (ln 95 : Int) = 212 := rfl; omega) ?_
      refine go_istore_n (L' := [.ref 88, .int (iI (x)), .int (iI (y)), .int (iI (S.1 95 x))]) (pc' := 36) h ⟨dZ_goes_35, rfl⟩ (by decide) rfl rfl ?_
      have hx1 := zat x (by omega) (by omega)
      have hx2 := ztr x (by omega) (by omega)
      refine go_aload_n (pc' := 37) h ⟨dZ_goes_36, rfl⟩ rfl ?_
      refine go_iload_n (pc' := 38) h ⟨dZ_goes_37, rfl⟩ rfl ?_
      refine gd_callVI (e := if bitI (S.1 95 4) x = 1 then 1 else 0) (E := S) (pc' := 41) (As := [.int (iI (x))]) (st := []) h hF ⟨dZ_goes_38, rfl⟩ kvZ_165 (cZ_isStaying X zsy (by omega)) (by omega) rfl (by decide) ⟨_, _, rfl⟩ rfl (Nat.le_of_ble_eq_true rfl) rfl ?_
      refine gi_if_ne (tgt := 59) (pc' := 44) h dZ_goes_41 rfl rfl (by split <;> omega) (fun c41 => ?_) (fun c41 => ?_)
      · have c41 := b1 c41
        refine gi_bipush (pc' := 61) h ⟨dZ_goes_59, rfl⟩ rfl ?_
        exact gs_iret h hE dZ_goes_61 (by unfold zGoes; rw [if_neg (by omega), if_pos (by omega)]; exact ⟨rfl, rfl⟩)
      · have c41 := b0 c41
        refine go_iload_n (pc' := 45) h ⟨dZ_goes_44, rfl⟩ rfl ?_
        refine go_iload_n (pc' := 46) h ⟨dZ_goes_45, rfl⟩ rfl ?_
        refine gi_icmp_eq (tgt := 59) (pc' := 49) h dZ_goes_46 rfl rfl (by omega) (fun c46 => ?_) (fun c46 => ?_)
        · refine gi_bipush (pc' := 61) h ⟨dZ_goes_59, rfl⟩ rfl ?_
          exact gs_iret h hE dZ_goes_61 (by unfold zGoes; rw [if_neg (by omega), if_pos (by omega)]; exact ⟨rfl, rfl⟩)
        · refine go_iload_n (pc' := 50) h ⟨dZ_goes_49, rfl⟩ rfl ?_
          refine go_aload_n (pc' := 51) h ⟨dZ_goes_50, rfl⟩ rfl ?_
          refine gs_get (v := .ref 94) (pc' := 54) h ⟨dZ_goes_51, rfl⟩ fgZ_25 rfl (by decide) (rfl) ?_
          refine go_iload_n (pc' := 55) h ⟨dZ_goes_54, rfl⟩ rfl ?_
          refine gs_iald (pc' := 56) h ⟨dZ_goes_55, rfl⟩ rfl (by have hln : (ln 94 : Int) = 8 := rfl; omega) ?_
          refine gi_icmp_le (tgt := 62) (pc' := 59) h dZ_goes_56 rfl rfl (by omega) (fun c56 => ?_) (fun c56 => ?_)
          · refine go_aload_n (pc' := 63) h ⟨dZ_goes_62, rfl⟩ rfl ?_
            refine gd_callVV (E := zNote S) (pc' := 66) (As := []) (st := []) h hF ⟨dZ_goes_63, rfl⟩ kvZ_168 (cZ_notes X (by omega)) (by omega) rfl (by decide) ⟨_, _, rfl⟩ rfl (Nat.le_of_ble_eq_true rfl) rfl ?_
            have e95 : (zNote S).1 95 = S.1 95 := zNote_ne S (by decide) (by decide)
            refine go_iload_n (pc' := 67) h ⟨dZ_goes_66, rfl⟩ rfl ?_
            refine go_iload_n (pc' := 68) h ⟨dZ_goes_67, rfl⟩ rfl ?_
            refine gi_icmp_le (tgt := 75) (pc' := 71) h dZ_goes_68 rfl rfl (by omega) (fun c68 => ?_) (fun c68 => ?_)
            · refine gi_iconst (pc' := 76) h ⟨dZ_goes_75, rfl⟩ ?_
              refine go_istore (L' := [.ref 88, .int (iI (x)), .int (iI (y)), .int (iI (S.1 95 x)), .int (iI (1))]) (pc' := 78) h ⟨dZ_goes_76, rfl⟩ (by decide) rfl rfl ?_
              refine go_iload (pc' := 80) h ⟨dZ_goes_78, rfl⟩ rfl ?_
              refine gi_if_ne (tgt := 87) (pc' := 83) h dZ_goes_80 rfl rfl (by omega) (fun c80 => ?_) (fun c80 => ?_)
              · refine go_iload_n (pc' := 88) h ⟨dZ_goes_87, rfl⟩ rfl ?_
                refine go_istore (L' := [.ref 88, .int (iI (x)), .int (iI (y)), .int (iI (S.1 95 x)), .int (iI (1)), .int (iI (y))]) (pc' := 90) h ⟨dZ_goes_88, rfl⟩ (by decide) rfl rfl ?_
                refine go_iload (pc' := 92) h ⟨dZ_goes_90, rfl⟩ rfl ?_
                refine gi_if_ne (tgt := 99) (pc' := 95) h dZ_goes_92 rfl rfl (by omega) (fun c92 => ?_) (fun c92 => ?_)
                · refine go_iload_n (pc' := 100) h ⟨dZ_goes_99, rfl⟩ rfl ?_
                  refine go_istore (L' := [.ref 88, .int (iI (x)), .int (iI (y)), .int (iI (S.1 95 x)), .int (iI (1)), .int (iI (y)), .int (iI (S.1 95 x))]) (pc' := 102) h ⟨dZ_goes_100, rfl⟩ (by decide) rfl rfl ?_
                  refine go_iload (pc' := 104) h ⟨dZ_goes_102, rfl⟩ rfl ?_
                  refine go_istore (L' := [.ref 88, .int (iI (x)), .int (iI (y)), .int (iI (S.1 95 x)), .int (iI (1)), .int (iI (y)), .int (iI (S.1 95 x)), .int (iI (y))]) (pc' := 106) h ⟨dZ_goes_104, rfl⟩ (by decide) rfl rfl ?_
                  have h0 := loop 1 y (S.1 95 x) (by omega) (by omega) (by omega) (by omega) (by unfold zGoes; rw [if_neg (by omega), if_neg (by omega), if_neg (by omega)]) 102 y [.ref 88, .int (iI (x)), .int (iI (y)), .int (iI (S.1 95 x)), .int (iI (1)), .int (iI (y)), .int (iI (S.1 95 x)), .int (iI (y))] rfl (by omega) (by omega) (by omega)
                  rw [wgS_0] at h0
                  exact h0
                · exact absurd c92 (by decide)
              · exact absurd c80 (by decide)
            · refine gi_iconst (pc' := 72) h ⟨dZ_goes_71, rfl⟩ ?_
              refine gi_goto (tgt := 76) h dZ_goes_72 rfl ?_
              refine go_istore (L' := [.ref 88, .int (iI (x)), .int (iI (y)), .int (iI (S.1 95 x)), .int (iI (0))]) (pc' := 78) h ⟨dZ_goes_76, rfl⟩ (by decide) rfl rfl ?_
              refine go_iload (pc' := 80) h ⟨dZ_goes_78, rfl⟩ rfl ?_
              refine gi_if_ne (tgt := 87) (pc' := 83) h dZ_goes_80 rfl rfl (by omega) (fun c80 => ?_) (fun c80 => ?_)
              · exact absurd c80 (by decide)
              · refine go_iload_n (pc' := 84) h ⟨dZ_goes_83, rfl⟩ rfl ?_
                refine gi_goto (tgt := 88) h dZ_goes_84 rfl ?_
                refine go_istore (L' := [.ref 88, .int (iI (x)), .int (iI (y)), .int (iI (S.1 95 x)), .int (iI (0)), .int (iI (S.1 95 x))]) (pc' := 90) h ⟨dZ_goes_88, rfl⟩ (by decide) rfl rfl ?_
                refine go_iload (pc' := 92) h ⟨dZ_goes_90, rfl⟩ rfl ?_
                refine gi_if_ne (tgt := 99) (pc' := 95) h dZ_goes_92 rfl rfl (by omega) (fun c92 => ?_) (fun c92 => ?_)
                · exact absurd c92 (by decide)
                · refine go_iload_n (pc' := 96) h ⟨dZ_goes_95, rfl⟩ rfl ?_
                  refine gi_goto (tgt := 100) h dZ_goes_96 rfl ?_
                  refine go_istore (L' := [.ref 88, .int (iI (x)), .int (iI (y)), .int (iI (S.1 95 x)), .int (iI (0)), .int (iI (S.1 95 x)), .int (iI (y))]) (pc' := 102) h ⟨dZ_goes_100, rfl⟩ (by decide) rfl rfl ?_
                  refine go_iload (pc' := 104) h ⟨dZ_goes_102, rfl⟩ rfl ?_
                  refine go_istore (L' := [.ref 88, .int (iI (x)), .int (iI (y)), .int (iI (S.1 95 x)), .int (iI (0)), .int (iI (S.1 95 x)), .int (iI (y)), .int (iI (S.1 95 x))]) (pc' := 106) h ⟨dZ_goes_104, rfl⟩ (by decide) rfl rfl ?_
                  have h0 := loop 0 (S.1 95 x) y (by omega) (by omega) (by omega) (by omega) (by unfold zGoes; rw [if_neg (by omega), if_neg (by omega), if_pos (by omega)]) 102 (S.1 95 x) [.ref 88, .int (iI (x)), .int (iI (y)), .int (iI (S.1 95 x)), .int (iI (0)), .int (iI (S.1 95 x)), .int (iI (y)), .int (iI (S.1 95 x))] rfl (by omega) (by omega) (by omega)
                  rw [wgS_0] at h0
                  exact h0
          · refine gi_bipush (pc' := 61) h ⟨dZ_goes_59, rfl⟩ rfl ?_
            exact gs_iret h hE dZ_goes_61 (by unfold zGoes; rw [if_neg (by omega), if_pos (by omega)]; exact ⟨rfl, rfl⟩)
    · have c22 := b0 c22
      refine gi_iconst (pc' := 26) h ⟨dZ_goes_25, rfl⟩ ?_
      exact gs_iret h hE dZ_goes_26 (by unfold zGoes; rw [if_pos (by omega)]; exact ⟨rfl, rfl⟩)
def zStays (S : Sg) (x : Int) : Int × Sg := if ¬ (0 ≤ x ∧ x < S.1 90 1) then (-1, S) else if bitI (S.1 95 4) x = 1 then (-2, S) else (onesI (S.1 95 4 + 2 ^ x.toNat), pt (zNote S) 95 4 (S.1 95 4 + 2 ^ x.toNat))
def zLoses (S : Sg) (x : Int) : Int × Sg := if ¬ (0 ≤ x ∧ x < S.1 90 1) then (-1, S) else if S.1 95 5 = 6 then (-3, S) else (S.1 95 5 + 1, pt (pt (zNote S) 95 (6 + S.1 95 5) (S.1 95 x)) 95 5 (S.1 95 5 + 1))
set_option maxRecDepth 4000 in
theorem cZ_stays (X : XT) {S : Sg} (hZ : ZI S) {x : Int} (hx : -2147483648 ≤ x ∧ x ≤ 2147483647) : Ctr X 6 yZ_stays bZ_stays 2 (some .int) [.ref 88, .int (iI (x))] (mk S) (PI (fun r S' => r = (zStays S x).1 ∧ S' = (zStays S x).2)) 0 0 := by
  refine Ctr.ofS (by decide) rfl (Nat.le_of_ble_eq_true rfl) (fun F h hF hE => ?_)
  obtain ⟨z0, zt, ztx, zm0, zm1, zm2, zm3, zst, ztr, zat, zsy, zth, ztg, zwr, zun, zkp, zse, zsk, zme, zmk, zl5, zl6, zl7⟩ := id hZ
  refine go_aload_n (pc' := 1) h ⟨dZ_stays_0, rfl⟩ rfl ?_
  refine gi_iconst (pc' := 2) h ⟨dZ_stays_1, rfl⟩ ?_
  refine gd_putI (i := 0) (pc' := 5) h ⟨dZ_stays_2, rfl⟩ fpZ_68 rfl (by decide) rfl rfl ?_
  rw [pt_z z0]
  refine go_aload_n (pc' := 6) h ⟨dZ_stays_5, rfl⟩ rfl ?_
  refine go_iload_n (pc' := 7) h ⟨dZ_stays_6, rfl⟩ rfl ?_
  refine gd_callVI (e := if 0 ≤ x ∧ x < S.1 90 1 then 1 else 0) (E := S) (pc' := 10) (As := [.int (iI (x))]) (st := []) h hF ⟨dZ_stays_7, rfl⟩ kvZ_143 (cZ_isTraveller X (by omega) (by omega)) (by omega) rfl (by decide) ⟨_, _, rfl⟩ rfl (Nat.le_of_ble_eq_true rfl) rfl ?_
  refine gi_if_ne (tgt := 15) (pc' := 13) h dZ_stays_10 rfl rfl (by split <;> omega) (fun c10 => ?_) (fun c10 => ?_)
  · have c10 := b1 c10
    refine go_aload_n (pc' := 16) h ⟨dZ_stays_15, rfl⟩ rfl ?_
    refine go_iload_n (pc' := 17) h ⟨dZ_stays_16, rfl⟩ rfl ?_
    refine gd_callVI (e := if bitI (S.1 95 4) x = 1 then 1 else 0) (E := S) (pc' := 20) (As := [.int (iI (x))]) (st := []) h hF ⟨dZ_stays_17, rfl⟩ kvZ_165 (cZ_isStaying X zsy (by omega)) (by omega) rfl (by decide) ⟨_, _, rfl⟩ rfl (Nat.le_of_ble_eq_true rfl) rfl ?_
    refine gi_if_eq (tgt := 26) (pc' := 23) h dZ_stays_20 rfl rfl (by split <;> omega) (fun c20 => ?_) (fun c20 => ?_)
    · have c20 := b0 c20
      have b1 := bitI_01 (S.1 95 4) x
      have b2 : bitI (S.1 95 4) x = 0 := by omega
      have o1 := or1 zsy (k := x) (by omega) b2
      refine go_aload_n (pc' := 27) h ⟨dZ_stays_26, rfl⟩ rfl ?_
      refine gd_callVV (E := zNote S) (pc' := 30) (As := []) (st := []) h hF ⟨dZ_stays_27, rfl⟩ kvZ_168 (cZ_notes X (by omega)) (by omega) rfl (by decide) ⟨_, _, rfl⟩ rfl (Nat.le_of_ble_eq_true rfl) rfl ?_
      have e95 : (zNote S).1 95 = S.1 95 := zNote_ne S (by decide) (by decide)
      refine go_aload_n (pc' := 31) h ⟨dZ_stays_30, rfl⟩ rfl ?_
      refine gs_get (v := .ref 95) (pc' := 34) h ⟨dZ_stays_31, rfl⟩ fgZ_28 rfl (by decide) (rfl) ?_
      refine gi_iconst (pc' := 35) h ⟨dZ_stays_34, rfl⟩ ?_
      refine go_dup2 (pc' := 36) h ⟨dZ_stays_35, rfl⟩ rfl rfl ?_
      refine gs_iald (pc' := 37) h ⟨dZ_stays_36, rfl⟩ rfl (by have hln : (ln 95 : Int) = 212 := rfl; omega) ?_
      rw [e95]
      refine gi_iconst (pc' := 38) h ⟨dZ_stays_37, rfl⟩ ?_
      refine go_iload_n (pc' := 39) h ⟨dZ_stays_38, rfl⟩ rfl ?_
      refine gi_ishl (c := 2 ^ x.toNat) (pc' := 40) h ⟨dZ_stays_39, rfl⟩ (shl1 (by omega)) ?_
      refine gi_ior (c := S.1 95 4 + 2 ^ x.toNat) (pc' := 41) h ⟨dZ_stays_40, rfl⟩ (o1.1) ?_
      refine gs_iast (pc' := 42) h ⟨dZ_stays_41, rfl⟩ rfl (by have hln : (ln 95 : Int) = 212 := rfl; omega) ?_
      refine go_aload_n (pc' := 43) h ⟨dZ_stays_42, rfl⟩ rfl ?_
      refine gs_get (v := .ref 95) (pc' := 46) h ⟨dZ_stays_43, rfl⟩ fgZ_28 rfl (by decide) (rfl) ?_
      refine gi_iconst (pc' := 47) h ⟨dZ_stays_46, rfl⟩ ?_
      refine gs_iald (pc' := 48) h ⟨dZ_stays_47, rfl⟩ rfl (by have hln : (ln 95 : Int) = 212 := rfl; omega) ?_
      refine gd_callSI (e := onesI (S.1 95 4 + 2 ^ x.toNat)) (E := pt (zNote S) 95 4 (S.1 95 4 + 2 ^ x.toNat)) (pc' := 51) (As := [.int (iI (S.1 95 4 + 2 ^ x.toNat))]) (st := []) h hF ⟨dZ_stays_48, rfl⟩ kvZ_153 (cZ_ones X (by have := (pow2le (k := x) (by omega)).1; have := o1.2; omega)) (by omega) rfl (Nat.le_of_ble_eq_true rfl) rfl ?_
      exact gs_iret h hE dZ_stays_51 (by unfold zStays; rw [if_neg (by omega), if_neg (by omega)]; exact ⟨rfl, rfl⟩)
    · have c20 := b1 c20
      refine gi_bipush (pc' := 25) h ⟨dZ_stays_23, rfl⟩ rfl ?_
      exact gs_iret h hE dZ_stays_25 (by unfold zStays; rw [if_neg (by omega), if_pos (by omega)]; exact ⟨rfl, rfl⟩)
  · have c10 := b0 c10
    refine gi_iconst (pc' := 14) h ⟨dZ_stays_13, rfl⟩ ?_
    exact gs_iret h hE dZ_stays_14 (by unfold zStays; rw [if_pos (by omega)]; exact ⟨rfl, rfl⟩)
set_option maxRecDepth 4000 in
theorem cZ_loses (X : XT) {S : Sg} (hZ : ZI S) {x : Int} (hx : -2147483648 ≤ x ∧ x ≤ 2147483647) : Ctr X 6 yZ_loses bZ_loses 2 (some .int) [.ref 88, .int (iI (x))] (mk S) (PI (fun r S' => r = (zLoses S x).1 ∧ S' = (zLoses S x).2)) 0 0 := by
  refine Ctr.ofS (by decide) rfl (Nat.le_of_ble_eq_true rfl) (fun F h hF hE => ?_)
  obtain ⟨z0, zt, ztx, zm0, zm1, zm2, zm3, zst, ztr, zat, zsy, zth, ztg, zwr, zun, zkp, zse, zsk, zme, zmk, zl5, zl6, zl7⟩ := id hZ
  refine go_aload_n (pc' := 1) h ⟨dZ_loses_0, rfl⟩ rfl ?_
  refine gi_iconst (pc' := 2) h ⟨dZ_loses_1, rfl⟩ ?_
  refine gd_putI (i := 0) (pc' := 5) h ⟨dZ_loses_2, rfl⟩ fpZ_68 rfl (by decide) rfl rfl ?_
  rw [pt_z z0]
  refine go_aload_n (pc' := 6) h ⟨dZ_loses_5, rfl⟩ rfl ?_
  refine go_iload_n (pc' := 7) h ⟨dZ_loses_6, rfl⟩ rfl ?_
  refine gd_callVI (e := if 0 ≤ x ∧ x < S.1 90 1 then 1 else 0) (E := S) (pc' := 10) (As := [.int (iI (x))]) (st := []) h hF ⟨dZ_loses_7, rfl⟩ kvZ_143 (cZ_isTraveller X (by omega) (by omega)) (by omega) rfl (by decide) ⟨_, _, rfl⟩ rfl (Nat.le_of_ble_eq_true rfl) rfl ?_
  refine gi_if_ne (tgt := 15) (pc' := 13) h dZ_loses_10 rfl rfl (by split <;> omega) (fun c10 => ?_) (fun c10 => ?_)
  · have c10 := b1 c10
    refine go_aload_n (pc' := 16) h ⟨dZ_loses_15, rfl⟩ rfl ?_
    refine gs_get (v := .ref 95) (pc' := 19) h ⟨dZ_loses_16, rfl⟩ fgZ_28 rfl (by decide) (rfl) ?_
    refine gi_iconst (pc' := 20) h ⟨dZ_loses_19, rfl⟩ ?_
    refine gs_iald (pc' := 21) h ⟨dZ_loses_20, rfl⟩ rfl (by have hln : (ln 95 : Int) = 212 := rfl; omega) ?_
    refine gi_bipush (pc' := 23) h ⟨dZ_loses_21, rfl⟩ rfl ?_
    refine gi_icmp_ne (tgt := 29) (pc' := 26) h dZ_loses_23 rfl rfl (by omega) (fun c23 => ?_) (fun c23 => ?_)
    · refine go_aload_n (pc' := 30) h ⟨dZ_loses_29, rfl⟩ rfl ?_
      refine gd_callVV (E := zNote S) (pc' := 33) (As := []) (st := []) h hF ⟨dZ_loses_30, rfl⟩ kvZ_168 (cZ_notes X (by omega)) (by omega) rfl (by decide) ⟨_, _, rfl⟩ rfl (Nat.le_of_ble_eq_true rfl) rfl ?_
      have e95 : (zNote S).1 95 = S.1 95 := zNote_ne S (by decide) (by decide)
      refine go_aload_n (pc' := 34) h ⟨dZ_loses_33, rfl⟩ rfl ?_
      refine gs_get (v := .ref 95) (pc' := 37) h ⟨dZ_loses_34, rfl⟩ fgZ_28 rfl (by decide) (rfl) ?_
      refine gi_bipush (pc' := 39) h ⟨dZ_loses_37, rfl⟩ rfl ?_
      refine go_aload_n (pc' := 40) h ⟨dZ_loses_39, rfl⟩ rfl ?_
      refine gs_get (v := .ref 95) (pc' := 43) h ⟨dZ_loses_40, rfl⟩ fgZ_28 rfl (by decide) (rfl) ?_
      refine gi_iconst (pc' := 44) h ⟨dZ_loses_43, rfl⟩ ?_
      refine gs_iald (pc' := 45) h ⟨dZ_loses_44, rfl⟩ rfl (by have hln : (ln 95 : Int) = 212 := rfl; omega) ?_
      rw [e95]
      refine gi_iadd (pc' := 46) h ⟨dZ_loses_45, rfl⟩ ?_
      refine go_aload_n (pc' := 47) h ⟨dZ_loses_46, rfl⟩ rfl ?_
      refine gs_get (v := .ref 95) (pc' := 50) h ⟨dZ_loses_47, rfl⟩ fgZ_28 rfl (by decide) (rfl) ?_
      refine gi_iconst (pc' := 51) h ⟨dZ_loses_50, rfl⟩ ?_
      refine go_iload_n (pc' := 52) h ⟨dZ_loses_51, rfl⟩ rfl ?_
      refine gi_iadd (pc' := 53) h ⟨dZ_loses_52, rfl⟩ ?_
      refine gs_iald (pc' := 54) h ⟨dZ_loses_53, rfl⟩ rfl (by have hln : (ln 95 : Int) = 212 := rfl; omega) ?_
      rw [e95, show (0 : Int) + x = x from Int.zero_add x]
      refine gs_iast (pc' := 55) h ⟨dZ_loses_54, rfl⟩ rfl (by have hln : (ln 95 : Int) = 212 := rfl; omega) ?_
      refine go_aload_n (pc' := 56) h ⟨dZ_loses_55, rfl⟩ rfl ?_
      refine gs_get (v := .ref 95) (pc' := 59) h ⟨dZ_loses_56, rfl⟩ fgZ_28 rfl (by decide) (rfl) ?_
      refine gi_iconst (pc' := 60) h ⟨dZ_loses_59, rfl⟩ ?_
      refine go_dup2 (pc' := 61) h ⟨dZ_loses_60, rfl⟩ rfl rfl ?_
      refine gs_iald (pc' := 62) h ⟨dZ_loses_61, rfl⟩ rfl (by have hln : (ln 95 : Int) = 212 := rfl; omega) ?_
      rw [show (pt (zNote S) 95 (6 + S.1 95 5) (S.1 95 x)).1 95 5 = S.1 95 5 from by rw [pt_eq, uF_ne _ _ (by omega), e95]]
      refine gi_iconst (pc' := 63) h ⟨dZ_loses_62, rfl⟩ ?_
      refine gi_iadd (pc' := 64) h ⟨dZ_loses_63, rfl⟩ ?_
      refine gs_iast (pc' := 65) h ⟨dZ_loses_64, rfl⟩ rfl (by have hln : (ln 95 : Int) = 212 := rfl; omega) ?_
      refine go_aload_n (pc' := 66) h ⟨dZ_loses_65, rfl⟩ rfl ?_
      refine gs_get (v := .ref 95) (pc' := 69) h ⟨dZ_loses_66, rfl⟩ fgZ_28 rfl (by decide) (rfl) ?_
      refine gi_iconst (pc' := 70) h ⟨dZ_loses_69, rfl⟩ ?_
      refine gs_iald (pc' := 71) h ⟨dZ_loses_70, rfl⟩ rfl (by have hln : (ln 95 : Int) = 212 := rfl; omega) ?_
      exact gs_iret h hE dZ_loses_71 (by unfold zLoses; rw [if_neg (by omega), if_neg (by omega)]; exact ⟨rfl, rfl⟩)
    · refine gi_bipush (pc' := 28) h ⟨dZ_loses_26, rfl⟩ rfl ?_
      exact gs_iret h hE dZ_loses_28 (by unfold zLoses; rw [if_neg (by omega), if_pos (by omega)]; exact ⟨rfl, rfl⟩)
  · have c10 := b0 c10
    refine gi_iconst (pc' := 14) h ⟨dZ_loses_13, rfl⟩ ?_
    exact gs_iret h hE dZ_loses_14 (by unfold zLoses; rw [if_pos (by omega)]; exact ⟨rfl, rfl⟩)
def rmF (g : Int → Int) (i j : Int) : Int → Int := fun k => if 6 + i ≤ k ∧ k < 6 + j then g (k + 1) else g k
def rmS (U : Sg) (i j : Int) : Sg := aset U 95 (rmF (U.1 95) i j)
theorem rmS_0 (U : Sg) (i : Int) : rmS U i i = U := by
  unfold rmS
  rw [show rmF (U.1 95) i i = U.1 95 from funext fun k => if_neg (by omega), aset_self]
theorem rmS_s (U : Sg) {i j : Int} (h : i ≤ j) : pt (rmS U i j) 95 (6 + j) ((rmS U i j).1 95 (6 + j + 1)) = rmS U i (j + 1) := by
  unfold rmS
  rw [pt_aset, aset_eq, aset_aset]
  refine congrArg (aset U 95) (funext fun k => ?_)
  unfold uF rmF
  rw [if_neg (show ¬ (6 + i ≤ 6 + j + 1 ∧ 6 + j + 1 < 6 + j) by omega)]
  by_cases h1 : k = 6 + j
  · rw [if_pos h1, if_pos (by omega), h1]
  · rw [if_neg h1]
    by_cases h2 : 6 + i ≤ k ∧ k < 6 + j
    · rw [if_pos h2, if_pos (by omega)]
    · rw [if_neg h2, if_neg (by omega)]
theorem rmS_5 (U : Sg) {i j : Int} (h : 0 ≤ i) : (rmS U i j).1 95 5 = U.1 95 5 := by
  unfold rmS
  rw [aset_eq]
  exact if_neg (by omega)
def zPicks (S : Sg) (x r : Int) (S' : Sg) : Prop := (¬ (0 ≤ x ∧ x < S.1 90 1) ∧ r = -1 ∧ S' = S) ∨ ((0 ≤ x ∧ x < S.1 90 1) ∧ (bitI (S.1 95 4) x = 1 ∨ ∀ i : Int, 0 ≤ i → i < S.1 95 5 → S.1 95 (6 + i) ≠ S.1 95 x) ∧ r = -2 ∧ S' = S) ∨ ((0 ≤ x ∧ x < S.1 90 1) ∧ bitI (S.1 95 4) x ≠ 1 ∧ ∃ j : Int, (0 ≤ j ∧ j < S.1 95 5) ∧ S.1 95 (6 + j) = S.1 95 x ∧ (∀ i : Int, 0 ≤ i → i < j → S.1 95 (6 + i) ≠ S.1 95 x) ∧ r = S.1 95 5 - 1 ∧ S' = pt (rmS (zNote S) j 5) 95 5 (S.1 95 5 - 1))
set_option maxRecDepth 4000 in
theorem cZ_picks (X : XT) {S : Sg} (hZ : ZI S) {x : Int} (hx : -2147483648 ≤ x ∧ x ≤ 2147483647) : Ctr X 6 yZ_picks bZ_picks 4 (some .int) [.ref 88, .int (iI (x))] (mk S) (PI (fun r S' => zPicks S x r S')) 0 0 := by
  refine Ctr.ofS (by decide) rfl (Nat.le_of_ble_eq_true rfl) (fun F h hF hE => ?_)
  obtain ⟨z0, zt, ztx, zm0, zm1, zm2, zm3, zst, ztr, zat, zsy, zth, ztg, zwr, zun, zkp, zse, zsk, zme, zmk, zl5, zl6, zl7⟩ := id hZ
  have loop : ∀ i : Int, 0 ≤ i → i < S.1 95 5 → zPicks S x (S.1 95 5 - 1) (pt (rmS (zNote S) i 5) 95 5 (S.1 95 5 - 1)) → ∀ (n : Nat) (j : Int), 5 < j + n → i ≤ j → j ≤ 5 → Go F 4 (mk (rmS (zNote S) i j)) 0 0 51 [.ref 88, .int (iI x), .int (iI i), .int (iI j)] [] := by
    intro i h0 h1 hG n
    have e95 : (zNote S).1 95 = S.1 95 := zNote_ne S (by decide) (by decide)
    induction n with
    | zero => intro j g4 g5 g6; exfalso; omega
    | succ n ih =>
      intro j g4 g5 g6
      refine go_iload_n (pc' := 52) h ⟨dZ_picks_51, rfl⟩ rfl ?_
      refine gi_iconst (pc' := 53) h ⟨dZ_picks_52, rfl⟩ ?_
      refine gi_icmp_ge (tgt := 82) (pc' := 56) h dZ_picks_53 rfl rfl (by omega) (fun c53 => ?_) (fun c53 => ?_)
      · refine go_aload_n (pc' := 83) h ⟨dZ_picks_82, rfl⟩ rfl ?_
        refine gs_get (v := .ref 95) (pc' := 86) h ⟨dZ_picks_83, rfl⟩ fgZ_28 rfl (by decide) (rfl) ?_
        refine gi_iconst (pc' := 87) h ⟨dZ_picks_86, rfl⟩ ?_
        refine go_dup2 (pc' := 88) h ⟨dZ_picks_87, rfl⟩ rfl rfl ?_
        refine gs_iald (pc' := 89) h ⟨dZ_picks_88, rfl⟩ rfl (by have hln : (ln 95 : Int) = 212 := rfl; omega) ?_
        rw [show (rmS (zNote S) i j).1 95 5 = S.1 95 5 from by rw [rmS_5 _ h0, e95]]
        refine gi_iconst (pc' := 90) h ⟨dZ_picks_89, rfl⟩ ?_
        refine gi_isub (pc' := 91) h ⟨dZ_picks_90, rfl⟩ ?_
        refine gs_iast (pc' := 92) h ⟨dZ_picks_91, rfl⟩ rfl (by have hln : (ln 95 : Int) = 212 := rfl; omega) ?_
        refine go_aload_n (pc' := 93) h ⟨dZ_picks_92, rfl⟩ rfl ?_
        refine gs_get (v := .ref 95) (pc' := 96) h ⟨dZ_picks_93, rfl⟩ fgZ_28 rfl (by decide) (rfl) ?_
        refine gi_iconst (pc' := 97) h ⟨dZ_picks_96, rfl⟩ ?_
        refine gs_iald (pc' := 98) h ⟨dZ_picks_97, rfl⟩ rfl (by have hln : (ln 95 : Int) = 212 := rfl; omega) ?_
        exact gs_iret h hE dZ_picks_98 (by rw [show j = 5 by omega]; exact hG)
      · refine go_aload_n (pc' := 57) h ⟨dZ_picks_56, rfl⟩ rfl ?_
        refine gs_get (v := .ref 95) (pc' := 60) h ⟨dZ_picks_57, rfl⟩ fgZ_28 rfl (by decide) (rfl) ?_
        refine gi_bipush (pc' := 62) h ⟨dZ_picks_60, rfl⟩ rfl ?_
        refine go_iload_n (pc' := 63) h ⟨dZ_picks_62, rfl⟩ rfl ?_
        refine gi_iadd (pc' := 64) h ⟨dZ_picks_63, rfl⟩ ?_
        refine go_aload_n (pc' := 65) h ⟨dZ_picks_64, rfl⟩ rfl ?_
        refine gs_get (v := .ref 95) (pc' := 68) h ⟨dZ_picks_65, rfl⟩ fgZ_28 rfl (by decide) (rfl) ?_
        refine gi_bipush (pc' := 70) h ⟨dZ_picks_68, rfl⟩ rfl ?_
        refine go_iload_n (pc' := 71) h ⟨dZ_picks_70, rfl⟩ rfl ?_
        refine gi_iadd (pc' := 72) h ⟨dZ_picks_71, rfl⟩ ?_
        refine gi_iconst (pc' := 73) h ⟨dZ_picks_72, rfl⟩ ?_
        refine gi_iadd (pc' := 74) h ⟨dZ_picks_73, rfl⟩ ?_
        refine gs_iald (pc' := 75) h ⟨dZ_picks_74, rfl⟩ rfl (by have hln : (ln 95 : Int) = 212 := rfl; omega) ?_
        refine gs_iast (pc' := 76) h ⟨dZ_picks_75, rfl⟩ rfl (by have hln : (ln 95 : Int) = 212 := rfl; omega) ?_
        refine gi_iinc (L' := [.ref 88, .int (iI (x)), .int (iI (i)), .int (iI (j + 1))]) (pc' := 79) h ⟨dZ_picks_76, rfl⟩ rfl (by decide) rfl rfl ?_
        refine gi_goto (tgt := 51) h dZ_picks_79 rfl ?_
        have g7 := ih (j + 1) (by omega) (by omega) (by omega)
        rw [← rmS_s _ g5] at g7
        exact g7
  refine go_aload_n (pc' := 1) h ⟨dZ_picks_0, rfl⟩ rfl ?_
  refine gi_iconst (pc' := 2) h ⟨dZ_picks_1, rfl⟩ ?_
  refine gd_putI (i := 0) (pc' := 5) h ⟨dZ_picks_2, rfl⟩ fpZ_68 rfl (by decide) rfl rfl ?_
  rw [pt_z z0]
  refine go_aload_n (pc' := 6) h ⟨dZ_picks_5, rfl⟩ rfl ?_
  refine go_iload_n (pc' := 7) h ⟨dZ_picks_6, rfl⟩ rfl ?_
  refine gd_callVI (e := if 0 ≤ x ∧ x < S.1 90 1 then 1 else 0) (E := S) (pc' := 10) (As := [.int (iI (x))]) (st := []) h hF ⟨dZ_picks_7, rfl⟩ kvZ_143 (cZ_isTraveller X (by omega) (by omega)) (by omega) rfl (by decide) ⟨_, _, rfl⟩ rfl (Nat.le_of_ble_eq_true rfl) rfl ?_
  refine gi_if_ne (tgt := 15) (pc' := 13) h dZ_picks_10 rfl rfl (by split <;> omega) (fun c10 => ?_) (fun c10 => ?_)
  · have c10 := b1 c10
    refine go_aload_n (pc' := 16) h ⟨dZ_picks_15, rfl⟩ rfl ?_
    refine go_aload_n (pc' := 17) h ⟨dZ_picks_16, rfl⟩ rfl ?_
    refine gs_get (v := .ref 95) (pc' := 20) h ⟨dZ_picks_17, rfl⟩ fgZ_28 rfl (by decide) (rfl) ?_
    refine gi_iconst (pc' := 21) h ⟨dZ_picks_20, rfl⟩ ?_
    refine go_iload_n (pc' := 22) h ⟨dZ_picks_21, rfl⟩ rfl ?_
    refine gi_iadd (pc' := 23) h ⟨dZ_picks_22, rfl⟩ ?_
    refine gs_iald (pc' := 24) h ⟨dZ_picks_23, rfl⟩ rfl (by have hln : (ln 95 : Int) = 212 := rfl; omega) ?_
    rw [show (0 : Int) + x = x from Int.zero_add x]
    refine gs_callVI (pc' := 27) (As := [.int (iI (S.1 95 x))]) (st := []) h hF ⟨dZ_picks_24, rfl⟩ kvZ_171 (cZ_oldest X (by have := zat x (by omega) (by omega); omega) zth ztg) (by omega) rfl (by decide) ⟨_, _, rfl⟩ rfl (Nat.le_of_ble_eq_true rfl) rfl (fun r24 S24 h24 => ?_)
    obtain ⟨e24, h24⟩ := h24
    have e24 := e24.symm
    subst e24
    refine go_istore_n (L' := [.ref 88, .int (iI (x)), .int (iI (r24))]) (pc' := 28) h ⟨dZ_picks_27, rfl⟩ (by decide) rfl rfl ?_
    refine go_aload_n (pc' := 29) h ⟨dZ_picks_28, rfl⟩ rfl ?_
    refine go_iload_n (pc' := 30) h ⟨dZ_picks_29, rfl⟩ rfl ?_
    refine gd_callVI (e := if bitI (S.1 95 4) x = 1 then 1 else 0) (E := S) (pc' := 33) (As := [.int (iI (x))]) (st := []) h hF ⟨dZ_picks_30, rfl⟩ kvZ_165 (cZ_isStaying X zsy (by omega)) (by omega) rfl (by decide) ⟨_, _, rfl⟩ rfl (Nat.le_of_ble_eq_true rfl) rfl ?_
    refine gi_if_ne (tgt := 42) (pc' := 36) h dZ_picks_33 rfl rfl (by split <;> omega) (fun c33 => ?_) (fun c33 => ?_)
    · have c33 := b1 c33
      refine gi_bipush (pc' := 44) h ⟨dZ_picks_42, rfl⟩ rfl ?_
      exact gs_iret h hE dZ_picks_44 (Or.inr (Or.inl ⟨by omega, by first | exact Or.inl (by omega) | exact h24.elim (fun g => Or.inr g.2) (fun g => absurd g.1 (by omega)), rfl, rfl⟩))
    · have c33 := b0 c33
      refine go_iload_n (pc' := 37) h ⟨dZ_picks_36, rfl⟩ rfl ?_
      have r1 : -9 ≤ r24 ∧ r24 ≤ 6 := by omega
      refine gi_bipush (pc' := 39) h ⟨dZ_picks_37, rfl⟩ rfl ?_
      refine gi_icmp_ne (tgt := 45) (pc' := 42) h dZ_picks_39 rfl rfl (by omega) (fun c39 => ?_) (fun c39 => ?_)
      · refine go_aload_n (pc' := 46) h ⟨dZ_picks_45, rfl⟩ rfl ?_
        refine gd_callVV (E := zNote S) (pc' := 49) (As := []) (st := []) h hF ⟨dZ_picks_46, rfl⟩ kvZ_168 (cZ_notes X (by omega)) (by omega) rfl (by decide) ⟨_, _, rfl⟩ rfl (Nat.le_of_ble_eq_true rfl) rfl ?_
        have e95 : (zNote S).1 95 = S.1 95 := zNote_ne S (by decide) (by decide)
        refine go_iload_n (pc' := 50) h ⟨dZ_picks_49, rfl⟩ rfl ?_
        refine go_istore_n (L' := [.ref 88, .int (iI (x)), .int (iI (r24)), .int (iI (r24))]) (pc' := 51) h ⟨dZ_picks_50, rfl⟩ (by decide) rfl rfl ?_
        refine h24.elim (fun g => absurd g.1 (by omega)) (fun g => ?_)
        have h0 := loop r24 g.1 g.2.1 (Or.inr (Or.inr ⟨by omega, by omega, r24, ⟨g.1, g.2.1⟩, g.2.2.1, g.2.2.2, rfl, rfl⟩)) 6 r24 (by omega) (by omega) (by omega)
        rw [rmS_0] at h0
        exact h0
      · refine gi_bipush (pc' := 44) h ⟨dZ_picks_42, rfl⟩ rfl ?_
        exact gs_iret h hE dZ_picks_44 (Or.inr (Or.inl ⟨by omega, by first | exact Or.inl (by omega) | exact h24.elim (fun g => Or.inr g.2) (fun g => absurd g.1 (by omega)), rfl, rfl⟩))
  · have c10 := b0 c10
    refine gi_iconst (pc' := 14) h ⟨dZ_picks_13, rfl⟩ ?_
    exact gs_iret h hE dZ_picks_14 (Or.inl ⟨by omega, rfl, rfl⟩)
def zUndo (S : Sg) : Int × Sg := if S.1 88 19 = 0 then (-2, S) else (S.1 88 19 - 1, cpw (pt S 88 19 (S.1 88 19 - 1)) 98 95 (212 * (S.1 88 19 - 1)) 212)
def zKeep (S : Sg) (x : Int) : Int × Sg := if x < 0 ∨ 1 < x then (-1, S) else (onesI (S.1 95 4), pt (cpy S 95 96 (212 * x) 212) 97 x 1)
def zBack (S : Sg) (x : Int) : Int × Sg := if x < 0 ∨ 1 < x then (-1, S) else if S.1 97 x = 0 then (-2, S) else (onesI ((cpw S 96 95 (212 * x) 212).1 95 4), pt (cpw S 96 95 (212 * x) 212) 88 19 0)
set_option maxRecDepth 4000 in
theorem cZ_undo (X : XT) {S : Sg} (hZ : ZI S) : Ctr X 6 yZ_undo bZ_undo 2 (some .int) [.ref 88] (mk S) (PI (fun r S' => r = (zUndo S).1 ∧ S' = (zUndo S).2)) 0 0 := by
  refine Ctr.ofS (by decide) rfl (Nat.le_of_ble_eq_true rfl) (fun F h hF hE => ?_)
  obtain ⟨z0, zt, ztx, zm0, zm1, zm2, zm3, zst, ztr, zat, zsy, zth, ztg, zwr, zun, zkp, zse, zsk, zme, zmk, zl5, zl6, zl7⟩ := id hZ
  have loop : S.1 88 19 ≠ 0 → ∀ (n : Nat) (j : Int), 212 < j + n → 0 ≤ j → j ≤ 212 → Go F 2 (mk (cpw (pt S 88 19 (S.1 88 19 - 1)) 98 95 (212 * (S.1 88 19 - 1)) j)) 0 0 27 [.ref 88, .int (iI j)] [] := by
    intro hn n
    induction n with
    | zero => intro j g4 g5 g6; exfalso; omega
    | succ n ih =>
      intro j g4 g5 g6
      refine go_iload_n (pc' := 28) h ⟨dZ_undo_27, rfl⟩ rfl ?_
      refine gi_sipush (pc' := 31) h ⟨dZ_undo_28, rfl⟩ rfl ?_
      refine gi_icmp_ge (tgt := 61) (pc' := 34) h dZ_undo_31 rfl rfl (by omega) (fun c31 => ?_) (fun c31 => ?_)
      · refine go_aload_n (pc' := 62) h ⟨dZ_undo_61, rfl⟩ rfl ?_
        refine gs_get (v := .int (iI (S.1 88 19 - 1))) (pc' := 65) h ⟨dZ_undo_62, rfl⟩ fgZ_133 rfl (by decide) (rfl) ?_
        exact gs_iret h hE dZ_undo_65 (by unfold zUndo; rw [if_neg hn, show j = 212 by omega]; exact ⟨rfl, rfl⟩)
      · refine go_aload_n (pc' := 35) h ⟨dZ_undo_34, rfl⟩ rfl ?_
        refine gs_get (v := .ref 95) (pc' := 38) h ⟨dZ_undo_35, rfl⟩ fgZ_28 rfl (by decide) (rfl) ?_
        refine go_iload_n (pc' := 39) h ⟨dZ_undo_38, rfl⟩ rfl ?_
        refine go_aload_n (pc' := 40) h ⟨dZ_undo_39, rfl⟩ rfl ?_
        refine gs_get (v := .ref 98) (pc' := 43) h ⟨dZ_undo_40, rfl⟩ fgZ_38 rfl (by decide) (rfl) ?_
        refine gi_sipush (pc' := 46) h ⟨dZ_undo_43, rfl⟩ rfl ?_
        refine go_aload_n (pc' := 47) h ⟨dZ_undo_46, rfl⟩ rfl ?_
        refine gs_get (v := .int (iI (S.1 88 19 - 1))) (pc' := 50) h ⟨dZ_undo_47, rfl⟩ fgZ_133 rfl (by decide) (rfl) ?_
        refine gi_imul (pc' := 51) h ⟨dZ_undo_50, rfl⟩ ?_
        refine go_iload_n (pc' := 52) h ⟨dZ_undo_51, rfl⟩ rfl ?_
        refine gi_iadd (pc' := 53) h ⟨dZ_undo_52, rfl⟩ ?_
        refine gs_iald (pc' := 54) h ⟨dZ_undo_53, rfl⟩ rfl (by have hln : (ln 98 : Int) = 2120 := rfl; omega) ?_
        refine gs_iast (pc' := 55) h ⟨dZ_undo_54, rfl⟩ rfl (by have hln : (ln 95 : Int) = 212 := rfl; omega) ?_
        refine gi_iinc (L' := [.ref 88, .int (iI (j + 1))]) (pc' := 58) h ⟨dZ_undo_55, rfl⟩ rfl (by decide) rfl rfl ?_
        refine gi_goto (tgt := 27) h dZ_undo_58 rfl ?_
        have g7 := ih (j + 1) (by omega) (by omega) (by omega)
        rw [← cpw_s _ (by decide) g5] at g7
        exact g7
  refine go_aload_n (pc' := 1) h ⟨dZ_undo_0, rfl⟩ rfl ?_
  refine gi_iconst (pc' := 2) h ⟨dZ_undo_1, rfl⟩ ?_
  refine gd_putI (i := 0) (pc' := 5) h ⟨dZ_undo_2, rfl⟩ fpZ_68 rfl (by decide) rfl rfl ?_
  rw [pt_z z0]
  refine go_aload_n (pc' := 6) h ⟨dZ_undo_5, rfl⟩ rfl ?_
  refine gs_get (v := .int (iI (S.1 88 19))) (pc' := 9) h ⟨dZ_undo_6, rfl⟩ fgZ_133 rfl (by decide) (rfl) ?_
  refine gi_if_ne (tgt := 15) (pc' := 12) h dZ_undo_9 rfl rfl (by omega) (fun c9 => ?_) (fun c9 => ?_)
  · refine go_aload_n (pc' := 16) h ⟨dZ_undo_15, rfl⟩ rfl ?_
    refine go_dup (pc' := 17) h ⟨dZ_undo_16, rfl⟩ rfl ?_
    refine gs_get (v := .int (iI (S.1 88 19))) (pc' := 20) h ⟨dZ_undo_17, rfl⟩ fgZ_133 rfl (by decide) (rfl) ?_
    refine gi_iconst (pc' := 21) h ⟨dZ_undo_20, rfl⟩ ?_
    refine gi_isub (pc' := 22) h ⟨dZ_undo_21, rfl⟩ ?_
    refine gd_putI (i := 19) (pc' := 25) h ⟨dZ_undo_22, rfl⟩ fpZ_133 rfl (by decide) rfl rfl ?_
    refine gi_iconst (pc' := 26) h ⟨dZ_undo_25, rfl⟩ ?_
    refine go_istore_n (L' := [.ref 88, .int (iI (0))]) (pc' := 27) h ⟨dZ_undo_26, rfl⟩ (by decide) rfl rfl ?_
    have h0 := loop (by omega) 213 0 (by omega) (by omega) (by omega)
    rw [cpw_0] at h0
    exact h0
  · refine gi_bipush (pc' := 14) h ⟨dZ_undo_12, rfl⟩ rfl ?_
    exact gs_iret h hE dZ_undo_14 (by unfold zUndo; rw [if_pos (by omega)]; exact ⟨rfl, rfl⟩)
set_option maxRecDepth 4000 in
theorem cZ_keep (X : XT) {S : Sg} (hZ : ZI S) {x : Int} (hx : -2147483648 ≤ x ∧ x ≤ 2147483647) : Ctr X 6 yZ_keep bZ_keep 3 (some .int) [.ref 88, .int (iI (x))] (mk S) (PI (fun r S' => r = (zKeep S x).1 ∧ S' = (zKeep S x).2)) 0 0 := by
  refine Ctr.ofS (by decide) rfl (Nat.le_of_ble_eq_true rfl) (fun F h hF hE => ?_)
  obtain ⟨z0, zt, ztx, zm0, zm1, zm2, zm3, zst, ztr, zat, zsy, zth, ztg, zwr, zun, zkp, zse, zsk, zme, zmk, zl5, zl6, zl7⟩ := id hZ
  have loop : 0 ≤ x ∧ x ≤ 1 → ∀ (n : Nat) (j : Int), 212 < j + n → 0 ≤ j → j ≤ 212 → Go F 3 (mk (cpy S 95 96 (212 * x) j)) 0 0 18 [.ref 88, .int (iI x), .int (iI j)] [] := by
    intro hn n
    induction n with
    | zero => intro j g4 g5 g6; exfalso; omega
    | succ n ih =>
      intro j g4 g5 g6
      refine go_iload_n (pc' := 19) h ⟨dZ_keep_18, rfl⟩ rfl ?_
      refine gi_sipush (pc' := 22) h ⟨dZ_keep_19, rfl⟩ rfl ?_
      refine gi_icmp_ge (tgt := 49) (pc' := 25) h dZ_keep_22 rfl rfl (by omega) (fun c22 => ?_) (fun c22 => ?_)
      · refine go_aload_n (pc' := 50) h ⟨dZ_keep_49, rfl⟩ rfl ?_
        refine gs_get (v := .ref 97) (pc' := 53) h ⟨dZ_keep_50, rfl⟩ fgZ_34 rfl (by decide) (rfl) ?_
        refine go_iload_n (pc' := 54) h ⟨dZ_keep_53, rfl⟩ rfl ?_
        refine gi_iconst (pc' := 55) h ⟨dZ_keep_54, rfl⟩ ?_
        refine gs_zast (pc' := 56) h ⟨dZ_keep_55, rfl⟩ rfl (by have hln : (ln 97 : Int) = 2 := rfl; omega) (by omega) ?_
        refine go_aload_n (pc' := 57) h ⟨dZ_keep_56, rfl⟩ rfl ?_
        refine gs_get (v := .ref 95) (pc' := 60) h ⟨dZ_keep_57, rfl⟩ fgZ_28 rfl (by decide) (rfl) ?_
        refine gi_iconst (pc' := 61) h ⟨dZ_keep_60, rfl⟩ ?_
        refine gs_iald (pc' := 62) h ⟨dZ_keep_61, rfl⟩ rfl (by have hln : (ln 95 : Int) = 212 := rfl; omega) ?_
        rw [show (pt (cpy S 95 96 (212 * x) j) 97 x 1).1 95 4 = S.1 95 4 from by rw [pt_ne _ _ _ (by decide), cpy_ne _ _ _ (by decide)]]
        refine gd_callSI (e := onesI (S.1 95 4)) (E := pt (cpy S 95 96 (212 * x) j) 97 x 1) (pc' := 65) (As := [.int (iI (S.1 95 4))]) (st := []) h hF ⟨dZ_keep_62, rfl⟩ kvZ_153 (cZ_ones X (by omega)) (by omega) rfl (Nat.le_of_ble_eq_true rfl) rfl ?_
        exact gs_iret h hE dZ_keep_65 (by unfold zKeep; rw [if_neg (by omega), show j = 212 by omega]; exact ⟨rfl, rfl⟩)
      · refine go_aload_n (pc' := 26) h ⟨dZ_keep_25, rfl⟩ rfl ?_
        refine gs_get (v := .ref 96) (pc' := 29) h ⟨dZ_keep_26, rfl⟩ fgZ_31 rfl (by decide) (rfl) ?_
        refine gi_sipush (pc' := 32) h ⟨dZ_keep_29, rfl⟩ rfl ?_
        refine go_iload_n (pc' := 33) h ⟨dZ_keep_32, rfl⟩ rfl ?_
        refine gi_imul (pc' := 34) h ⟨dZ_keep_33, rfl⟩ ?_
        refine go_iload_n (pc' := 35) h ⟨dZ_keep_34, rfl⟩ rfl ?_
        refine gi_iadd (pc' := 36) h ⟨dZ_keep_35, rfl⟩ ?_
        refine go_aload_n (pc' := 37) h ⟨dZ_keep_36, rfl⟩ rfl ?_
        refine gs_get (v := .ref 95) (pc' := 40) h ⟨dZ_keep_37, rfl⟩ fgZ_28 rfl (by decide) (rfl) ?_
        refine go_iload_n (pc' := 41) h ⟨dZ_keep_40, rfl⟩ rfl ?_
        refine gs_iald (pc' := 42) h ⟨dZ_keep_41, rfl⟩ rfl (by have hln : (ln 95 : Int) = 212 := rfl; omega) ?_
        refine gs_iast (pc' := 43) h ⟨dZ_keep_42, rfl⟩ rfl (by have hln : (ln 96 : Int) = 424 := rfl; omega) ?_
        refine gi_iinc (L' := [.ref 88, .int (iI (x)), .int (iI (j + 1))]) (pc' := 46) h ⟨dZ_keep_43, rfl⟩ rfl (by decide) rfl rfl ?_
        refine gi_goto (tgt := 18) h dZ_keep_46 rfl ?_
        have g7 := ih (j + 1) (by omega) (by omega) (by omega)
        rw [← cpy_s _ (by decide) g5] at g7
        exact g7
  refine go_aload_n (pc' := 1) h ⟨dZ_keep_0, rfl⟩ rfl ?_
  refine gi_iconst (pc' := 2) h ⟨dZ_keep_1, rfl⟩ ?_
  refine gd_putI (i := 0) (pc' := 5) h ⟨dZ_keep_2, rfl⟩ fpZ_68 rfl (by decide) rfl rfl ?_
  rw [pt_z z0]
  refine go_iload_n (pc' := 6) h ⟨dZ_keep_5, rfl⟩ rfl ?_
  refine gi_iconst (pc' := 7) h ⟨dZ_keep_6, rfl⟩ ?_
  refine gi_iconst (pc' := 8) h ⟨dZ_keep_7, rfl⟩ ?_
  refine gd_callSI (e := if 0 ≤ x ∧ x ≤ 1 then 1 else 0) (E := S) (pc' := 11) (As := [.int (iI (x)), .int (iI (0)), .int (iI (1))]) (st := []) h hF ⟨dZ_keep_8, rfl⟩ kvZ_72 (cZ_in X (by omega)) (by omega) rfl (Nat.le_of_ble_eq_true rfl) rfl ?_
  refine gi_if_ne (tgt := 16) (pc' := 14) h dZ_keep_11 rfl rfl (by split <;> omega) (fun c11 => ?_) (fun c11 => ?_)
  · have c11 := b1 c11
    refine gi_iconst (pc' := 17) h ⟨dZ_keep_16, rfl⟩ ?_
    refine go_istore_n (L' := [.ref 88, .int (iI (x)), .int (iI (0))]) (pc' := 18) h ⟨dZ_keep_17, rfl⟩ (by decide) rfl rfl ?_
    have h0 := loop (by omega) 213 0 (by omega) (by omega) (by omega)
    rw [cpy_0] at h0
    exact h0
  · have c11 := b0 c11
    refine gi_iconst (pc' := 15) h ⟨dZ_keep_14, rfl⟩ ?_
    exact gs_iret h hE dZ_keep_15 (by unfold zKeep; rw [if_pos (by omega)]; exact ⟨rfl, rfl⟩)
set_option maxRecDepth 4000 in
theorem cZ_back (X : XT) {S : Sg} (hZ : ZI S) {x : Int} (hx : -2147483648 ≤ x ∧ x ≤ 2147483647) (hk4 : 0 ≤ x ∧ x ≤ 1 → S.1 97 x = 1 → 0 ≤ S.1 96 (212 * x + 4) ∧ S.1 96 (212 * x + 4) ≤ 15) : Ctr X 6 yZ_back bZ_back 3 (some .int) [.ref 88, .int (iI (x))] (mk S) (PI (fun r S' => r = (zBack S x).1 ∧ S' = (zBack S x).2)) 0 0 := by
  refine Ctr.ofS (by decide) rfl (Nat.le_of_ble_eq_true rfl) (fun F h hF hE => ?_)
  obtain ⟨z0, zt, ztx, zm0, zm1, zm2, zm3, zst, ztr, zat, zsy, zth, ztg, zwr, zun, zkp, zse, zsk, zme, zmk, zl5, zl6, zl7⟩ := id hZ
  have loop : 0 ≤ x ∧ x ≤ 1 → S.1 97 x = 1 → ∀ (n : Nat) (j : Int), 212 < j + n → 0 ≤ j → j ≤ 212 → Go F 3 (mk (cpw S 96 95 (212 * x) j)) 0 0 30 [.ref 88, .int (iI x), .int (iI j)] [] := by
    intro hn hq n
    have h4 := hk4 hn hq
    have e4 : (cpw S 96 95 (212 * x) 212).1 95 4 = S.1 96 (212 * x + 4) := by
      unfold cpw
      rw [aset_eq]
      exact if_pos (by omega)
    induction n with
    | zero => intro j g4 g5 g6; exfalso; omega
    | succ n ih =>
      intro j g4 g5 g6
      refine go_iload_n (pc' := 31) h ⟨dZ_back_30, rfl⟩ rfl ?_
      refine gi_sipush (pc' := 34) h ⟨dZ_back_31, rfl⟩ rfl ?_
      refine gi_icmp_ge (tgt := 61) (pc' := 37) h dZ_back_34 rfl rfl (by omega) (fun c34 => ?_) (fun c34 => ?_)
      · rw [show j = 212 by omega]
        refine go_aload_n (pc' := 62) h ⟨dZ_back_61, rfl⟩ rfl ?_
        refine gi_iconst (pc' := 63) h ⟨dZ_back_62, rfl⟩ ?_
        refine gd_putI (i := 19) (pc' := 66) h ⟨dZ_back_63, rfl⟩ fpZ_133 rfl (by decide) rfl rfl ?_
        refine go_aload_n (pc' := 67) h ⟨dZ_back_66, rfl⟩ rfl ?_
        refine gs_get (v := .ref 95) (pc' := 70) h ⟨dZ_back_67, rfl⟩ fgZ_28 rfl (by decide) (rfl) ?_
        refine gi_iconst (pc' := 71) h ⟨dZ_back_70, rfl⟩ ?_
        refine gs_iald (pc' := 72) h ⟨dZ_back_71, rfl⟩ rfl (by have hln : (ln 95 : Int) = 212 := rfl; omega) ?_
        refine gd_callSI (e := onesI ((cpw S 96 95 (212 * x) 212).1 95 4)) (E := pt (cpw S 96 95 (212 * x) 212) 88 19 0) (pc' := 75) (As := [.int (iI ((cpw S 96 95 (212 * x) 212).1 95 4))]) (st := []) h hF ⟨dZ_back_72, rfl⟩ kvZ_153 (cZ_ones X (by show 0 ≤ (cpw S 96 95 (212 * x) 212).1 95 4 ∧ (cpw S 96 95 (212 * x) 212).1 95 4 ≤ 2147483647; omega)) (by omega) rfl (Nat.le_of_ble_eq_true rfl) rfl ?_
        exact gs_iret h hE dZ_back_75 (by unfold zBack; rw [if_neg (by omega), if_neg (by omega)]; exact ⟨rfl, rfl⟩)
      · refine go_aload_n (pc' := 38) h ⟨dZ_back_37, rfl⟩ rfl ?_
        refine gs_get (v := .ref 95) (pc' := 41) h ⟨dZ_back_38, rfl⟩ fgZ_28 rfl (by decide) (rfl) ?_
        refine go_iload_n (pc' := 42) h ⟨dZ_back_41, rfl⟩ rfl ?_
        refine go_aload_n (pc' := 43) h ⟨dZ_back_42, rfl⟩ rfl ?_
        refine gs_get (v := .ref 96) (pc' := 46) h ⟨dZ_back_43, rfl⟩ fgZ_31 rfl (by decide) (rfl) ?_
        refine gi_sipush (pc' := 49) h ⟨dZ_back_46, rfl⟩ rfl ?_
        refine go_iload_n (pc' := 50) h ⟨dZ_back_49, rfl⟩ rfl ?_
        refine gi_imul (pc' := 51) h ⟨dZ_back_50, rfl⟩ ?_
        refine go_iload_n (pc' := 52) h ⟨dZ_back_51, rfl⟩ rfl ?_
        refine gi_iadd (pc' := 53) h ⟨dZ_back_52, rfl⟩ ?_
        refine gs_iald (pc' := 54) h ⟨dZ_back_53, rfl⟩ rfl (by have hln : (ln 96 : Int) = 424 := rfl; omega) ?_
        refine gs_iast (pc' := 55) h ⟨dZ_back_54, rfl⟩ rfl (by have hln : (ln 95 : Int) = 212 := rfl; omega) ?_
        refine gi_iinc (L' := [.ref 88, .int (iI (x)), .int (iI (j + 1))]) (pc' := 58) h ⟨dZ_back_55, rfl⟩ rfl (by decide) rfl rfl ?_
        refine gi_goto (tgt := 30) h dZ_back_58 rfl ?_
        have g7 := ih (j + 1) (by omega) (by omega) (by omega)
        rw [← cpw_s _ (by decide) g5] at g7
        exact g7
  refine go_aload_n (pc' := 1) h ⟨dZ_back_0, rfl⟩ rfl ?_
  refine gi_iconst (pc' := 2) h ⟨dZ_back_1, rfl⟩ ?_
  refine gd_putI (i := 0) (pc' := 5) h ⟨dZ_back_2, rfl⟩ fpZ_68 rfl (by decide) rfl rfl ?_
  rw [pt_z z0]
  refine go_iload_n (pc' := 6) h ⟨dZ_back_5, rfl⟩ rfl ?_
  refine gi_iconst (pc' := 7) h ⟨dZ_back_6, rfl⟩ ?_
  refine gi_iconst (pc' := 8) h ⟨dZ_back_7, rfl⟩ ?_
  refine gd_callSI (e := if 0 ≤ x ∧ x ≤ 1 then 1 else 0) (E := S) (pc' := 11) (As := [.int (iI (x)), .int (iI (0)), .int (iI (1))]) (st := []) h hF ⟨dZ_back_8, rfl⟩ kvZ_72 (cZ_in X (by omega)) (by omega) rfl (Nat.le_of_ble_eq_true rfl) rfl ?_
  refine gi_if_ne (tgt := 16) (pc' := 14) h dZ_back_11 rfl rfl (by split <;> omega) (fun c11 => ?_) (fun c11 => ?_)
  · have c11 := b1 c11
    refine go_aload_n (pc' := 17) h ⟨dZ_back_16, rfl⟩ rfl ?_
    refine gs_get (v := .ref 97) (pc' := 20) h ⟨dZ_back_17, rfl⟩ fgZ_34 rfl (by decide) (rfl) ?_
    refine go_iload_n (pc' := 21) h ⟨dZ_back_20, rfl⟩ rfl ?_
    refine gs_zald (pc' := 22) h ⟨dZ_back_21, rfl⟩ rfl (by have hln : (ln 97 : Int) = 2 := rfl; omega) ?_
    have q1 := zkp x (by omega) (by omega)
    refine gi_if_ne (tgt := 28) (pc' := 25) h dZ_back_22 rfl rfl (by omega) (fun c22 => ?_) (fun c22 => ?_)
    · refine gi_iconst (pc' := 29) h ⟨dZ_back_28, rfl⟩ ?_
      refine go_istore_n (L' := [.ref 88, .int (iI (x)), .int (iI (0))]) (pc' := 30) h ⟨dZ_back_29, rfl⟩ (by decide) rfl rfl ?_
      have h0 := loop (by omega) (by omega) 213 0 (by omega) (by omega) (by omega)
      rw [cpw_0] at h0
      exact h0
    · refine gi_bipush (pc' := 27) h ⟨dZ_back_25, rfl⟩ rfl ?_
      exact gs_iret h hE dZ_back_27 (by unfold zBack; rw [if_neg (by omega), if_pos (by omega)]; exact ⟨rfl, rfl⟩)
  · have c11 := b0 c11
    refine gi_iconst (pc' := 15) h ⟨dZ_back_14, rfl⟩ ?_
    exact gs_iret h hE dZ_back_15 (by unfold zBack; rw [if_pos (by omega)]; exact ⟨rfl, rfl⟩)
