/-! what the reference does: windows copied -/
def cpy (S : Sg) (a b : Nat) (o j : Int) : Sg := aset S b (fun k => if o ≤ k ∧ k < o + j then S.1 a (k - o) else S.1 b k)
def cpw (S : Sg) (a b : Nat) (o j : Int) : Sg := aset S b (fun k => if 0 ≤ k ∧ k < j then S.1 a (o + k) else S.1 b k)
theorem cpy_0 (S : Sg) (a b : Nat) (o : Int) : cpy S a b o 0 = S := by
  unfold cpy
  rw [show (fun k => if o ≤ k ∧ k < o + 0 then S.1 a (k - o) else S.1 b k) = S.1 b from funext fun k => if_neg (by omega), aset_self]
theorem cpw_0 (S : Sg) (a b : Nat) (o : Int) : cpw S a b o 0 = S := by
  unfold cpw
  rw [show (fun k => if 0 ≤ k ∧ k < 0 then S.1 a (o + k) else S.1 b k) = S.1 b from funext fun k => if_neg (by omega), aset_self]
theorem cpy_ne (S : Sg) {a b c : Nat} (o j : Int) (h : c ≠ b) : (cpy S a b o j).1 c = S.1 c := aset_ne _ _ h
theorem cpw_ne (S : Sg) {a b c : Nat} (o j : Int) (h : c ≠ b) : (cpw S a b o j).1 c = S.1 c := aset_ne _ _ h
theorem cpy_s (S : Sg) {a b : Nat} (hab : a ≠ b) {o j : Int} (h : 0 ≤ j) : pt (cpy S a b o j) b (o + j) ((cpy S a b o j).1 a j) = cpy S a b o (j + 1) := by
  rw [cpy_ne _ _ _ hab]
  unfold cpy
  rw [pt_aset, aset_eq, aset_aset]
  refine congrArg (aset S b) (funext fun k => ?_)
  unfold uF
  by_cases h1 : k = o + j
  · rw [if_pos h1, if_pos (by omega), show k - o = j by omega]
  · rw [if_neg h1]
    dsimp only
    by_cases h2 : o ≤ k ∧ k < o + j
    · rw [if_pos h2, if_pos (by omega)]
    · rw [if_neg h2, if_neg (by omega)]
theorem cpw_s (S : Sg) {a b : Nat} (hab : a ≠ b) {o j : Int} (h : 0 ≤ j) : pt (cpw S a b o j) b j ((cpw S a b o j).1 a (o + j)) = cpw S a b o (j + 1) := by
  rw [cpw_ne _ _ _ hab]
  unfold cpw
  rw [pt_aset, aset_eq, aset_aset]
  refine congrArg (aset S b) (funext fun k => ?_)
  unfold uF
  by_cases h1 : k = j
  · rw [if_pos h1, if_pos (by omega), h1]
  · rw [if_neg h1]
    dsimp only
    by_cases h2 : 0 ≤ k ∧ k < j
    · rw [if_pos h2, if_pos (by omega)]
    · rw [if_neg h2, if_neg (by omega)]
set_option maxRecDepth 4000 in
theorem cZ_oldest (X : XT) {S : Sg} {x : Int} (hx : 0 ≤ x ∧ x ≤ 1000) (hth : 0 ≤ S.1 95 5 ∧ S.1 95 5 ≤ 6) (htg : ∀ i : Int, 6 ≤ i → i < 6 + S.1 95 5 → 0 ≤ S.1 95 i ∧ S.1 95 i ≤ 100) : Ctr X 0 yZ_oldestAt bZ_oldestAt 4 (some .int) [.ref 88, .int (iI (x))] (mk S) (PI (fun r S' => S' = S ∧ ((r = -9 ∧ ∀ i : Int, 0 ≤ i → i < S.1 95 5 → S.1 95 (6 + i) ≠ x) ∨ (0 ≤ r ∧ r < S.1 95 5 ∧ S.1 95 (6 + r) = x ∧ ∀ i : Int, 0 ≤ i → i < r → S.1 95 (6 + i) ≠ x)))) 0 0 := by
  refine Ctr.ofS (by decide) rfl (Nat.le_of_ble_eq_true rfl) (fun F h hF hE => ?_)
  have loop : ∀ (n : Nat) (j c : Int), j + 1 < n → -1 ≤ j → j < S.1 95 5 → ((c = -9 ∧ ∀ i : Int, j < i → i < S.1 95 5 → S.1 95 (6 + i) ≠ x) ∨ (j < c ∧ c < S.1 95 5 ∧ S.1 95 (6 + c) = x ∧ ∀ i : Int, j < i → i < c → S.1 95 (6 + i) ≠ x)) → Go F 4 (mk S) 0 0 12 [.ref 88, .int (iI x), .int (iI c), .int (iI j)] [] := by
    intro n
    induction n with
    | zero => intro j c g4 g5 g6; exfalso; omega
    | succ n ih =>
      intro j c g4 g5 g6 g7
      refine go_iload_n (pc' := 13) h ⟨dZ_oldestAt_12, rfl⟩ rfl ?_
      refine gi_if_lt (tgt := 41) (pc' := 16) h dZ_oldestAt_13 rfl rfl (by omega) (fun c13 => ?_) (fun c13 => ?_)
      · refine go_iload_n (pc' := 42) h ⟨dZ_oldestAt_41, rfl⟩ rfl ?_
        exact gs_iret h hE dZ_oldestAt_42 (⟨rfl, g7.elim (fun g => Or.inl ⟨g.1, fun b b1 b2 => g.2 b (by omega) b2⟩) (fun g => Or.inr ⟨by omega, g.2.1, g.2.2.1, fun b b1 b2 => g.2.2.2 b (by omega) b2⟩)⟩)
      · have hj := htg (6 + j) (by omega) (by omega)
        refine go_aload_n (pc' := 17) h ⟨dZ_oldestAt_16, rfl⟩ rfl ?_
        refine gs_get (v := .ref 95) (pc' := 20) h ⟨dZ_oldestAt_17, rfl⟩ fgZ_28 rfl (by decide) (rfl) ?_
        refine gi_bipush (pc' := 22) h ⟨dZ_oldestAt_20, rfl⟩ rfl ?_
        refine go_iload_n (pc' := 23) h ⟨dZ_oldestAt_22, rfl⟩ rfl ?_
        refine gi_iadd (pc' := 24) h ⟨dZ_oldestAt_23, rfl⟩ ?_
        refine gs_iald (pc' := 25) h ⟨dZ_oldestAt_24, rfl⟩ rfl (by have hln : (ln 95 : Int) = 212 := rfl; omega) ?_
        refine go_iload_n (pc' := 26) h ⟨dZ_oldestAt_25, rfl⟩ rfl ?_
        refine gi_icmp_ne (tgt := 33) (pc' := 29) h dZ_oldestAt_26 rfl rfl (by omega) (fun c26 => ?_) (fun c26 => ?_)
        · refine go_iload_n (pc' := 34) h ⟨dZ_oldestAt_33, rfl⟩ rfl ?_
          refine go_istore_n (L' := [.ref 88, .int (iI (x)), .int (iI (c)), .int (iI (j))]) (pc' := 35) h ⟨dZ_oldestAt_34, rfl⟩ (by decide) rfl rfl ?_
          refine gi_iinc (L' := [.ref 88, .int (iI (x)), .int (iI (c)), .int (iI (j + (-1)))]) (pc' := 38) h ⟨dZ_oldestAt_35, rfl⟩ rfl (by decide) rfl rfl ?_
          refine gi_goto (tgt := 12) h dZ_oldestAt_38 rfl ?_
          exact ih (j + (-1)) c (by omega) (by omega) (by omega) (g7.elim (fun g => Or.inl ⟨g.1, fun b b1 b2 => by
            by_cases hb : b = j
            · rw [hb]; omega
            · exact g.2 b (by omega) b2⟩) (fun g => Or.inr ⟨by omega, g.2.1, g.2.2.1, fun b b1 b2 => by
            by_cases hb : b = j
            · rw [hb]; omega
            · exact g.2.2.2 b (by omega) b2⟩))
        · refine go_iload_n (pc' := 30) h ⟨dZ_oldestAt_29, rfl⟩ rfl ?_
          refine gi_goto (tgt := 34) h dZ_oldestAt_30 rfl ?_
          refine go_istore_n (L' := [.ref 88, .int (iI (x)), .int (iI (j)), .int (iI (j))]) (pc' := 35) h ⟨dZ_oldestAt_34, rfl⟩ (by decide) rfl rfl ?_
          refine gi_iinc (L' := [.ref 88, .int (iI (x)), .int (iI (j)), .int (iI (j + (-1)))]) (pc' := 38) h ⟨dZ_oldestAt_35, rfl⟩ rfl (by decide) rfl rfl ?_
          refine gi_goto (tgt := 12) h dZ_oldestAt_38 rfl ?_
          exact ih (j + (-1)) j (by omega) (by omega) (by omega) (Or.inr ⟨by omega, by omega, by omega, fun b b1 b2 => by omega⟩)
  refine gi_bipush (pc' := 2) h ⟨dZ_oldestAt_0, rfl⟩ rfl ?_
  refine go_istore_n (L' := [.ref 88, .int (iI (x)), .int (iI (-9))]) (pc' := 3) h ⟨dZ_oldestAt_2, rfl⟩ (by decide) rfl rfl ?_
  refine go_aload_n (pc' := 4) h ⟨dZ_oldestAt_3, rfl⟩ rfl ?_
  refine gs_get (v := .ref 95) (pc' := 7) h ⟨dZ_oldestAt_4, rfl⟩ fgZ_28 rfl (by decide) (rfl) ?_
  refine gi_iconst (pc' := 8) h ⟨dZ_oldestAt_7, rfl⟩ ?_
  refine gs_iald (pc' := 9) h ⟨dZ_oldestAt_8, rfl⟩ rfl (by have hln : (ln 95 : Int) = 212 := rfl; omega) ?_
  refine gi_iconst (pc' := 10) h ⟨dZ_oldestAt_9, rfl⟩ ?_
  refine gi_isub (pc' := 11) h ⟨dZ_oldestAt_10, rfl⟩ ?_
  refine go_istore_n (L' := [.ref 88, .int (iI (x)), .int (iI (-9)), .int (iI ((S.1 95 5) - 1))]) (pc' := 12) h ⟨dZ_oldestAt_11, rfl⟩ (by decide) rfl rfl ?_
  exact loop 8 (S.1 95 5 - 1) (-9) (by omega) (by omega) (by omega) (Or.inl ⟨rfl, fun b b1 b2 => by omega⟩)
def zN1 (S : Sg) : Sg := if S.1 88 19 = 10 then pt (sft S 98 212 1908) 88 19 9 else S
def zNote (S : Sg) : Sg := pt (cpy (zN1 S) 95 98 (212 * (zN1 S).1 88 19) 212) 88 19 ((zN1 S).1 88 19 + 1)
theorem zN1_19 {S : Sg} (h : 0 ≤ S.1 88 19 ∧ S.1 88 19 ≤ 10) : 0 ≤ (zN1 S).1 88 19 ∧ (zN1 S).1 88 19 ≤ 9 := by
  unfold zN1
  split
  · show 0 ≤ (9 : Int) ∧ (9 : Int) ≤ 9
    omega
  · omega
theorem zN1_ne (S : Sg) {a : Nat} (h : a ≠ 88) (h2 : a ≠ 98) : (zN1 S).1 a = S.1 a := by
  unfold zN1
  split
  · rw [pt_ne _ _ _ h, sft_ne _ _ _ h2]
  · rfl
theorem zNote_ne (S : Sg) {a : Nat} (h : a ≠ 88) (h2 : a ≠ 98) : (zNote S).1 a = S.1 a := by
  unfold zNote
  rw [pt_ne _ _ _ h, cpy_ne _ _ _ h2, zN1_ne _ h h2]
set_option maxRecDepth 4000 in
theorem cZ_notes (X : XT) {S : Sg} (hu : 0 ≤ S.1 88 19 ∧ S.1 88 19 ≤ 10) : Ctr X 0 yZ_notes bZ_notes 2 none [.ref 88] (mk S) (PV (fun S' => S' = zNote S)) 0 0 := by
  refine Ctr.ofS (by decide) rfl (Nat.le_of_ble_eq_true rfl) (fun F h hF hE => ?_)
  have hu1 := zN1_19 hu
  have l2 : ∀ (n : Nat) (j : Int), 212 < j + n → 0 ≤ j → j ≤ 212 → Go F 2 (mk (cpy (zN1 S) 95 98 (212 * (zN1 S).1 88 19) j)) 0 0 48 [.ref 88, .int (iI j)] [] := by
    intro n
    induction n with
    | zero => intro j g4 g5 g6; exfalso; omega
    | succ n ih =>
      intro j g4 g5 g6
      refine go_iload_n (pc' := 49) h ⟨dZ_notes_48, rfl⟩ rfl ?_
      refine gi_sipush (pc' := 52) h ⟨dZ_notes_49, rfl⟩ rfl ?_
      refine gi_icmp_ge (tgt := 82) (pc' := 55) h dZ_notes_52 rfl rfl (by omega) (fun c52 => ?_) (fun c52 => ?_)
      · refine go_aload_n (pc' := 83) h ⟨dZ_notes_82, rfl⟩ rfl ?_
        refine go_dup (pc' := 84) h ⟨dZ_notes_83, rfl⟩ rfl ?_
        refine gs_get (v := .int (iI ((zN1 S).1 88 19))) (pc' := 87) h ⟨dZ_notes_84, rfl⟩ fgZ_133 rfl (by decide) (rfl) ?_
        refine gi_iconst (pc' := 88) h ⟨dZ_notes_87, rfl⟩ ?_
        refine gi_iadd (pc' := 89) h ⟨dZ_notes_88, rfl⟩ ?_
        refine gd_putI (i := 19) (pc' := 92) h ⟨dZ_notes_89, rfl⟩ fpZ_133 rfl (by decide) rfl rfl ?_
        exact gs_vret h hE dZ_notes_92 (by rw [show j = 212 by omega]; rfl)
      · refine go_aload_n (pc' := 56) h ⟨dZ_notes_55, rfl⟩ rfl ?_
        refine gs_get (v := .ref 98) (pc' := 59) h ⟨dZ_notes_56, rfl⟩ fgZ_38 rfl (by decide) (rfl) ?_
        refine gi_sipush (pc' := 62) h ⟨dZ_notes_59, rfl⟩ rfl ?_
        refine go_aload_n (pc' := 63) h ⟨dZ_notes_62, rfl⟩ rfl ?_
        refine gs_get (v := .int (iI ((zN1 S).1 88 19))) (pc' := 66) h ⟨dZ_notes_63, rfl⟩ fgZ_133 rfl (by decide) (rfl) ?_
        refine gi_imul (pc' := 67) h ⟨dZ_notes_66, rfl⟩ ?_
        refine go_iload_n (pc' := 68) h ⟨dZ_notes_67, rfl⟩ rfl ?_
        refine gi_iadd (pc' := 69) h ⟨dZ_notes_68, rfl⟩ ?_
        refine go_aload_n (pc' := 70) h ⟨dZ_notes_69, rfl⟩ rfl ?_
        refine gs_get (v := .ref 95) (pc' := 73) h ⟨dZ_notes_70, rfl⟩ fgZ_28 rfl (by decide) (rfl) ?_
        refine go_iload_n (pc' := 74) h ⟨dZ_notes_73, rfl⟩ rfl ?_
        refine gs_iald (pc' := 75) h ⟨dZ_notes_74, rfl⟩ rfl (by have hln : (ln 95 : Int) = 212 := rfl; omega) ?_
        refine gs_iast (pc' := 76) h ⟨dZ_notes_75, rfl⟩ rfl (by have hln : (ln 98 : Int) = 2120 := rfl; omega) ?_
        refine gi_iinc (L' := [.ref 88, .int (iI (j + 1))]) (pc' := 79) h ⟨dZ_notes_76, rfl⟩ rfl (by decide) rfl rfl ?_
        refine gi_goto (tgt := 48) h dZ_notes_79 rfl ?_
        have g7 := ih (j + 1) (by omega) (by omega) (by omega)
        rw [← cpy_s _ (by decide) g5] at g7
        exact g7
  have l1 : ∀ (n : Nat) (j : Int), 1908 < j + n → 0 ≤ j → j ≤ 1908 → S.1 88 19 = 10 → Go F 2 (mk (sft S 98 212 j)) 0 0 11 [.ref 88, .int (iI j)] [] := by
    intro n
    induction n with
    | zero => intro j g4 g5 g6; exfalso; omega
    | succ n ih =>
      intro j g4 g5 g6 g8
      refine go_iload_n (pc' := 12) h ⟨dZ_notes_11, rfl⟩ rfl ?_
      refine gi_sipush (pc' := 15) h ⟨dZ_notes_12, rfl⟩ rfl ?_
      refine gi_icmp_ge (tgt := 40) (pc' := 18) h dZ_notes_15 rfl rfl (by omega) (fun c15 => ?_) (fun c15 => ?_)
      · refine go_aload_n (pc' := 41) h ⟨dZ_notes_40, rfl⟩ rfl ?_
        refine gi_bipush (pc' := 43) h ⟨dZ_notes_41, rfl⟩ rfl ?_
        refine gd_putI (i := 19) (pc' := 46) h ⟨dZ_notes_43, rfl⟩ fpZ_133 rfl (by decide) rfl rfl ?_
        refine Go.cut [.ref 88] 1 rfl ?_
        rw [show j = 1908 by omega, show pt (sft S 98 212 1908) 88 19 9 = zN1 S from by unfold zN1; rw [if_pos g8]]
        refine gi_iconst (pc' := 47) h ⟨dZ_notes_46, rfl⟩ ?_
        refine go_istore_n (L' := [.ref 88, .int (iI (0))]) (pc' := 48) h ⟨dZ_notes_47, rfl⟩ (by decide) rfl rfl ?_
        have h0 := l2 213 0 (by omega) (by omega) (by omega)
        rw [cpy_0] at h0
        exact h0
      · refine go_aload_n (pc' := 19) h ⟨dZ_notes_18, rfl⟩ rfl ?_
        refine gs_get (v := .ref 98) (pc' := 22) h ⟨dZ_notes_19, rfl⟩ fgZ_38 rfl (by decide) (rfl) ?_
        refine go_iload_n (pc' := 23) h ⟨dZ_notes_22, rfl⟩ rfl ?_
        refine go_aload_n (pc' := 24) h ⟨dZ_notes_23, rfl⟩ rfl ?_
        refine gs_get (v := .ref 98) (pc' := 27) h ⟨dZ_notes_24, rfl⟩ fgZ_38 rfl (by decide) (rfl) ?_
        refine go_iload_n (pc' := 28) h ⟨dZ_notes_27, rfl⟩ rfl ?_
        refine gi_sipush (pc' := 31) h ⟨dZ_notes_28, rfl⟩ rfl ?_
        refine gi_iadd (pc' := 32) h ⟨dZ_notes_31, rfl⟩ ?_
        refine gs_iald (pc' := 33) h ⟨dZ_notes_32, rfl⟩ rfl (by have hln : (ln 98 : Int) = 2120 := rfl; omega) ?_
        refine gs_iast (pc' := 34) h ⟨dZ_notes_33, rfl⟩ rfl (by have hln : (ln 98 : Int) = 2120 := rfl; omega) ?_
        refine gi_iinc (L' := [.ref 88, .int (iI (j + 1))]) (pc' := 37) h ⟨dZ_notes_34, rfl⟩ rfl (by decide) rfl rfl ?_
        refine gi_goto (tgt := 11) h dZ_notes_37 rfl ?_
        have g7 := ih (j + 1) (by omega) (by omega) (by omega) g8
        rw [← sft_s _ _ (by omega), Int.add_comm 212 j] at g7
        exact g7
  refine go_aload_n (pc' := 1) h ⟨dZ_notes_0, rfl⟩ rfl ?_
  refine gs_get (v := .int (iI (S.1 88 19))) (pc' := 4) h ⟨dZ_notes_1, rfl⟩ fgZ_133 rfl (by decide) (rfl) ?_
  refine gi_bipush (pc' := 6) h ⟨dZ_notes_4, rfl⟩ rfl ?_
  refine gi_icmp_ne (tgt := 46) (pc' := 9) h dZ_notes_6 rfl rfl (by omega) (fun c6 => ?_) (fun c6 => ?_)
  · rw [show S = zN1 S from by unfold zN1; rw [if_neg (by omega)]]
    refine gi_iconst (pc' := 47) h ⟨dZ_notes_46, rfl⟩ ?_
    refine go_istore_n (L' := [.ref 88, .int (iI (0))]) (pc' := 48) h ⟨dZ_notes_47, rfl⟩ (by decide) rfl rfl ?_
    have h0 := l2 213 0 (by omega) (by omega) (by omega)
    rw [cpy_0] at h0
    exact h0
  · refine gi_iconst (pc' := 10) h ⟨dZ_notes_9, rfl⟩ ?_
    refine go_istore_n (L' := [.ref 88, .int (iI (0))]) (pc' := 11) h ⟨dZ_notes_10, rfl⟩ (by decide) rfl rfl ?_
    have h0 := l1 1909 0 (by omega) (by omega) (by omega) (by omega)
    rw [sft_0] at h0
    exact h0
