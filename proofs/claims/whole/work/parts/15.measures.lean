/-! Measures, at 79 -/
theorem sumI_bd {f : Int → Int} {B n : Int} (hn : 0 ≤ n) (h : ∀ i, 0 ≤ i → i < n → 0 ≤ f i ∧ f i ≤ B) : 0 ≤ sumI f n ∧ sumI f n ≤ B * n := by
  have key : ∀ m : Nat, (m : Int) ≤ n → 0 ≤ sumF f m ∧ sumF f m ≤ B * (m : Int) := by
    intro m
    induction m with
    | zero => intro _; exact ⟨Int.le_refl _, by simp [sumF]⟩
    | succ m ih =>
      intro hm
      have h1 := ih (by omega)
      have h2 := h m (by omega) (by omega)
      have h3 : B * ((m + 1 : Nat) : Int) = B * (m : Int) + B := by rw [Int.natCast_succ, Int.mul_add, Int.mul_one]
      rw [h3]
      show 0 ≤ sumF f m + f (m : Int) ∧ sumF f m + f (m : Int) ≤ _
      omega
  have := key n.toNat (by omega)
  rw [Int.toNat_of_nonneg hn] at this
  exact this
def bst (S : Sg) (f : Int → Int) : Sg := aset (pt S 86 1 0) 87 f
theorem bst_87 (S : Sg) (f : Int → Int) : (bst S f).1 87 = f := aset_eq _ _ _
theorem bst_ne (S : Sg) (f : Int → Int) {a : Nat} (h1 : a ≠ 86) (h2 : a ≠ 87) : (bst S f).1 a = S.1 a := by
  unfold bst
  rw [aset_ne _ _ h2, pt_ne _ _ _ h1]
theorem bst_86 (S : Sg) (f : Int → Int) : (bst S f).1 86 = uF (S.1 86) 1 0 := by
  unfold bst
  rw [aset_ne _ _ (by decide), pt_eq]
theorem bst_bst (S : Sg) (f g : Int → Int) : bst (bst S f) g = bst S g := by
  unfold bst
  rw [pt_sw _ f _ _ (by decide), aset_aset, pt_aset, pt_aset, aset_eq, aset_aset, uF_uF]
theorem bst_aset (S : Sg) (f g : Int → Int) : aset (bst S f) 87 g = bst S g := by unfold bst; rw [aset_aset]
theorem Wr.bst {S : Sg} (h : Wr S) (f : Int → Int) : Wr (bst S f) := by
  refine h.one (k := 86) rfl (fun a h1 h2 => bst_ne S f h1 h2) ?_
  unfold rw1
  rw [bst_86, uF_eq]
  exact ⟨by omega, by decide⟩
theorem rempty_86 (S : Sg) : rempty S 86 = bst S (fun _ => 0) := by
  unfold rempty bst
  rw [pt_sw _ _ _ _ (by decide)]
theorem rput_86 (S : Sg) (f : Int → Int) {s : Int} (v : Int) (hs : 0 ≤ s ∧ s ≤ 5) : rput (bst S f) 86 s v = bst S (uF f s v) := by
  have hl : (ln (86 + 1) : Int) = 6 := rfl
  rw [rput_in _ (by omega), pt_aset, show (86 + 1 : Nat) = 87 from rfl, bst_87, bst_aset]
/-- the way of the i-th measure in a round trip -/
def wayI (c : Int) (i : Nat) : Int := c / 3 ^ i % 3 - 1
def bF (fr to : Int → Int) (c : Int) : Nat → Int → Int
  | 0 => fun _ => 0
  | i + 1 => uF (uF (bF fr to c i) (fr (i : Int)) (bF fr to c i (fr (i : Int)) - wayI c i)) (to (i : Int)) (uF (bF fr to c i) (fr (i : Int)) (bF fr to c i (fr (i : Int)) - wayI c i) (to (i : Int)) + wayI c i)
theorem wayI_bd (c : Int) (i : Nat) : -1 ≤ wayI c i ∧ wayI c i ≤ 1 := by unfold wayI; omega
theorem uF_bd {f : Int → Int} {i x B : Int} (h : ∀ j, -B ≤ f j ∧ f j ≤ B) (hx : -B ≤ x ∧ x ≤ B) : ∀ j, -B ≤ uF f i x j ∧ uF f i x j ≤ B := fun j => by
  unfold uF
  by_cases hj : j = i
  · rw [if_pos hj]; exact hx
  · rw [if_neg hj]; exact h j
theorem bF_bd (fr to : Int → Int) (c : Int) : ∀ (i : Nat) (j : Int), -(2 * (i : Int)) ≤ bF fr to c i j ∧ bF fr to c i j ≤ 2 * (i : Int)
  | 0, j => by simp [bF]
  | i + 1, j => by
    have h := bF_bd fr to c i
    have hw := wayI_bd c i
    have h1 := h (fr (i : Int))
    have g1 : ∀ j, -(2 * (i : Int) + 1) ≤ uF (bF fr to c i) (fr (i : Int)) (bF fr to c i (fr (i : Int)) - wayI c i) j ∧ uF (bF fr to c i) (fr (i : Int)) (bF fr to c i (fr (i : Int)) - wayI c i) j ≤ 2 * (i : Int) + 1 := uF_bd (B := 2 * (i : Int) + 1) (fun j => by have := h j; omega) (by omega)
    have h2 := g1 (to (i : Int))
    have g2 := uF_bd (f := uF (bF fr to c i) (fr (i : Int)) (bF fr to c i (fr (i : Int)) - wayI c i)) (i := to (i : Int)) (x := uF (bF fr to c i) (fr (i : Int)) (bF fr to c i (fr (i : Int)) - wayI c i) (to (i : Int)) + wayI c i) (B := 2 * (i : Int) + 2) (fun j => by have := g1 j; omega) (by omega) j
    show -(2 * ((i + 1 : Nat) : Int)) ≤ uF _ _ _ j ∧ uF _ _ _ j ≤ 2 * ((i + 1 : Nat) : Int)
    omega
def bz (f : Int → Int) : Prop := f 0 = 0 ∧ f 1 = 0 ∧ f 2 = 0 ∧ f 3 = 0 ∧ f 4 = 0 ∧ f 5 = 0
theorem bz_of {f : Int → Int} (h : ∀ j : Int, 0 ≤ j → j ≤ 5 → f j = 0) : bz f := ⟨h 0 (by omega) (by omega), h 1 (by omega) (by omega), h 2 (by omega) (by omega), h 3 (by omega) (by omega), h 4 (by omega) (by omega), h 5 (by omega) (by omega)⟩
theorem bz_not {f : Int → Int} {l : Int} (hl : 0 ≤ l ∧ l ≤ 5) (h : ¬ f l = 0) : ¬ bz f := fun hz => by
  obtain ⟨h0, h1, h2, h3, h4, h5⟩ := hz
  rcases (show l = 0 ∨ l = 1 ∨ l = 2 ∨ l = 3 ∨ l = 4 ∨ l = 5 by omega) with rfl | rfl | rfl | rfl | rfl | rfl <;> exact h (by assumption)
/-- how many, from where, to where, how much: what was measured -/
def gapS (S : Sg) (c : Int) : Nat → Int
  | 0 => 0
  | i + 1 => gapS S c i + wayI c i * S.1 85 (i : Int)
def measN (S : Sg) : Nat := (S.1 84 1).toNat
noncomputable def gapV (S : Sg) (c : Int) : Int := @ite _ (bz (bF (S.1 81) (S.1 83) c (measN S))) (Classical.propDecidable _) (gapS S c (measN S)) 0
def measOk (S : Sg) : Prop := (0 ≤ S.1 84 1 ∧ S.1 84 1 ≤ 6) ∧ ∀ i : Int, 0 ≤ i → i < S.1 84 1 → 0 ≤ S.1 81 i ∧ S.1 81 i < S.1 83 i ∧ S.1 83 i ≤ 5 ∧ 0 ≤ S.1 85 i ∧ S.1 85 i ≤ 999999
theorem gapS_bd {S : Sg} (hok : measOk S) (c : Int) : ∀ i : Nat, (i : Int) ≤ S.1 84 1 → -(999999 * (i : Int)) ≤ gapS S c i ∧ gapS S c i ≤ 999999 * (i : Int)
  | 0, _ => by simp [gapS]
  | i + 1, h => by
    have h1 := gapS_bd hok c i (by omega)
    have h2 := hok.2 i (by omega) (by omega)
    have h3 : -999999 ≤ wayI c i * S.1 85 (i : Int) ∧ wayI c i * S.1 85 (i : Int) ≤ 999999 := by
      have hw := wayI_bd c i
      rcases (show wayI c i = -1 ∨ wayI c i = 0 ∨ wayI c i = 1 by omega) with e | e | e <;> rw [e] <;> omega
    show -(999999 * ((i + 1 : Nat) : Int)) ≤ gapS S c i + _ ∧ gapS S c i + _ ≤ 999999 * ((i + 1 : Nat) : Int)
    omega
theorem gapV_bd {S : Sg} (hok : measOk S) (c : Int) : -6000000 ≤ gapV S c ∧ gapV S c ≤ 6000000 := by
  have h := gapS_bd hok c (measN S) (by unfold measN; have := hok.1; omega)
  have h2 : (measN S : Int) ≤ 6 := by unfold measN; have := hok.1; omega
  unfold gapV
  split <;> omega
theorem gapV_pos {S : Sg} {c : Int} (h : bz (bF (S.1 81) (S.1 83) c (measN S))) : gapV S c = gapS S c (measN S) := by unfold gapV; rw [if_pos h]
theorem gapV_neg {S : Sg} {c : Int} (h : ¬ bz (bF (S.1 81) (S.1 83) c (measN S))) : gapV S c = 0 := by unfold gapV; rw [if_neg h]
theorem gapV_bst (S : Sg) (f : Int → Int) (c : Int) : gapV (bst S f) c = gapV S c := by
  have e1 : ∀ i, gapS (bst S f) c i = gapS S c i := by
    intro i
    induction i with
    | zero => rfl
    | succ i ih => show gapS _ c i + _ = gapS S c i + _; rw [ih, bst_ne _ _ (by decide) (by decide)]
  unfold gapV measN
  rw [bst_ne _ _ (by decide) (by decide), bst_ne _ _ (by decide) (by decide), bst_ne _ _ (by decide) (by decide), e1]
theorem measOk.bst {S : Sg} (h : measOk S) (f : Int → Int) : measOk (bst S f) := by
  unfold measOk
  rw [bst_ne _ _ (by decide) (by decide), bst_ne _ _ (by decide) (by decide), bst_ne _ _ (by decide) (by decide), bst_ne _ _ (by decide) (by decide)]
  exact h
set_option maxRecDepth 4000 in
theorem cM_empty (X : XT) {S : Sg} : Ctr X 1 yM_empty bM_empty 1 none [.ref 79] (mk S) (PV (fun S' => S' = rempty (rempty (rempty S 80) 82) 84)) 0 0 := by
  refine Ctr.ofS (by decide) rfl (Nat.le_of_ble_eq_true rfl) (fun F h hF hE => ?_)
  refine go_aload_n (pc' := 1) h ⟨dM_empty_0, rfl⟩ rfl ?_
  refine gs_get (v := .ref 80) (pc' := 4) h ⟨dM_empty_1, rfl⟩ fgM_14 rfl (by decide) (rfl) ?_
  refine gd_callVV (E := rempty S 80) (pc' := 7) (As := []) (st := []) h hF ⟨dM_empty_4, rfl⟩ kvM_29 (cR_empty X rfl) (by omega) rfl (by decide) ⟨_, _, rfl⟩ rfl (Nat.le_of_ble_eq_true rfl) rfl ?_
  refine go_aload_n (pc' := 8) h ⟨dM_empty_7, rfl⟩ rfl ?_
  refine gs_get (v := .ref 82) (pc' := 11) h ⟨dM_empty_8, rfl⟩ fgM_20 rfl (by decide) (rfl) ?_
  refine gd_callVV (E := rempty (rempty S 80) 82) (pc' := 14) (As := []) (st := []) h hF ⟨dM_empty_11, rfl⟩ kvM_29 (cR_empty X rfl) (by omega) rfl (by decide) ⟨_, _, rfl⟩ rfl (Nat.le_of_ble_eq_true rfl) rfl ?_
  refine go_aload_n (pc' := 15) h ⟨dM_empty_14, rfl⟩ rfl ?_
  refine gs_get (v := .ref 84) (pc' := 18) h ⟨dM_empty_15, rfl⟩ fgM_23 rfl (by decide) (rfl) ?_
  refine gd_callVV (E := rempty (rempty (rempty S 80) 82) 84) (pc' := 21) (As := []) (st := []) h hF ⟨dM_empty_18, rfl⟩ kvM_29 (cR_empty X rfl) (by omega) rfl (by decide) ⟨_, _, rfl⟩ rfl (Nat.le_of_ble_eq_true rfl) rfl ?_
  exact gs_vret h hE dM_empty_21 (rfl)
set_option maxRecDepth 4000 in
theorem cM_add (X : XT) {S : Sg} (hW : Wr S) {a b c : Int} : Ctr X 2 yM_add bM_add 4 none [.ref 79, .int (iI (a)), .int (iI (b)), .int (iI (c))] (mk S) (PV (fun S' => S' = rpush (rpush (rpush S 80 a) 82 b) 84 c)) 0 0 := by
  refine Ctr.ofS (by decide) rfl (Nat.le_of_ble_eq_true rfl) (fun F h hF hE => ?_)
  refine go_aload_n (pc' := 1) h ⟨dM_add_0, rfl⟩ rfl ?_
  refine gs_get (v := .ref 80) (pc' := 4) h ⟨dM_add_1, rfl⟩ fgM_14 rfl (by decide) (rfl) ?_
  refine go_iload_n (pc' := 5) h ⟨dM_add_4, rfl⟩ rfl ?_
  refine gd_callVV (E := rpush S 80 a) (pc' := 8) (As := [.int (iI (a))]) (st := []) h hF ⟨dM_add_5, rfl⟩ kvM_32 (cR_push X rfl (hW 80 rfl)) (by omega) rfl (by decide) ⟨_, _, rfl⟩ rfl (Nat.le_of_ble_eq_true rfl) rfl ?_
  refine go_aload_n (pc' := 9) h ⟨dM_add_8, rfl⟩ rfl ?_
  refine gs_get (v := .ref 82) (pc' := 12) h ⟨dM_add_9, rfl⟩ fgM_20 rfl (by decide) (rfl) ?_
  refine go_iload_n (pc' := 13) h ⟨dM_add_12, rfl⟩ rfl ?_
  refine gd_callVV (E := rpush (rpush S 80 a) 82 b) (pc' := 16) (As := [.int (iI (b))]) (st := []) h hF ⟨dM_add_13, rfl⟩ kvM_32 (cR_push X rfl ((hW.push rfl _) 82 rfl)) (by omega) rfl (by decide) ⟨_, _, rfl⟩ rfl (Nat.le_of_ble_eq_true rfl) rfl ?_
  refine go_aload_n (pc' := 17) h ⟨dM_add_16, rfl⟩ rfl ?_
  refine gs_get (v := .ref 84) (pc' := 20) h ⟨dM_add_17, rfl⟩ fgM_23 rfl (by decide) (rfl) ?_
  refine go_iload_n (pc' := 21) h ⟨dM_add_20, rfl⟩ rfl ?_
  refine gd_callVV (E := rpush (rpush (rpush S 80 a) 82 b) 84 c) (pc' := 24) (As := [.int (iI (c))]) (st := []) h hF ⟨dM_add_21, rfl⟩ kvM_32 (cR_push X rfl (((hW.push rfl _).push rfl _) 84 rfl)) (by omega) rfl (by decide) ⟨_, _, rfl⟩ rfl (Nat.le_of_ble_eq_true rfl) rfl ?_
  exact gs_vret h hE dM_add_24 (rfl)
set_option maxRecDepth 4000 in
theorem cM_gapOf (X : XT) {S : Sg} (hok : measOk S) {c : Int} (hc : 0 ≤ c ∧ c ≤ 100000) : Ctr X 1 yM_gapOf bM_gapOf 6 (some .int) [.ref 79, .int (iI (c))] (mk S) (PI (fun r S' => r = gapV S c ∧ S' = bst S (bF (S.1 81) (S.1 83) c (measN S)))) 0 0 := by
  refine Ctr.ofS (by decide) rfl (Nat.le_of_ble_eq_true rfl) (fun F h hF hE => ?_)
  obtain ⟨hz, ho⟩ := id hok
  have tail : ∀ (n : Nat) (l : Int), 6 < l + n → 0 ≤ l → l ≤ 6 → (∀ i : Int, 0 ≤ i → i < l → bF (S.1 81) (S.1 83) c (measN S) i = 0) → ∀ q : Int, Go F 6 (mk (bst S (bF (S.1 81) (S.1 83) c (measN S)))) 0 0 131 [.ref 79, .int (iI c), .int (iI (gapS S c (measN S))), .int (iI q), .int (iI l)] [] := by
    intro n
    induction n with
    | zero => intro l g4 g5 g6; exfalso; omega
    | succ n ih =>
      intro l g4 g5 g6 g7 q
      have g8 := bF_bd (S.1 81) (S.1 83) c (measN S) l
      have g9 : (measN S : Int) ≤ 6 := by unfold measN; omega
      refine go_iload (pc' := 133) h ⟨dM_gapOf_131, rfl⟩ rfl ?_
      refine gi_iconst (pc' := 134) h ⟨dM_gapOf_133, rfl⟩ ?_
      refine gi_icmp_gt (tgt := 157) (pc' := 137) h dM_gapOf_134 rfl rfl (by omega) (fun c134 => ?_) (fun c134 => ?_)
      · refine go_iload_n (pc' := 158) h ⟨dM_gapOf_157, rfl⟩ rfl ?_
        exact gs_iret h hE dM_gapOf_158 (⟨(gapV_pos (bz_of (fun j j1 j2 => g7 j j1 (by omega)))).symm, rfl⟩)
      · refine go_aload_n (pc' := 138) h ⟨dM_gapOf_137, rfl⟩ rfl ?_
        refine gs_get (v := .ref 86) (pc' := 141) h ⟨dM_gapOf_138, rfl⟩ fgM_26 rfl (by decide) (rfl) ?_
        refine go_iload (pc' := 143) h ⟨dM_gapOf_141, rfl⟩ rfl ?_
        refine gd_callVI (e := bF (S.1 81) (S.1 83) c (measN S) l) (E := bst S (bF (S.1 81) (S.1 83) c (measN S))) (pc' := 146) (As := [.int (iI (l))]) (st := []) h hF ⟨dM_gapOf_143, rfl⟩ kvM_39 (by have h0 := cR_ati X (S := bst S (bF (S.1 81) (S.1 83) c (measN S))) (k := 86) rfl (n := 6) rfl (i := l) (by omega); rw [show (86 + 1 : Nat) = 87 from rfl, bst_87] at h0; exact h0) (by omega) rfl (by decide) ⟨_, _, rfl⟩ rfl (Nat.le_of_ble_eq_true rfl) rfl ?_
        refine gi_if_eq (tgt := 151) (pc' := 149) h dM_gapOf_146 rfl rfl (by omega) (fun c146 => ?_) (fun c146 => ?_)
        · refine gi_iinc (L' := [.ref 79, .int (iI (c)), .int (iI (gapS S c (measN S))), .int (iI (q)), .int (iI (l + 1))]) (pc' := 154) h ⟨dM_gapOf_151, rfl⟩ rfl (by decide) rfl rfl ?_
          refine gi_goto (tgt := 131) h dM_gapOf_154 rfl ?_
          exact ih (l + 1) (by omega) (by omega) (by omega) (fun i i1 i2 => by
            by_cases hi : i = l
            · rw [hi]; exact c146
            · exact g7 i i1 (by omega)) q
        · refine gi_iconst (pc' := 150) h ⟨dM_gapOf_149, rfl⟩ ?_
          exact gs_iret h hE dM_gapOf_150 (⟨(gapV_neg (bz_not (by omega) c146)).symm, rfl⟩)
  have loop : ∀ (n : Nat) (j : Nat), 7 < j + n → (j : Int) ≤ S.1 84 1 → Go F 6 (mk (bst S (bF (S.1 81) (S.1 83) c j))) 0 0 14 [.ref 79, .int (iI c), .int (iI (gapS S c j)), .int (iI (c / 3 ^ j)), .int (iI (j : Int))] [] := by
    intro n
    induction n with
    | zero => intro j g4 g6; exfalso; omega
    | succ n ih =>
      intro j g4 g6
      have g7 : 0 ≤ c / 3 ^ j := Int.ediv_nonneg hc.1 (by exact Int.pow_nonneg (by omega))
      have g8 : c / 3 ^ j ≤ c := Int.ediv_le_self _ hc.1
      have g9 : c / 3 ^ j / 3 = c / 3 ^ (j + 1) := by rw [Int.pow_succ, Int.ediv_ediv_of_nonneg (by exact Int.pow_nonneg (by omega))]
      refine go_iload (pc' := 16) h ⟨dM_gapOf_14, rfl⟩ rfl ?_
      refine go_aload_n (pc' := 17) h ⟨dM_gapOf_16, rfl⟩ rfl ?_
      refine gs_get (v := .ref 84) (pc' := 20) h ⟨dM_gapOf_17, rfl⟩ fgM_23 rfl (by decide) (rfl) ?_
      refine gd_callVI (e := S.1 84 1) (E := bst S (bF (S.1 81) (S.1 83) c j)) (pc' := 23) (As := []) (st := [.int (iI ((j : Int)))]) h hF ⟨dM_gapOf_20, rfl⟩ kvM_35 (by have h0 := cR_size X (S := bst S (bF (S.1 81) (S.1 83) c j)) (k := 84) rfl; rw [bst_ne _ _ (by decide) (by decide)] at h0; exact h0) (by omega) rfl (by decide) ⟨_, _, rfl⟩ rfl (Nat.le_of_ble_eq_true rfl) rfl ?_
      refine gi_icmp_ge (tgt := 128) (pc' := 26) h dM_gapOf_23 rfl rfl (by omega) (fun c23 => ?_) (fun c23 => ?_)
      · refine gi_iconst (pc' := 129) h ⟨dM_gapOf_128, rfl⟩ ?_
        refine go_istore (L' := [.ref 79, .int (iI (c)), .int (iI (gapS S c j)), .int (iI (c / 3 ^ j)), .int (iI (0))]) (pc' := 131) h ⟨dM_gapOf_129, rfl⟩ (by decide) rfl rfl ?_
        have e1 : measN S = j := by unfold measN; omega
        rw [← e1]
        refine Go.cut [.ref 79, .int (iI c), .int (iI (gapS S c (measN S))), .int (iI (c / 3 ^ measN S)), .int (iI 0)] 5 rfl ?_
        exact tail 7 0 (by omega) (by omega) (by omega) (fun i i1 i2 => by omega) _
      · have g10 := ho j (by omega) (by omega)
        refine go_iload_n (pc' := 27) h ⟨dM_gapOf_26, rfl⟩ rfl ?_
        refine gi_iconst (pc' := 28) h ⟨dM_gapOf_27, rfl⟩ ?_
        refine gi_irem (pc' := 29) h ⟨dM_gapOf_28, rfl⟩ (by omega) ?_
        refine gi_iconst (pc' := 30) h ⟨dM_gapOf_29, rfl⟩ ?_
        refine gi_isub (pc' := 31) h ⟨dM_gapOf_30, rfl⟩ ?_
        refine go_istore (L' := [.ref 79, .int (iI (c)), .int (iI (gapS S c j)), .int (iI (c / 3 ^ j)), .int (iI ((j : Int))), .int (iI (((c / 3 ^ j) % 3) - 1))]) (pc' := 33) h ⟨dM_gapOf_31, rfl⟩ (by decide) rfl rfl ?_
        refine go_iload_n (pc' := 34) h ⟨dM_gapOf_33, rfl⟩ rfl ?_
        refine gi_iconst (pc' := 35) h ⟨dM_gapOf_34, rfl⟩ ?_
        refine gi_idiv (pc' := 36) h ⟨dM_gapOf_35, rfl⟩ (by omega) ?_
        refine go_istore_n (L' := [.ref 79, .int (iI (c)), .int (iI (gapS S c j)), .int (iI ((c / 3 ^ j) / 3)), .int (iI ((j : Int))), .int (iI (((c / 3 ^ j) % 3) - 1))]) (pc' := 37) h ⟨dM_gapOf_36, rfl⟩ (by decide) rfl rfl ?_
        refine go_iload_n (pc' := 38) h ⟨dM_gapOf_37, rfl⟩ rfl ?_
        refine go_iload (pc' := 40) h ⟨dM_gapOf_38, rfl⟩ rfl ?_
        refine go_aload_n (pc' := 41) h ⟨dM_gapOf_40, rfl⟩ rfl ?_
        refine gs_get (v := .ref 84) (pc' := 44) h ⟨dM_gapOf_41, rfl⟩ fgM_23 rfl (by decide) (rfl) ?_
        refine go_iload (pc' := 46) h ⟨dM_gapOf_44, rfl⟩ rfl ?_
        refine gd_callVI (e := S.1 85 (j : Int)) (E := bst S (bF (S.1 81) (S.1 83) c j)) (pc' := 49) (As := [.int (iI ((j : Int)))]) (st := [.int (iI (((c / 3 ^ j) % 3) - 1)), .int (iI (gapS S c j))]) h hF ⟨dM_gapOf_46, rfl⟩ kvM_39 (by have h0 := cR_ati X (S := bst S (bF (S.1 81) (S.1 83) c j)) (k := 84) rfl (n := 6) rfl (i := (j : Int)) (by omega); rw [show (84 + 1 : Nat) = 85 from rfl, bst_ne _ _ (by decide) (by decide)] at h0; exact h0) (by omega) rfl (by decide) ⟨_, _, rfl⟩ rfl (Nat.le_of_ble_eq_true rfl) rfl ?_
        refine gi_imul (pc' := 50) h ⟨dM_gapOf_49, rfl⟩ ?_
        refine gi_iadd (pc' := 51) h ⟨dM_gapOf_50, rfl⟩ ?_
        refine go_istore_n (L' := [.ref 79, .int (iI (c)), .int (iI ((gapS S c j) + ((((c / 3 ^ j) % 3) - 1) * (S.1 85 (j : Int))))), .int (iI ((c / 3 ^ j) / 3)), .int (iI ((j : Int))), .int (iI (((c / 3 ^ j) % 3) - 1))]) (pc' := 52) h ⟨dM_gapOf_51, rfl⟩ (by decide) rfl rfl ?_
        refine go_aload_n (pc' := 53) h ⟨dM_gapOf_52, rfl⟩ rfl ?_
        refine gs_get (v := .ref 86) (pc' := 56) h ⟨dM_gapOf_53, rfl⟩ fgM_26 rfl (by decide) (rfl) ?_
        refine go_aload_n (pc' := 57) h ⟨dM_gapOf_56, rfl⟩ rfl ?_
        refine gs_get (v := .ref 80) (pc' := 60) h ⟨dM_gapOf_57, rfl⟩ fgM_14 rfl (by decide) (rfl) ?_
        refine go_iload (pc' := 62) h ⟨dM_gapOf_60, rfl⟩ rfl ?_
        refine gd_callVI (e := S.1 81 (j : Int)) (E := bst S (bF (S.1 81) (S.1 83) c j)) (pc' := 65) (As := [.int (iI ((j : Int)))]) (st := [.ref 86]) h hF ⟨dM_gapOf_62, rfl⟩ kvM_39 (by have h0 := cR_ati X (S := bst S (bF (S.1 81) (S.1 83) c j)) (k := 80) rfl (n := 6) rfl (i := (j : Int)) (by omega); rw [show (80 + 1 : Nat) = 81 from rfl, bst_ne _ _ (by decide) (by decide)] at h0; exact h0) (by omega) rfl (by decide) ⟨_, _, rfl⟩ rfl (Nat.le_of_ble_eq_true rfl) rfl ?_
        refine go_aload_n (pc' := 66) h ⟨dM_gapOf_65, rfl⟩ rfl ?_
        refine gs_get (v := .ref 86) (pc' := 69) h ⟨dM_gapOf_66, rfl⟩ fgM_26 rfl (by decide) (rfl) ?_
        refine go_aload_n (pc' := 70) h ⟨dM_gapOf_69, rfl⟩ rfl ?_
        refine gs_get (v := .ref 80) (pc' := 73) h ⟨dM_gapOf_70, rfl⟩ fgM_14 rfl (by decide) (rfl) ?_
        refine go_iload (pc' := 75) h ⟨dM_gapOf_73, rfl⟩ rfl ?_
        refine gd_callVI (e := S.1 81 (j : Int)) (E := bst S (bF (S.1 81) (S.1 83) c j)) (pc' := 78) (As := [.int (iI ((j : Int)))]) (st := [.ref 86, .int (iI (S.1 81 (j : Int))), .ref 86]) h hF ⟨dM_gapOf_75, rfl⟩ kvM_39 (by have h0 := cR_ati X (S := bst S (bF (S.1 81) (S.1 83) c j)) (k := 80) rfl (n := 6) rfl (i := (j : Int)) (by omega); rw [show (80 + 1 : Nat) = 81 from rfl, bst_ne _ _ (by decide) (by decide)] at h0; exact h0) (by omega) rfl (by decide) ⟨_, _, rfl⟩ rfl (Nat.le_of_ble_eq_true rfl) rfl ?_
        refine gd_callVI (e := bF (S.1 81) (S.1 83) c j (S.1 81 (j : Int))) (E := bst S (bF (S.1 81) (S.1 83) c j)) (pc' := 81) (As := [.int (iI (S.1 81 (j : Int)))]) (st := [.int (iI (S.1 81 (j : Int))), .ref 86]) h hF ⟨dM_gapOf_78, rfl⟩ kvM_39 (by have h0 := cR_ati X (S := bst S (bF (S.1 81) (S.1 83) c j)) (k := 86) rfl (n := 6) rfl (i := (S.1 81 (j : Int))) (by omega); rw [show (86 + 1 : Nat) = 87 from rfl, bst_87] at h0; exact h0) (by omega) rfl (by decide) ⟨_, _, rfl⟩ rfl (Nat.le_of_ble_eq_true rfl) rfl ?_
        refine go_iload (pc' := 83) h ⟨dM_gapOf_81, rfl⟩ rfl ?_
        refine gi_isub (pc' := 84) h ⟨dM_gapOf_83, rfl⟩ ?_
        refine gd_callVV (E := rput (bst S (bF (S.1 81) (S.1 83) c j)) 86 (S.1 81 (j : Int)) ((bF (S.1 81) (S.1 83) c j (S.1 81 (j : Int))) - (((c / 3 ^ j) % 3) - 1))) (pc' := 87) (As := [.int (iI (S.1 81 (j : Int))), .int (iI ((bF (S.1 81) (S.1 83) c j (S.1 81 (j : Int))) - (((c / 3 ^ j) % 3) - 1)))]) (st := []) h hF ⟨dM_gapOf_84, rfl⟩ kvM_66 (cR_put X rfl (by omega)) (by omega) rfl (by decide) ⟨_, _, rfl⟩ rfl (Nat.le_of_ble_eq_true rfl) rfl ?_
        rw [rput_86 _ _ _ (by omega)]
        refine go_aload_n (pc' := 88) h ⟨dM_gapOf_87, rfl⟩ rfl ?_
        refine gs_get (v := .ref 86) (pc' := 91) h ⟨dM_gapOf_88, rfl⟩ fgM_26 rfl (by decide) (rfl) ?_
        refine go_aload_n (pc' := 92) h ⟨dM_gapOf_91, rfl⟩ rfl ?_
        refine gs_get (v := .ref 82) (pc' := 95) h ⟨dM_gapOf_92, rfl⟩ fgM_20 rfl (by decide) (rfl) ?_
        refine go_iload (pc' := 97) h ⟨dM_gapOf_95, rfl⟩ rfl ?_
        refine gd_callVI (e := S.1 83 (j : Int)) (E := bst S (uF (bF (S.1 81) (S.1 83) c j) (S.1 81 (j : Int)) (bF (S.1 81) (S.1 83) c j (S.1 81 (j : Int)) - (c / 3 ^ j % 3 - 1)))) (pc' := 100) (As := [.int (iI ((j : Int)))]) (st := [.ref 86]) h hF ⟨dM_gapOf_97, rfl⟩ kvM_39 (by have h0 := cR_ati X (S := bst S (uF (bF (S.1 81) (S.1 83) c j) (S.1 81 (j : Int)) (bF (S.1 81) (S.1 83) c j (S.1 81 (j : Int)) - (c / 3 ^ j % 3 - 1)))) (k := 82) rfl (n := 6) rfl (i := (j : Int)) (by omega); rw [show (82 + 1 : Nat) = 83 from rfl, bst_ne _ _ (by decide) (by decide)] at h0; exact h0) (by omega) rfl (by decide) ⟨_, _, rfl⟩ rfl (Nat.le_of_ble_eq_true rfl) rfl ?_
        refine go_aload_n (pc' := 101) h ⟨dM_gapOf_100, rfl⟩ rfl ?_
        refine gs_get (v := .ref 86) (pc' := 104) h ⟨dM_gapOf_101, rfl⟩ fgM_26 rfl (by decide) (rfl) ?_
        refine go_aload_n (pc' := 105) h ⟨dM_gapOf_104, rfl⟩ rfl ?_
        refine gs_get (v := .ref 82) (pc' := 108) h ⟨dM_gapOf_105, rfl⟩ fgM_20 rfl (by decide) (rfl) ?_
        refine go_iload (pc' := 110) h ⟨dM_gapOf_108, rfl⟩ rfl ?_
        refine gd_callVI (e := S.1 83 (j : Int)) (E := bst S (uF (bF (S.1 81) (S.1 83) c j) (S.1 81 (j : Int)) (bF (S.1 81) (S.1 83) c j (S.1 81 (j : Int)) - (c / 3 ^ j % 3 - 1)))) (pc' := 113) (As := [.int (iI ((j : Int)))]) (st := [.ref 86, .int (iI (S.1 83 (j : Int))), .ref 86]) h hF ⟨dM_gapOf_110, rfl⟩ kvM_39 (by have h0 := cR_ati X (S := bst S (uF (bF (S.1 81) (S.1 83) c j) (S.1 81 (j : Int)) (bF (S.1 81) (S.1 83) c j (S.1 81 (j : Int)) - (c / 3 ^ j % 3 - 1)))) (k := 82) rfl (n := 6) rfl (i := (j : Int)) (by omega); rw [show (82 + 1 : Nat) = 83 from rfl, bst_ne _ _ (by decide) (by decide)] at h0; exact h0) (by omega) rfl (by decide) ⟨_, _, rfl⟩ rfl (Nat.le_of_ble_eq_true rfl) rfl ?_
        refine gd_callVI (e := uF (bF (S.1 81) (S.1 83) c j) (S.1 81 (j : Int)) (bF (S.1 81) (S.1 83) c j (S.1 81 (j : Int)) - (c / 3 ^ j % 3 - 1)) (S.1 83 (j : Int))) (E := bst S (uF (bF (S.1 81) (S.1 83) c j) (S.1 81 (j : Int)) (bF (S.1 81) (S.1 83) c j (S.1 81 (j : Int)) - (c / 3 ^ j % 3 - 1)))) (pc' := 116) (As := [.int (iI (S.1 83 (j : Int)))]) (st := [.int (iI (S.1 83 (j : Int))), .ref 86]) h hF ⟨dM_gapOf_113, rfl⟩ kvM_39 (by have h0 := cR_ati X (S := bst S (uF (bF (S.1 81) (S.1 83) c j) (S.1 81 (j : Int)) (bF (S.1 81) (S.1 83) c j (S.1 81 (j : Int)) - (c / 3 ^ j % 3 - 1)))) (k := 86) rfl (n := 6) rfl (i := (S.1 83 (j : Int))) (by omega); rw [show (86 + 1 : Nat) = 87 from rfl, bst_87] at h0; exact h0) (by omega) rfl (by decide) ⟨_, _, rfl⟩ rfl (Nat.le_of_ble_eq_true rfl) rfl ?_
        refine go_iload (pc' := 118) h ⟨dM_gapOf_116, rfl⟩ rfl ?_
        refine gi_iadd (pc' := 119) h ⟨dM_gapOf_118, rfl⟩ ?_
        refine gd_callVV (E := rput (bst S (uF (bF (S.1 81) (S.1 83) c j) (S.1 81 (j : Int)) (bF (S.1 81) (S.1 83) c j (S.1 81 (j : Int)) - (c / 3 ^ j % 3 - 1)))) 86 (S.1 83 (j : Int)) ((uF (bF (S.1 81) (S.1 83) c j) (S.1 81 (j : Int)) (bF (S.1 81) (S.1 83) c j (S.1 81 (j : Int)) - (c / 3 ^ j % 3 - 1)) (S.1 83 (j : Int))) + (((c / 3 ^ j) % 3) - 1))) (pc' := 122) (As := [.int (iI (S.1 83 (j : Int))), .int (iI ((uF (bF (S.1 81) (S.1 83) c j) (S.1 81 (j : Int)) (bF (S.1 81) (S.1 83) c j (S.1 81 (j : Int)) - (c / 3 ^ j % 3 - 1)) (S.1 83 (j : Int))) + (((c / 3 ^ j) % 3) - 1)))]) (st := []) h hF ⟨dM_gapOf_119, rfl⟩ kvM_66 (cR_put X rfl (by omega)) (by omega) rfl (by decide) ⟨_, _, rfl⟩ rfl (Nat.le_of_ble_eq_true rfl) rfl ?_
        refine gi_iinc (L' := [.ref 79, .int (iI (c)), .int (iI ((gapS S c j) + ((((c / 3 ^ j) % 3) - 1) * (S.1 85 (j : Int))))), .int (iI ((c / 3 ^ j) / 3)), .int (iI ((j : Int) + 1)), .int (iI (((c / 3 ^ j) % 3) - 1))]) (pc' := 125) h ⟨dM_gapOf_122, rfl⟩ rfl (by decide) rfl rfl ?_
        refine gi_goto (tgt := 14) h dM_gapOf_125 rfl ?_
        rw [rput_86 _ _ _ (by omega), g9]
        refine Go.cut [.ref 79, .int (iI c), .int (iI (gapS S c j + (c / 3 ^ j % 3 - 1) * S.1 85 (j : Int))), .int (iI (c / 3 ^ (j + 1))), .int (iI ((j : Int) + 1))] 5 rfl ?_
        exact ih (j + 1) (by omega) (by omega)
  refine go_aload_n (pc' := 1) h ⟨dM_gapOf_0, rfl⟩ rfl ?_
  refine gs_get (v := .ref 86) (pc' := 4) h ⟨dM_gapOf_1, rfl⟩ fgM_26 rfl (by decide) (rfl) ?_
  refine gd_callVV (E := rempty S 86) (pc' := 7) (As := []) (st := []) h hF ⟨dM_gapOf_4, rfl⟩ kvM_29 (cR_empty X rfl) (by omega) rfl (by decide) ⟨_, _, rfl⟩ rfl (Nat.le_of_ble_eq_true rfl) rfl ?_
  rw [rempty_86]
  refine gi_iconst (pc' := 8) h ⟨dM_gapOf_7, rfl⟩ ?_
  refine go_istore_n (L' := [.ref 79, .int (iI (c)), .int (iI (0))]) (pc' := 9) h ⟨dM_gapOf_8, rfl⟩ (by decide) rfl rfl ?_
  refine go_iload_n (pc' := 10) h ⟨dM_gapOf_9, rfl⟩ rfl ?_
  refine go_istore_n (L' := [.ref 79, .int (iI (c)), .int (iI (0)), .int (iI (c))]) (pc' := 11) h ⟨dM_gapOf_10, rfl⟩ (by decide) rfl rfl ?_
  refine gi_iconst (pc' := 12) h ⟨dM_gapOf_11, rfl⟩ ?_
  refine go_istore (L' := [.ref 79, .int (iI (c)), .int (iI (0)), .int (iI (c)), .int (iI (0))]) (pc' := 14) h ⟨dM_gapOf_12, rfl⟩ (by decide) rfl rfl ?_
  have h0 := loop 8 0 (by omega) (by omega)
  rw [Int.pow_zero, Int.ediv_one] at h0
  exact h0
noncomputable def mxF (S : Sg) : Nat → Int
  | 0 => 0
  | n + 1 => max (mxF S n) (gapV S (n : Int))
theorem mxF_bd {S : Sg} (hok : measOk S) : ∀ n : Nat, 0 ≤ mxF S n ∧ mxF S n ≤ 6000000
  | 0 => by simp [mxF]
  | n + 1 => by
    have h1 := mxF_bd hok n
    have h2 := gapV_bd hok (n : Int)
    show 0 ≤ max (mxF S n) _ ∧ max (mxF S n) _ ≤ 6000000
    omega
theorem pow3_le : ∀ k : Nat, k < 7 → (1 : Int) ≤ 3 ^ k ∧ (3 : Int) ^ k ≤ 729 := by decide +kernel
set_option maxRecDepth 4000 in
theorem cM_least (X : XT) {S : Sg} (hok : measOk S) : Ctr X 2 yM_leastChange bM_leastChange 4 (some .int) [.ref 79] (mk S) (PI (fun r S' => r = mxF S (3 ^ measN S) ∧ ∃ f, S' = bst S f)) 0 0 := by
  refine Ctr.ofS (by decide) rfl (Nat.le_of_ble_eq_true rfl) (fun F h hF hE => ?_)
  obtain ⟨hz, ho⟩ := id hok
  have g9 := pow3_le (measN S) (by unfold measN; omega)
  have loop : ∀ (n : Nat) (j : Nat) (T : Sg), 730 < j + n → (j : Int) ≤ 3 ^ measN S → ((j = 0 ∧ T = S) ∨ ∃ f, T = bst S f) → Go F 4 (mk T) 0 0 16 [.ref 79, .int (iI (mxF S j)), .int (iI (3 ^ measN S)), .int (iI (j : Int))] [] := by
    intro n
    induction n with
    | zero => intro j T g4 g6; exfalso; omega
    | succ n ih =>
      intro j T g4 g6 g7
      have g10 := mxF_bd hok j
      have g11 := gapV_bd hok (j : Int)
      have g12 : ∀ c : Int, 0 ≤ c ∧ c ≤ 100000 → ∃ f, Ctr X 1 yM_gapOf bM_gapOf 6 (some .int) [.ref 79, .int (iI c)] (mk T) (PI (fun r S' => r = gapV S c ∧ S' = bst S f)) 0 0 := by
        intro c hc
        rcases g7 with ⟨-, rfl⟩ | ⟨f, rfl⟩
        · exact ⟨_, cM_gapOf X hok hc⟩
        · have h0 := cM_gapOf X (hok.bst f) hc
          rw [gapV_bst, bst_bst] at h0
          exact ⟨_, h0⟩
      refine go_iload_n (pc' := 17) h ⟨dM_leastChange_16, rfl⟩ rfl ?_
      refine go_iload_n (pc' := 18) h ⟨dM_leastChange_17, rfl⟩ rfl ?_
      refine gi_icmp_ge (tgt := 37) (pc' := 21) h dM_leastChange_18 rfl rfl (by omega) (fun c18 => ?_) (fun c18 => ?_)
      · refine go_iload_n (pc' := 38) h ⟨dM_leastChange_37, rfl⟩ rfl ?_
        exact gs_iret h hE dM_leastChange_38 (⟨by rw [show j = 3 ^ measN S by have := g6; have e : ((3 ^ measN S : Nat) : Int) = 3 ^ measN S := Int.natCast_pow 3 (measN S); omega], g7.resolve_left (fun e => by omega)⟩)
      · refine go_iload_n (pc' := 22) h ⟨dM_leastChange_21, rfl⟩ rfl ?_
        refine go_aload_n (pc' := 23) h ⟨dM_leastChange_22, rfl⟩ rfl ?_
        refine go_iload_n (pc' := 24) h ⟨dM_leastChange_23, rfl⟩ rfl ?_
        obtain ⟨f, hct⟩ := g12 (j : Int) (by omega)
        refine gd_callVI (e := gapV S (j : Int)) (E := bst S f) (pc' := 27) (As := [.int (iI ((j : Int)))]) (st := [.int (iI (mxF S j))]) h hF ⟨dM_leastChange_24, rfl⟩ kvM_60 (hct) (by omega) rfl (by decide) ⟨_, _, rfl⟩ rfl (Nat.le_of_ble_eq_true rfl) rfl ?_
        refine gd_callSI (e := max (mxF S j) (gapV S (j : Int))) (E := bst S f) (pc' := 30) (As := [.int (iI (mxF S j)), .int (iI (gapV S (j : Int)))]) (st := []) h hF ⟨dM_leastChange_27, rfl⟩ kvM_63 (cK_max X (by omega)) (by omega) rfl (Nat.le_of_ble_eq_true rfl) rfl ?_
        refine go_istore_n (L' := [.ref 79, .int (iI (max (mxF S j) (gapV S (j : Int)))), .int (iI (3 ^ measN S)), .int (iI ((j : Int)))]) (pc' := 31) h ⟨dM_leastChange_30, rfl⟩ (by decide) rfl rfl ?_
        refine gi_iinc (L' := [.ref 79, .int (iI (max (mxF S j) (gapV S (j : Int)))), .int (iI (3 ^ measN S)), .int (iI ((j : Int) + 1))]) (pc' := 34) h ⟨dM_leastChange_31, rfl⟩ rfl (by decide) rfl rfl ?_
        refine gi_goto (tgt := 16) h dM_leastChange_34 rfl ?_
        exact ih (j + 1) _ (by omega) (by omega) (Or.inr ⟨_, rfl⟩)
  refine gi_iconst (pc' := 1) h ⟨dM_leastChange_0, rfl⟩ ?_
  refine go_istore_n (L' := [.ref 79, .int (iI (0))]) (pc' := 2) h ⟨dM_leastChange_1, rfl⟩ (by decide) rfl rfl ?_
  refine gi_iconst (pc' := 3) h ⟨dM_leastChange_2, rfl⟩ ?_
  refine go_aload_n (pc' := 4) h ⟨dM_leastChange_3, rfl⟩ rfl ?_
  refine gs_get (v := .ref 84) (pc' := 7) h ⟨dM_leastChange_4, rfl⟩ fgM_23 rfl (by decide) (rfl) ?_
  refine gd_callVI (e := S.1 84 1) (E := S) (pc' := 10) (As := []) (st := [.int (iI (3))]) h hF ⟨dM_leastChange_7, rfl⟩ kvM_35 (cR_size X rfl) (by omega) rfl (by decide) ⟨_, _, rfl⟩ rfl (Nat.le_of_ble_eq_true rfl) rfl ?_
  refine gd_callSNI (e := 3 ^ measN S) (E := S) (pc' := 13) (As := [.int (iI (3)), .int (iI (S.1 84 1))]) (st := []) h hF ⟨dM_leastChange_10, rfl⟩ kvM_56 (cX_power X (by omega)) (by omega) rfl (Nat.le_of_ble_eq_true rfl) rfl ?_
  refine go_istore_n (L' := [.ref 79, .int (iI (0)), .int (iI (3 ^ measN S))]) (pc' := 14) h ⟨dM_leastChange_13, rfl⟩ (by decide) rfl rfl ?_
  refine gi_iconst (pc' := 15) h ⟨dM_leastChange_14, rfl⟩ ?_
  refine go_istore_n (L' := [.ref 79, .int (iI (0)), .int (iI (3 ^ measN S)), .int (iI (0))]) (pc' := 16) h ⟨dM_leastChange_15, rfl⟩ (by decide) rfl rfl ?_
  exact loop 731 0 S (by omega) (by omega) (Or.inl ⟨rfl, rfl⟩)
