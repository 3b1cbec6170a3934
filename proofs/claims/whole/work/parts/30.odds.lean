/-! the reference: odds -/
def gcE : Nat → Int → Int → Bool
  | 0, _, r => r == 0
  | n + 1, f, r => r == 0 || gcE n r (f % r)
def odB (x k fr : Int) : Bool := decide (0 ≤ sumI (awF x k fr) (2 ^ fr.toNat) ∧ sumI (awF x k fr) (2 ^ fr.toNat) ≤ 10000) && (decide ((1 : Int) ≤ 10 ^ fr.toNat ∧ (10 : Int) ^ fr.toNat ≤ 10000) && (decide (1 ≤ gcF 64 (sumI (awF x k fr) (2 ^ fr.toNat)) (10 ^ fr.toNat) ∧ gcF 64 (sumI (awF x k fr) (2 ^ fr.toNat)) (10 ^ fr.toNat) ≤ 10000) && gcE 64 (sumI (awF x k fr) (2 ^ fr.toNat)) (10 ^ fr.toNat)))
theorem odd_all : ∀ fr : Nat, fr < 5 → ∀ x : Nat, x < 11 → ∀ k : Nat, k < 5 → odB (x : Int) (k : Int) (fr : Int) = true := by decide +kernel
theorem oddAll {x k fr : Int} (hx : 0 ≤ x ∧ x ≤ 10) (hk : 0 ≤ k ∧ k ≤ 4) (hf : 0 ≤ fr ∧ fr ≤ 4) : (0 ≤ sumI (awF x k fr) (2 ^ fr.toNat) ∧ sumI (awF x k fr) (2 ^ fr.toNat) ≤ 10000) ∧ ((1 : Int) ≤ 10 ^ fr.toNat ∧ (10 : Int) ^ fr.toNat ≤ 10000) ∧ (1 ≤ gcF 64 (sumI (awF x k fr) (2 ^ fr.toNat)) (10 ^ fr.toNat) ∧ gcF 64 (sumI (awF x k fr) (2 ^ fr.toNat)) (10 ^ fr.toNat) ≤ 10000) ∧ gcE 64 (sumI (awF x k fr) (2 ^ fr.toNat)) (10 ^ fr.toNat) = true := by
  have h := odd_all fr.toNat (by omega) x.toNat (by omega) k.toNat (by omega)
  rw [Int.toNat_of_nonneg hx.1, Int.toNat_of_nonneg hk.1, Int.toNat_of_nonneg hf.1] at h
  unfold odB at h
  rw [Bool.and_eq_true, Bool.and_eq_true, Bool.and_eq_true, decide_eq_true_iff, decide_eq_true_iff, decide_eq_true_iff] at h
  exact h
set_option maxRecDepth 4000 in
theorem cZ_power (X : XT) {S : Sg} {b e : Int} (he : -100 ≤ e ∧ e ≤ 100) : Ctr X 0 yZ_power bZ_power 4 (some .int) [.int (iI (b)), .int (iI (e))] (mk S) (PI (fun r S' => r = b ^ e.toNat ∧ S' = S)) 0 0 := by
  refine Ctr.ofS (by decide) rfl (Nat.le_of_ble_eq_true rfl) (fun F h hF hE => ?_)
  have loop : ∀ (n : Nat) (j : Nat), 101 < j + n → (j : Int) ≤ max e 0 → Go F 4 (mk S) 0 0 4 [.int (iI b), .int (iI e), .int (iI (b ^ j)), .int (iI (j : Int))] [] := by
    intro n
    induction n with
    | zero => intro j g4 g6; exfalso; omega
    | succ n ih =>
      intro j g4 g6
      refine go_iload_n (pc' := 5) h ⟨dZ_power_4, rfl⟩ rfl ?_
      refine go_iload_n (pc' := 6) h ⟨dZ_power_5, rfl⟩ rfl ?_
      refine gi_icmp_ge (tgt := 19) (pc' := 9) h dZ_power_6 rfl rfl (by omega) (fun c6 => ?_) (fun c6 => ?_)
      · refine go_iload_n (pc' := 20) h ⟨dZ_power_19, rfl⟩ rfl ?_
        exact gs_iret h hE dZ_power_20 (⟨by rw [show e.toNat = j by omega], rfl⟩)
      · refine go_iload_n (pc' := 10) h ⟨dZ_power_9, rfl⟩ rfl ?_
        refine go_iload_n (pc' := 11) h ⟨dZ_power_10, rfl⟩ rfl ?_
        refine gi_imul (pc' := 12) h ⟨dZ_power_11, rfl⟩ ?_
        refine go_istore_n (L' := [.int (iI (b)), .int (iI (e)), .int (iI ((b ^ j) * b)), .int (iI ((j : Int)))]) (pc' := 13) h ⟨dZ_power_12, rfl⟩ (by decide) rfl rfl ?_
        refine gi_iinc (L' := [.int (iI (b)), .int (iI (e)), .int (iI ((b ^ j) * b)), .int (iI ((j : Int) + 1))]) (pc' := 16) h ⟨dZ_power_13, rfl⟩ rfl (by decide) rfl rfl ?_
        refine gi_goto (tgt := 4) h dZ_power_16 rfl ?_
        have g7 := ih (j + 1) (by omega) (by omega)
        rw [Int.pow_succ] at g7
        exact g7
  refine gi_iconst (pc' := 1) h ⟨dZ_power_0, rfl⟩ ?_
  refine go_istore_n (L' := [.int (iI (b)), .int (iI (e)), .int (iI (1))]) (pc' := 2) h ⟨dZ_power_1, rfl⟩ (by decide) rfl rfl ?_
  refine gi_iconst (pc' := 3) h ⟨dZ_power_2, rfl⟩ ?_
  refine go_istore_n (L' := [.int (iI (b)), .int (iI (e)), .int (iI (1)), .int (iI (0))]) (pc' := 4) h ⟨dZ_power_3, rfl⟩ (by decide) rfl rfl ?_
  have h0 := loop 102 0 (by omega) (by omega)
  rw [Int.pow_zero] at h0
  exact h0
set_option maxRecDepth 4000 in
theorem cZ_gcd (X : XT) {S : Sg} {a b : Int} (ha : 0 ≤ a ∧ a ≤ 1000000000) (hb : 0 ≤ b ∧ b ≤ 1000000000) (hg : gcE 64 a b = true) : Ctr X 0 yZ_gcd bZ_gcd 5 (some .int) [.int (iI (a)), .int (iI (b))] (mk S) (PI (fun r S' => r = gcF 64 a b ∧ S' = S)) 0 0 := by
  refine Ctr.ofS (by decide) rfl (Nat.le_of_ble_eq_true rfl) (fun F h hF hE => ?_)
  have loop : ∀ (n : Nat) (f r : Int) (LL : List Value), LL.take 4 = [.int (iI a), .int (iI b), .int (iI f), .int (iI r)] → 0 ≤ f ∧ f ≤ 1000000000 → 0 ≤ r ∧ r ≤ 1000000000 → gcF 64 a b = gcF n f r → gcE n f r = true → Go F 5 (mk S) 0 0 4 LL [] := by
    intro n
    induction n with
    | zero =>
      intro f r LL hL g3 g4 g5 g6
      have e : r = 0 := by simpa [gcE] using g6
      refine Go.cut [.int (iI a), .int (iI b), .int (iI f), .int (iI r)] 4 hL ?_
      refine go_iload_n (pc' := 5) h ⟨dZ_gcd_4, rfl⟩ rfl ?_
      refine gi_if_eq (tgt := 21) (pc' := 8) h dZ_gcd_5 rfl rfl (by omega) (fun c5 => ?_) (fun c5 => ?_)
      · refine go_iload_n (pc' := 22) h ⟨dZ_gcd_21, rfl⟩ rfl ?_
        exact gs_iret h hE dZ_gcd_22 (⟨by rw [g5]; rfl, rfl⟩)
      · exfalso; omega
    | succ n ih =>
      intro f r LL hL g3 g4 g5 g6
      refine Go.cut [.int (iI a), .int (iI b), .int (iI f), .int (iI r)] 4 hL ?_
      refine go_iload_n (pc' := 5) h ⟨dZ_gcd_4, rfl⟩ rfl ?_
      refine gi_if_eq (tgt := 21) (pc' := 8) h dZ_gcd_5 rfl rfl (by omega) (fun c5 => ?_) (fun c5 => ?_)
      · refine go_iload_n (pc' := 22) h ⟨dZ_gcd_21, rfl⟩ rfl ?_
        exact gs_iret h hE dZ_gcd_22 (⟨by rw [g5, gcF, if_pos (by omega)], rfl⟩)
      · refine go_iload_n (pc' := 9) h ⟨dZ_gcd_8, rfl⟩ rfl ?_
        refine go_iload_n (pc' := 10) h ⟨dZ_gcd_9, rfl⟩ rfl ?_
        refine gi_irem (pc' := 11) h ⟨dZ_gcd_10, rfl⟩ (by omega) ?_
        refine go_istore (L' := [.int (iI (a)), .int (iI (b)), .int (iI (f)), .int (iI (r)), .int (iI (f % r))]) (pc' := 13) h ⟨dZ_gcd_11, rfl⟩ (by decide) rfl rfl ?_
        refine go_iload_n (pc' := 14) h ⟨dZ_gcd_13, rfl⟩ rfl ?_
        refine go_istore_n (L' := [.int (iI (a)), .int (iI (b)), .int (iI (r)), .int (iI (r)), .int (iI (f % r))]) (pc' := 15) h ⟨dZ_gcd_14, rfl⟩ (by decide) rfl rfl ?_
        refine go_iload (pc' := 17) h ⟨dZ_gcd_15, rfl⟩ rfl ?_
        refine go_istore_n (L' := [.int (iI (a)), .int (iI (b)), .int (iI (r)), .int (iI (f % r)), .int (iI (f % r))]) (pc' := 18) h ⟨dZ_gcd_17, rfl⟩ (by decide) rfl rfl ?_
        refine gi_goto (tgt := 4) h dZ_gcd_18 rfl ?_
        have g7 : 0 ≤ f % r := Int.emod_nonneg _ (by omega)
        have g8 : f % r < r := Int.emod_lt_of_pos _ (by omega)
        have g9 : gcE n r (f % r) = true := by
          rw [gcE] at g6
          rcases (Bool.or_eq_true _ _).mp g6 with q | q
          · exact absurd (eq_of_beq q) (by omega)
          · exact q
        exact ih r (f % r) _ rfl (by omega) (by omega) (by rw [g5, gcF, if_neg (by omega)]) g9
  refine go_iload_n (pc' := 1) h ⟨dZ_gcd_0, rfl⟩ rfl ?_
  refine go_istore_n (L' := [.int (iI (a)), .int (iI (b)), .int (iI (a))]) (pc' := 2) h ⟨dZ_gcd_1, rfl⟩ (by decide) rfl rfl ?_
  refine go_iload_n (pc' := 3) h ⟨dZ_gcd_2, rfl⟩ rfl ?_
  refine go_istore_n (L' := [.int (iI (a)), .int (iI (b)), .int (iI (a)), .int (iI (b))]) (pc' := 4) h ⟨dZ_gcd_3, rfl⟩ (by decide) rfl rfl ?_
  exact loop 64 a b _ rfl ha hb rfl hg
def frZ (S : Sg) : Int := S.1 90 1 - onesI (S.1 95 4)
def odZ (S : Sg) (x y : Int) : Int := sumI (awF x y (frZ S)) (2 ^ (frZ S).toNat)
def zOdds (S : Sg) (x y v : Int) : Int × Sg := if x < 0 ∨ 10 < x ∨ y < 0 ∨ 4 < y ∨ v < 0 ∨ 1 < v then (-1, S) else if v = 0 then (odZ S x y / gcF 64 (odZ S x y) (10 ^ (frZ S).toNat), S) else (10 ^ (frZ S).toNat / gcF 64 (odZ S x y) (10 ^ (frZ S).toNat), S)
set_option maxRecDepth 4000 in
theorem cZ_odds (X : XT) {S : Sg} (hZ : ZI S) (hfr : 0 ≤ frZ S) {x y v : Int} (hx : -2147483648 ≤ x ∧ x ≤ 2147483647) (hy : -2147483648 ≤ y ∧ y ≤ 2147483647) (hv : -2147483648 ≤ v ∧ v ≤ 2147483647) : Ctr X 6 yZ_odds bZ_odds 8 (some .int) [.ref 88, .int (iI (x)), .int (iI (y)), .int (iI (v))] (mk S) (PI (fun r S' => r = (zOdds S x y v).1 ∧ S' = (zOdds S x y v).2)) 0 0 := by
  refine Ctr.ofS (by decide) rfl (Nat.le_of_ble_eq_true rfl) (fun F h hF hE => ?_)
  obtain ⟨z0, zt, ztx, zm0, zm1, zm2, zm3, zst, ztr, zat, zsy, zth, ztg, zwr, zun, zkp, zse, zsk, zme, zmk, zl5, zl6, zl7⟩ := id hZ
  have h4 := onesIbd zsy
  have hf4 : 0 ≤ frZ S ∧ frZ S ≤ 4 := by unfold frZ at hfr ⊢; omega
  have hp := pow2le hf4
  have loop : (0 ≤ x ∧ x ≤ 10) → (0 ≤ y ∧ y ≤ 4) → (0 ≤ v ∧ v ≤ 1) → ∀ (n : Nat) (j : Int), 16 < j + n → 0 ≤ j → j ≤ 2 ^ (frZ S).toNat → Go F 8 (mk S) 0 0 59 [.ref 88, .int (iI x), .int (iI y), .int (iI v), .int (iI (frZ S)), .int (iI (sumI (awF x y (frZ S)) j)), .int (iI j)] [] := by
    intro hx hy hv n
    have hod := oddAll hx hy hf4
    change (0 ≤ odZ S x y ∧ odZ S x y ≤ 10000) ∧ ((1 : Int) ≤ 10 ^ (frZ S).toNat ∧ (10 : Int) ^ (frZ S).toNat ≤ 10000) ∧ (1 ≤ gcF 64 (odZ S x y) (10 ^ (frZ S).toNat) ∧ gcF 64 (odZ S x y) (10 ^ (frZ S).toNat) ≤ 10000) ∧ gcE 64 (odZ S x y) (10 ^ (frZ S).toNat) = true at hod
    induction n with
    | zero => intro j g4 g5 g6; exfalso; omega
    | succ n ih =>
      intro j g4 g5 g6
      refine go_iload (pc' := 61) h ⟨dZ_odds_59, rfl⟩ rfl ?_
      refine gi_iconst (pc' := 62) h ⟨dZ_odds_61, rfl⟩ ?_
      refine go_iload (pc' := 64) h ⟨dZ_odds_62, rfl⟩ rfl ?_
      refine gi_ishl (c := 2 ^ (frZ S).toNat) (pc' := 65) h ⟨dZ_odds_64, rfl⟩ (shl1 hf4) ?_
      refine gi_icmp_ge (tgt := 117) (pc' := 68) h dZ_odds_65 rfl rfl (by omega) (fun c65 => ?_) (fun c65 => ?_)
      · have e_j : j = 2 ^ (frZ S).toNat := by omega
        subst e_j
        refine Go.cut [.ref 88, .int (iI (x)), .int (iI (y)), .int (iI (v)), .int (iI (frZ S)), .int (iI (odZ S x y))] 6 rfl ?_
        refine gi_bipush (pc' := 119) h ⟨dZ_odds_117, rfl⟩ rfl ?_
        refine go_iload (pc' := 121) h ⟨dZ_odds_119, rfl⟩ rfl ?_
        refine gd_callSI (e := 10 ^ (frZ S).toNat) (E := S) (pc' := 124) (As := [.int (iI (10)), .int (iI (frZ S))]) (st := []) h hF ⟨dZ_odds_121, rfl⟩ kvZ_204 (cZ_power X (by omega)) (by omega) rfl (Nat.le_of_ble_eq_true rfl) rfl ?_
        refine go_istore (L' := [.ref 88, .int (iI (x)), .int (iI (y)), .int (iI (v)), .int (iI (frZ S)), .int (iI (odZ S x y)), .int (iI (10 ^ (frZ S).toNat))]) (pc' := 126) h ⟨dZ_odds_124, rfl⟩ (by decide) rfl rfl ?_
        refine go_iload (pc' := 128) h ⟨dZ_odds_126, rfl⟩ rfl ?_
        refine go_iload (pc' := 130) h ⟨dZ_odds_128, rfl⟩ rfl ?_
        refine gd_callSI (e := gcF 64 (odZ S x y) (10 ^ (frZ S).toNat)) (E := S) (pc' := 133) (As := [.int (iI (odZ S x y)), .int (iI (10 ^ (frZ S).toNat))]) (st := []) h hF ⟨dZ_odds_130, rfl⟩ kvZ_207 (cZ_gcd X (a := odZ S x y) (by omega) (by omega) hod.2.2.2) (by omega) rfl (Nat.le_of_ble_eq_true rfl) rfl ?_
        refine go_istore (L' := [.ref 88, .int (iI (x)), .int (iI (y)), .int (iI (v)), .int (iI (frZ S)), .int (iI (odZ S x y)), .int (iI (10 ^ (frZ S).toNat)), .int (iI (gcF 64 (odZ S x y) (10 ^ (frZ S).toNat)))]) (pc' := 135) h ⟨dZ_odds_133, rfl⟩ (by decide) rfl rfl ?_
        refine go_iload_n (pc' := 136) h ⟨dZ_odds_135, rfl⟩ rfl ?_
        refine gi_if_ne (tgt := 147) (pc' := 139) h dZ_odds_136 rfl rfl (by omega) (fun c136 => ?_) (fun c136 => ?_)
        · refine go_iload (pc' := 149) h ⟨dZ_odds_147, rfl⟩ rfl ?_
          refine go_iload (pc' := 151) h ⟨dZ_odds_149, rfl⟩ rfl ?_
          refine gi_idiv (pc' := 152) h ⟨dZ_odds_151, rfl⟩ (by omega) ?_
          exact gs_iret h hE dZ_odds_152 (by unfold zOdds; rw [if_neg (by omega), if_neg (by omega)]; exact ⟨rfl, rfl⟩)
        · refine go_iload (pc' := 141) h ⟨dZ_odds_139, rfl⟩ rfl ?_
          refine go_iload (pc' := 143) h ⟨dZ_odds_141, rfl⟩ rfl ?_
          refine gi_idiv (pc' := 144) h ⟨dZ_odds_143, rfl⟩ (by omega) ?_
          refine gi_goto (tgt := 152) h dZ_odds_144 rfl ?_
          exact gs_iret h hE dZ_odds_152 (by unfold zOdds; rw [if_neg (by omega), if_pos (by omega)]; exact ⟨rfl, rfl⟩)
      · have g7 := onesIbd (a := j) (by omega)
        refine go_iload (pc' := 70) h ⟨dZ_odds_68, rfl⟩ rfl ?_
        refine go_iload (pc' := 72) h ⟨dZ_odds_70, rfl⟩ rfl ?_
        refine gd_callSI (e := onesI j) (E := S) (pc' := 75) (As := [.int (iI (j))]) (st := [.int (iI (sumI (awF x y (frZ S)) j))]) h hF ⟨dZ_odds_72, rfl⟩ kvZ_153 (cZ_ones X (by omega)) (by omega) rfl (Nat.le_of_ble_eq_true rfl) rfl ?_
        refine go_iload_n (pc' := 76) h ⟨dZ_odds_75, rfl⟩ rfl ?_
        refine gi_icmp_gt (tgt := 107) (pc' := 79) h dZ_odds_76 rfl rfl (by omega) (fun c76 => ?_) (fun c76 => ?_)
        · refine gi_iconst (pc' := 108) h ⟨dZ_odds_107, rfl⟩ ?_
          refine gi_iadd (pc' := 109) h ⟨dZ_odds_108, rfl⟩ ?_
          refine go_istore (L' := [.ref 88, .int (iI (x)), .int (iI (y)), .int (iI (v)), .int (iI (frZ S)), .int (iI ((sumI (awF x y (frZ S)) j) + 0)), .int (iI (j))]) (pc' := 111) h ⟨dZ_odds_109, rfl⟩ (by decide) rfl rfl ?_
          refine gi_iinc (L' := [.ref 88, .int (iI (x)), .int (iI (y)), .int (iI (v)), .int (iI (frZ S)), .int (iI ((sumI (awF x y (frZ S)) j) + 0)), .int (iI (j + 1))]) (pc' := 114) h ⟨dZ_odds_111, rfl⟩ rfl (by decide) rfl rfl ?_
          refine gi_goto (tgt := 59) h dZ_odds_114 rfl ?_
          have g12 := ih (j + 1) (by omega) (by omega) (by omega)
          rw [sumI_s _ g5, awF, if_neg (by omega)] at g12
          exact g12
        · refine go_iload_n (pc' := 80) h ⟨dZ_odds_79, rfl⟩ rfl ?_
          refine go_iload (pc' := 82) h ⟨dZ_odds_80, rfl⟩ rfl ?_
          refine gd_callSI (e := onesI j) (E := S) (pc' := 85) (As := [.int (iI (j))]) (st := [.int (iI (x)), .int (iI (sumI (awF x y (frZ S)) j))]) h hF ⟨dZ_odds_82, rfl⟩ kvZ_153 (cZ_ones X (by omega)) (by omega) rfl (Nat.le_of_ble_eq_true rfl) rfl ?_
          refine gd_callSI (e := x ^ (onesI j).toNat) (E := S) (pc' := 88) (As := [.int (iI (x)), .int (iI (onesI j))]) (st := [.int (iI (sumI (awF x y (frZ S)) j))]) h hF ⟨dZ_odds_85, rfl⟩ kvZ_204 (cZ_power X (by omega)) (by omega) rfl (Nat.le_of_ble_eq_true rfl) rfl ?_
          refine gi_bipush (pc' := 90) h ⟨dZ_odds_88, rfl⟩ rfl ?_
          refine go_iload_n (pc' := 91) h ⟨dZ_odds_90, rfl⟩ rfl ?_
          refine gi_isub (pc' := 92) h ⟨dZ_odds_91, rfl⟩ ?_
          refine go_iload (pc' := 94) h ⟨dZ_odds_92, rfl⟩ rfl ?_
          refine go_iload (pc' := 96) h ⟨dZ_odds_94, rfl⟩ rfl ?_
          refine gd_callSI (e := onesI j) (E := S) (pc' := 99) (As := [.int (iI (j))]) (st := [.int (iI (frZ S)), .int (iI (10 - x)), .int (iI (x ^ (onesI j).toNat)), .int (iI (sumI (awF x y (frZ S)) j))]) h hF ⟨dZ_odds_96, rfl⟩ kvZ_153 (cZ_ones X (by omega)) (by omega) rfl (Nat.le_of_ble_eq_true rfl) rfl ?_
          refine gi_isub (pc' := 100) h ⟨dZ_odds_99, rfl⟩ ?_
          refine gd_callSI (e := (10 - x) ^ ((frZ S) - (onesI j)).toNat) (E := S) (pc' := 103) (As := [.int (iI (10 - x)), .int (iI ((frZ S) - (onesI j)))]) (st := [.int (iI (x ^ (onesI j).toNat)), .int (iI (sumI (awF x y (frZ S)) j))]) h hF ⟨dZ_odds_100, rfl⟩ kvZ_204 (cZ_power X (by omega)) (by omega) rfl (Nat.le_of_ble_eq_true rfl) rfl ?_
          refine gi_imul (pc' := 104) h ⟨dZ_odds_103, rfl⟩ ?_
          refine gi_goto (tgt := 108) h dZ_odds_104 rfl ?_
          refine gi_iadd (pc' := 109) h ⟨dZ_odds_108, rfl⟩ ?_
          refine go_istore (L' := [.ref 88, .int (iI (x)), .int (iI (y)), .int (iI (v)), .int (iI (frZ S)), .int (iI ((sumI (awF x y (frZ S)) j) + ((x ^ (onesI j).toNat) * ((10 - x) ^ ((frZ S) - (onesI j)).toNat)))), .int (iI (j))]) (pc' := 111) h ⟨dZ_odds_109, rfl⟩ (by decide) rfl rfl ?_
          refine gi_iinc (L' := [.ref 88, .int (iI (x)), .int (iI (y)), .int (iI (v)), .int (iI (frZ S)), .int (iI ((sumI (awF x y (frZ S)) j) + ((x ^ (onesI j).toNat) * ((10 - x) ^ ((frZ S) - (onesI j)).toNat)))), .int (iI (j + 1))]) (pc' := 114) h ⟨dZ_odds_111, rfl⟩ rfl (by decide) rfl rfl ?_
          refine gi_goto (tgt := 59) h dZ_odds_114 rfl ?_
          have g12 := ih (j + 1) (by omega) (by omega) (by omega)
          rw [sumI_s _ g5, awF, if_pos (by omega)] at g12
          exact g12
  refine go_aload_n (pc' := 1) h ⟨dZ_odds_0, rfl⟩ rfl ?_
  refine gi_iconst (pc' := 2) h ⟨dZ_odds_1, rfl⟩ ?_
  refine gd_putI (i := 0) (pc' := 5) h ⟨dZ_odds_2, rfl⟩ fpZ_68 rfl (by decide) rfl rfl ?_
  rw [pt_z z0]
  refine go_iload_n (pc' := 6) h ⟨dZ_odds_5, rfl⟩ rfl ?_
  refine gi_iconst (pc' := 7) h ⟨dZ_odds_6, rfl⟩ ?_
  refine gi_bipush (pc' := 9) h ⟨dZ_odds_7, rfl⟩ rfl ?_
  refine gd_callSI (e := if 0 ≤ x ∧ x ≤ 10 then 1 else 0) (E := S) (pc' := 12) (As := [.int (iI (x)), .int (iI (0)), .int (iI (10))]) (st := []) h hF ⟨dZ_odds_9, rfl⟩ kvZ_72 (cZ_in X (by omega)) (by omega) rfl (Nat.le_of_ble_eq_true rfl) rfl ?_
  refine gi_if_eq (tgt := 33) (pc' := 15) h dZ_odds_12 rfl rfl (by split <;> omega) (fun c12 => ?_) (fun c12 => ?_)
  · have c12 := b0 c12
    refine gi_iconst (pc' := 34) h ⟨dZ_odds_33, rfl⟩ ?_
    exact gs_iret h hE dZ_odds_34 (by unfold zOdds; rw [if_pos (by omega)]; exact ⟨rfl, rfl⟩)
  · have c12 := b1 c12
    refine go_iload_n (pc' := 16) h ⟨dZ_odds_15, rfl⟩ rfl ?_
    refine gi_iconst (pc' := 17) h ⟨dZ_odds_16, rfl⟩ ?_
    refine gi_iconst (pc' := 18) h ⟨dZ_odds_17, rfl⟩ ?_
    refine gd_callSI (e := if 0 ≤ y ∧ y ≤ 4 then 1 else 0) (E := S) (pc' := 21) (As := [.int (iI (y)), .int (iI (0)), .int (iI (4))]) (st := []) h hF ⟨dZ_odds_18, rfl⟩ kvZ_72 (cZ_in X (by omega)) (by omega) rfl (Nat.le_of_ble_eq_true rfl) rfl ?_
    refine gi_if_eq (tgt := 33) (pc' := 24) h dZ_odds_21 rfl rfl (by split <;> omega) (fun c21 => ?_) (fun c21 => ?_)
    · have c21 := b0 c21
      refine gi_iconst (pc' := 34) h ⟨dZ_odds_33, rfl⟩ ?_
      exact gs_iret h hE dZ_odds_34 (by unfold zOdds; rw [if_pos (by omega)]; exact ⟨rfl, rfl⟩)
    · have c21 := b1 c21
      refine go_iload_n (pc' := 25) h ⟨dZ_odds_24, rfl⟩ rfl ?_
      refine gi_iconst (pc' := 26) h ⟨dZ_odds_25, rfl⟩ ?_
      refine gi_iconst (pc' := 27) h ⟨dZ_odds_26, rfl⟩ ?_
      refine gd_callSI (e := if 0 ≤ v ∧ v ≤ 1 then 1 else 0) (E := S) (pc' := 30) (As := [.int (iI (v)), .int (iI (0)), .int (iI (1))]) (st := []) h hF ⟨dZ_odds_27, rfl⟩ kvZ_72 (cZ_in X (by omega)) (by omega) rfl (Nat.le_of_ble_eq_true rfl) rfl ?_
      refine gi_if_ne (tgt := 35) (pc' := 33) h dZ_odds_30 rfl rfl (by split <;> omega) (fun c30 => ?_) (fun c30 => ?_)
      · have c30 := b1 c30
        refine go_aload_n (pc' := 36) h ⟨dZ_odds_35, rfl⟩ rfl ?_
        refine gs_get (v := .ref 90) (pc' := 39) h ⟨dZ_odds_36, rfl⟩ fgZ_13 rfl (by decide) (rfl) ?_
        refine gi_iconst (pc' := 40) h ⟨dZ_odds_39, rfl⟩ ?_
        refine gs_iald (pc' := 41) h ⟨dZ_odds_40, rfl⟩ rfl (by have hln : (ln 90 : Int) = 8 := rfl; omega) ?_
        refine go_aload_n (pc' := 42) h ⟨dZ_odds_41, rfl⟩ rfl ?_
        refine gs_get (v := .ref 95) (pc' := 45) h ⟨dZ_odds_42, rfl⟩ fgZ_28 rfl (by decide) (rfl) ?_
        refine gi_iconst (pc' := 46) h ⟨dZ_odds_45, rfl⟩ ?_
        refine gs_iald (pc' := 47) h ⟨dZ_odds_46, rfl⟩ rfl (by have hln : (ln 95 : Int) = 212 := rfl; omega) ?_
        refine gd_callSI (e := onesI (S.1 95 4)) (E := S) (pc' := 50) (As := [.int (iI (S.1 95 4))]) (st := [.int (iI (S.1 90 1))]) h hF ⟨dZ_odds_47, rfl⟩ kvZ_153 (cZ_ones X (by omega)) (by omega) rfl (Nat.le_of_ble_eq_true rfl) rfl ?_
        refine gi_isub (pc' := 51) h ⟨dZ_odds_50, rfl⟩ ?_
        refine go_istore (L' := [.ref 88, .int (iI (x)), .int (iI (y)), .int (iI (v)), .int (iI ((S.1 90 1) - (onesI (S.1 95 4))))]) (pc' := 53) h ⟨dZ_odds_51, rfl⟩ (by decide) rfl rfl ?_
        refine gi_iconst (pc' := 54) h ⟨dZ_odds_53, rfl⟩ ?_
        refine go_istore (L' := [.ref 88, .int (iI (x)), .int (iI (y)), .int (iI (v)), .int (iI ((S.1 90 1) - (onesI (S.1 95 4)))), .int (iI (0))]) (pc' := 56) h ⟨dZ_odds_54, rfl⟩ (by decide) rfl rfl ?_
        refine gi_iconst (pc' := 57) h ⟨dZ_odds_56, rfl⟩ ?_
        refine go_istore (L' := [.ref 88, .int (iI (x)), .int (iI (y)), .int (iI (v)), .int (iI ((S.1 90 1) - (onesI (S.1 95 4)))), .int (iI (0)), .int (iI (0))]) (pc' := 59) h ⟨dZ_odds_57, rfl⟩ (by decide) rfl rfl ?_
        exact loop (by omega) (by omega) (by omega) 17 0 (by omega) (by omega) (by omega)
      · have c30 := b0 c30
        refine gi_iconst (pc' := 34) h ⟨dZ_odds_33, rfl⟩ ?_
        exact gs_iret h hE dZ_odds_34 (by unfold zOdds; rw [if_pos (by omega)]; exact ⟨rfl, rfl⟩)
def thV (S : Sg) (k i : Int) : Int := if mkZ S k ≤ S.1 95 (6 + i) ∧ S.1 95 (6 + i) ≤ mkZ S (k + 1) - 1 then 1 else 0
def thO (S : Sg) (k : Int) : Int := sumI (thV S k) (S.1 95 5)
set_option maxRecDepth 4000 in
theorem cZ_thingsOn (X : XT) {S : Sg} (hZ : ZI S) {k : Int} (hk : 0 ≤ k ∧ k < S.1 90 0) : Ctr X 1 yZ_thingsOn bZ_thingsOn 4 (some .int) [.ref 88, .int (iI (k))] (mk S) (PI (fun r S' => r = thO S k ∧ S' = S)) 0 0 := by
  refine Ctr.ofS (by decide) rfl (Nat.le_of_ble_eq_true rfl) (fun F h hF hE => ?_)
  obtain ⟨z0, zt, ztx, zm0, zm1, zm2, zm3, zst, ztr, zat, zsy, zth, ztg, zwr, zun, zkp, zse, zsk, zme, zmk, zl5, zl6, zl7⟩ := id hZ
  have hZS : ZS S := ⟨zm0, zst⟩
  have htp := tpZ_bd hZS
  have hm1 := mkZ_le hZS (l := k) (by omega)
  have hm2 := mkZ_le hZS (l := k + 1) (by omega)
  have loop : ∀ (n : Nat) (j : Int), 6 < j + n → 0 ≤ j → j ≤ S.1 95 5 → Go F 4 (mk S) 0 0 4 [.ref 88, .int (iI k), .int (iI (sumI (thV S k) j)), .int (iI j)] [] := by
    intro n
    induction n with
    | zero => intro j g4 g5 g6; exfalso; omega
    | succ n ih =>
      intro j g4 g5 g6
      refine go_iload_n (pc' := 5) h ⟨dZ_thingsOn_4, rfl⟩ rfl ?_
      refine go_aload_n (pc' := 6) h ⟨dZ_thingsOn_5, rfl⟩ rfl ?_
      refine gs_get (v := .ref 95) (pc' := 9) h ⟨dZ_thingsOn_6, rfl⟩ fgZ_28 rfl (by decide) (rfl) ?_
      refine gi_iconst (pc' := 10) h ⟨dZ_thingsOn_9, rfl⟩ ?_
      refine gs_iald (pc' := 11) h ⟨dZ_thingsOn_10, rfl⟩ rfl (by have hln : (ln 95 : Int) = 212 := rfl; omega) ?_
      refine gi_icmp_ge (tgt := 57) (pc' := 14) h dZ_thingsOn_11 rfl rfl (by omega) (fun c11 => ?_) (fun c11 => ?_)
      · refine go_iload_n (pc' := 58) h ⟨dZ_thingsOn_57, rfl⟩ rfl ?_
        exact gs_iret h hE dZ_thingsOn_58 (⟨by unfold thO; rw [show S.1 95 5 = j by omega], rfl⟩)
      · have ht := ztg (6 + j) (by omega) (by omega)
        refine go_iload_n (pc' := 15) h ⟨dZ_thingsOn_14, rfl⟩ rfl ?_
        refine go_aload_n (pc' := 16) h ⟨dZ_thingsOn_15, rfl⟩ rfl ?_
        refine gs_get (v := .ref 95) (pc' := 19) h ⟨dZ_thingsOn_16, rfl⟩ fgZ_28 rfl (by decide) (rfl) ?_
        refine gi_bipush (pc' := 21) h ⟨dZ_thingsOn_19, rfl⟩ rfl ?_
        refine go_iload_n (pc' := 22) h ⟨dZ_thingsOn_21, rfl⟩ rfl ?_
        refine gi_iadd (pc' := 23) h ⟨dZ_thingsOn_22, rfl⟩ ?_
        refine gs_iald (pc' := 24) h ⟨dZ_thingsOn_23, rfl⟩ rfl (by have hln : (ln 95 : Int) = 212 := rfl; omega) ?_
        refine go_aload_n (pc' := 25) h ⟨dZ_thingsOn_24, rfl⟩ rfl ?_
        refine go_iload_n (pc' := 26) h ⟨dZ_thingsOn_25, rfl⟩ rfl ?_
        refine gd_callVI (e := mkZ S k) (E := S) (pc' := 29) (As := [.int (iI (k))]) (st := [.int (iI (S.1 95 (6 + j))), .int (iI (sumI (thV S k) j))]) h hF ⟨dZ_thingsOn_26, rfl⟩ kvZ_136 (cZ_markOf X (by omega)) (by omega) rfl (by decide) ⟨_, _, rfl⟩ rfl (Nat.le_of_ble_eq_true rfl) rfl ?_
        refine go_aload_n (pc' := 30) h ⟨dZ_thingsOn_29, rfl⟩ rfl ?_
        refine go_iload_n (pc' := 31) h ⟨dZ_thingsOn_30, rfl⟩ rfl ?_
        refine gi_iconst (pc' := 32) h ⟨dZ_thingsOn_31, rfl⟩ ?_
        refine gi_iadd (pc' := 33) h ⟨dZ_thingsOn_32, rfl⟩ ?_
        refine gd_callVI (e := mkZ S (k + 1)) (E := S) (pc' := 36) (As := [.int (iI (k + 1))]) (st := [.int (iI (mkZ S k)), .int (iI (S.1 95 (6 + j))), .int (iI (sumI (thV S k) j))]) h hF ⟨dZ_thingsOn_33, rfl⟩ kvZ_136 (cZ_markOf X (by omega)) (by omega) rfl (by decide) ⟨_, _, rfl⟩ rfl (Nat.le_of_ble_eq_true rfl) rfl ?_
        refine gi_iconst (pc' := 37) h ⟨dZ_thingsOn_36, rfl⟩ ?_
        refine gi_isub (pc' := 38) h ⟨dZ_thingsOn_37, rfl⟩ ?_
        refine gd_callSI (e := if mkZ S k ≤ S.1 95 (6 + j) ∧ S.1 95 (6 + j) ≤ (mkZ S (k + 1)) - 1 then 1 else 0) (E := S) (pc' := 41) (As := [.int (iI (S.1 95 (6 + j))), .int (iI (mkZ S k)), .int (iI ((mkZ S (k + 1)) - 1))]) (st := [.int (iI (sumI (thV S k) j))]) h hF ⟨dZ_thingsOn_38, rfl⟩ kvZ_72 (cZ_in X (by omega)) (by omega) rfl (Nat.le_of_ble_eq_true rfl) rfl ?_
        refine gi_if_eq (tgt := 48) (pc' := 44) h dZ_thingsOn_41 rfl rfl (by split <;> omega) (fun c41 => ?_) (fun c41 => ?_)
        · have c41 := b0 c41
          refine gi_iconst (pc' := 49) h ⟨dZ_thingsOn_48, rfl⟩ ?_
          refine gi_iadd (pc' := 50) h ⟨dZ_thingsOn_49, rfl⟩ ?_
          refine go_istore_n (L' := [.ref 88, .int (iI (k)), .int (iI ((sumI (thV S k) j) + 0)), .int (iI (j))]) (pc' := 51) h ⟨dZ_thingsOn_50, rfl⟩ (by decide) rfl rfl ?_
          refine gi_iinc (L' := [.ref 88, .int (iI (k)), .int (iI ((sumI (thV S k) j) + 0)), .int (iI (j + 1))]) (pc' := 54) h ⟨dZ_thingsOn_51, rfl⟩ rfl (by decide) rfl rfl ?_
          refine gi_goto (tgt := 4) h dZ_thingsOn_54 rfl ?_
          have g7 := ih (j + 1) (by omega) (by omega) (by omega)
          rw [sumI_s _ g5, thV, if_neg (by omega)] at g7
          exact g7
        · have c41 := b1 c41
          refine gi_iconst (pc' := 45) h ⟨dZ_thingsOn_44, rfl⟩ ?_
          refine gi_goto (tgt := 49) h dZ_thingsOn_45 rfl ?_
          refine gi_iadd (pc' := 50) h ⟨dZ_thingsOn_49, rfl⟩ ?_
          refine go_istore_n (L' := [.ref 88, .int (iI (k)), .int (iI ((sumI (thV S k) j) + 1)), .int (iI (j))]) (pc' := 51) h ⟨dZ_thingsOn_50, rfl⟩ (by decide) rfl rfl ?_
          refine gi_iinc (L' := [.ref 88, .int (iI (k)), .int (iI ((sumI (thV S k) j) + 1)), .int (iI (j + 1))]) (pc' := 54) h ⟨dZ_thingsOn_51, rfl⟩ rfl (by decide) rfl rfl ?_
          refine gi_goto (tgt := 4) h dZ_thingsOn_54 rfl ?_
          have g7 := ih (j + 1) (by omega) (by omega) (by omega)
          rw [sumI_s _ g5, thV, if_pos (by omega)] at g7
          exact g7
  refine gi_iconst (pc' := 1) h ⟨dZ_thingsOn_0, rfl⟩ ?_
  refine go_istore_n (L' := [.ref 88, .int (iI (k)), .int (iI (0))]) (pc' := 2) h ⟨dZ_thingsOn_1, rfl⟩ (by decide) rfl rfl ?_
  refine gi_iconst (pc' := 3) h ⟨dZ_thingsOn_2, rfl⟩ ?_
  refine go_istore_n (L' := [.ref 88, .int (iI (k)), .int (iI (0)), .int (iI (0))]) (pc' := 4) h ⟨dZ_thingsOn_3, rfl⟩ (by decide) rfl rfl ?_
  exact loop 7 0 (by omega) (by omega) (by omega)
def zT (S : Sg) (n : Int64) : Sg := ptT S 88 (S.2.1 88 + n)
def zRate (S : Sg) (x y : Int) : Int × Sg := if ¬ (0 ≤ x ∧ x ≤ 5) ∨ ¬ (0 ≤ y ∧ y < S.1 90 0) then (-1000000, S) else if x = 0 then (S.1 92 y, zT S 1) else if x = 1 then (S.1 92 y + thO S y, zT S 11) else if x = 2 then (S.1 92 y - S.1 91 y, zT S 101) else if x = 3 then (2 * (S.1 92 y + thO S y), zT S 1011) else if x = 4 then (S.1 92 y - S.1 91 y + y, zT S 10101) else (S.1 92 y + onesI (S.1 95 4), zT S 100001)
set_option maxRecDepth 4000 in
theorem cZ_rate (X : XT) {S : Sg} (hZ : ZI S) {x : Int} (hx : -2147483648 ≤ x ∧ x ≤ 2147483647) {y : Int} (hy : -2147483648 ≤ y ∧ y ≤ 2147483647) : Ctr X 6 yZ_rate bZ_rate 6 (some .int) [.ref 88, .int (iI (x)), .int (iI (y))] (mk S) (PI (fun r S' => r = (zRate S x y).1 ∧ S' = (zRate S x y).2)) 0 0 := by
  refine Ctr.ofS (by decide) rfl (Nat.le_of_ble_eq_true rfl) (fun F h hF hE => ?_)
  obtain ⟨z0, zt, ztx, zm0, zm1, zm2, zm3, zst, ztr, zat, zsy, zth, ztg, zwr, zun, zkp, zse, zsk, zme, zmk, zl5, zl6, zl7⟩ := id hZ
  have hZS : ZS S := ⟨zm0, zst⟩
  have htp := tpZ_bd hZS
  refine go_aload_n (pc' := 1) h ⟨dZ_rate_0, rfl⟩ rfl ?_
  refine gi_iconst (pc' := 2) h ⟨dZ_rate_1, rfl⟩ ?_
  refine gd_putI (i := 0) (pc' := 5) h ⟨dZ_rate_2, rfl⟩ fpZ_68 rfl (by decide) rfl rfl ?_
  rw [pt_z z0]
  refine go_iload_n (pc' := 6) h ⟨dZ_rate_5, rfl⟩ rfl ?_
  refine gi_iconst (pc' := 7) h ⟨dZ_rate_6, rfl⟩ ?_
  refine gi_iconst (pc' := 8) h ⟨dZ_rate_7, rfl⟩ ?_
  refine gd_callSI (e := if 0 ≤ x ∧ x ≤ 5 then 1 else 0) (E := S) (pc' := 11) (As := [.int (iI (x)), .int (iI (0)), .int (iI (5))]) (st := []) h hF ⟨dZ_rate_8, rfl⟩ kvZ_72 (cZ_in X (by omega)) (by omega) rfl (Nat.le_of_ble_eq_true rfl) rfl ?_
  refine gi_if_eq (tgt := 22) (pc' := 14) h dZ_rate_11 rfl rfl (by split <;> omega) (fun c11 => ?_) (fun c11 => ?_)
  · have c11 := b0 c11
    refine gi_ldc (n := -1000000) (pc' := 24) h ⟨dZ_rate_22, rfl⟩ csZ_142 ?_
    exact gs_iret h hE dZ_rate_24 (by unfold zRate; rw [if_pos (by omega)]; exact ⟨rfl, rfl⟩)
  · have c11 := b1 c11
    refine go_aload_n (pc' := 15) h ⟨dZ_rate_14, rfl⟩ rfl ?_
    refine go_iload_n (pc' := 16) h ⟨dZ_rate_15, rfl⟩ rfl ?_
    refine gd_callVI (e := if 0 ≤ y ∧ y < S.1 90 0 then 1 else 0) (E := S) (pc' := 19) (As := [.int (iI (y))]) (st := []) h hF ⟨dZ_rate_16, rfl⟩ kvZ_139 (cZ_isStretch X (by omega) (by omega)) (by omega) rfl (by decide) ⟨_, _, rfl⟩ rfl (Nat.le_of_ble_eq_true rfl) rfl ?_
    refine gi_if_ne (tgt := 25) (pc' := 22) h dZ_rate_19 rfl rfl (by split <;> omega) (fun c19 => ?_) (fun c19 => ?_)
    · have c19 := b1 c19
      refine go_aload_n (pc' := 26) h ⟨dZ_rate_25, rfl⟩ rfl ?_
      refine gs_get (v := .ref 92) (pc' := 29) h ⟨dZ_rate_26, rfl⟩ fgZ_19 rfl (by decide) (rfl) ?_
      refine go_iload_n (pc' := 30) h ⟨dZ_rate_29, rfl⟩ rfl ?_
      refine gs_iald (pc' := 31) h ⟨dZ_rate_30, rfl⟩ rfl (by have hln : (ln 92 : Int) = 10 := rfl; omega) ?_
      refine go_istore_n (L' := [.ref 88, .int (iI (x)), .int (iI (y)), .int (iI (S.1 92 y))]) (pc' := 32) h ⟨dZ_rate_31, rfl⟩ (by decide) rfl rfl ?_
      refine go_iload_n (pc' := 33) h ⟨dZ_rate_32, rfl⟩ rfl ?_
      refine go_aload_n (pc' := 34) h ⟨dZ_rate_33, rfl⟩ rfl ?_
      refine go_iload_n (pc' := 35) h ⟨dZ_rate_34, rfl⟩ rfl ?_
      refine gd_callVI (e := thO S y) (E := S) (pc' := 38) (As := [.int (iI (y))]) (st := [.int (iI (S.1 92 y))]) h hF ⟨dZ_rate_35, rfl⟩ kvZ_210 (cZ_thingsOn X hZ (by omega)) (by omega) rfl (by decide) ⟨_, _, rfl⟩ rfl (Nat.le_of_ble_eq_true rfl) rfl ?_
      refine gi_iadd (pc' := 39) h ⟨dZ_rate_38, rfl⟩ ?_
      refine go_istore (L' := [.ref 88, .int (iI (x)), .int (iI (y)), .int (iI (S.1 92 y)), .int (iI ((S.1 92 y) + (thO S y)))]) (pc' := 41) h ⟨dZ_rate_39, rfl⟩ (by decide) rfl rfl ?_
      refine go_iload_n (pc' := 42) h ⟨dZ_rate_41, rfl⟩ rfl ?_
      refine go_aload_n (pc' := 43) h ⟨dZ_rate_42, rfl⟩ rfl ?_
      refine gs_get (v := .ref 91) (pc' := 46) h ⟨dZ_rate_43, rfl⟩ fgZ_16 rfl (by decide) (rfl) ?_
      refine go_iload_n (pc' := 47) h ⟨dZ_rate_46, rfl⟩ rfl ?_
      refine gs_iald (pc' := 48) h ⟨dZ_rate_47, rfl⟩ rfl (by have hln : (ln 91 : Int) = 10 := rfl; omega) ?_
      refine gi_isub (pc' := 49) h ⟨dZ_rate_48, rfl⟩ ?_
      refine go_istore (L' := [.ref 88, .int (iI (x)), .int (iI (y)), .int (iI (S.1 92 y)), .int (iI ((S.1 92 y) + (thO S y))), .int (iI ((S.1 92 y) - (S.1 91 y)))]) (pc' := 51) h ⟨dZ_rate_49, rfl⟩ (by decide) rfl rfl ?_
      refine go_aload_n (pc' := 52) h ⟨dZ_rate_51, rfl⟩ rfl ?_
      refine go_dup (pc' := 53) h ⟨dZ_rate_52, rfl⟩ rfl ?_
      refine gs_get (v := .long (S.2.1 88)) (pc' := 56) h ⟨dZ_rate_53, rfl⟩ fgZ_213 rfl (by decide) (rfl) ?_
      refine go_iload_n (pc' := 57) h ⟨dZ_rate_56, rfl⟩ rfl ?_
      refine gi_if_ne (tgt := 64) (pc' := 60) h dZ_rate_57 rfl rfl (by omega) (fun c57 => ?_) (fun c57 => ?_)
      · refine go_iload_n (pc' := 65) h ⟨dZ_rate_64, rfl⟩ rfl ?_
        refine gi_iconst (pc' := 66) h ⟨dZ_rate_65, rfl⟩ ?_
        refine gi_icmp_ne (tgt := 75) (pc' := 69) h dZ_rate_66 rfl rfl (by omega) (fun c66 => ?_) (fun c66 => ?_)
        · refine go_iload_n (pc' := 76) h ⟨dZ_rate_75, rfl⟩ rfl ?_
          refine gi_iconst (pc' := 77) h ⟨dZ_rate_76, rfl⟩ ?_
          refine gi_icmp_ne (tgt := 86) (pc' := 80) h dZ_rate_77 rfl rfl (by omega) (fun c77 => ?_) (fun c77 => ?_)
          · refine go_iload_n (pc' := 87) h ⟨dZ_rate_86, rfl⟩ rfl ?_
            refine gi_iconst (pc' := 88) h ⟨dZ_rate_87, rfl⟩ ?_
            refine gi_icmp_ne (tgt := 97) (pc' := 91) h dZ_rate_88 rfl rfl (by omega) (fun c88 => ?_) (fun c88 => ?_)
            · refine go_iload_n (pc' := 98) h ⟨dZ_rate_97, rfl⟩ rfl ?_
              refine gi_iconst (pc' := 99) h ⟨dZ_rate_98, rfl⟩ ?_
              refine gi_icmp_ne (tgt := 108) (pc' := 102) h dZ_rate_99 rfl rfl (by omega) (fun c99 => ?_) (fun c99 => ?_)
              · refine go_ldc2 (pc' := 111) h ⟨dZ_rate_108, rfl⟩ clZ_225 ?_
                refine go_ladd (pc' := 112) h ⟨dZ_rate_111, rfl⟩ ?_
                refine gs_putL8 (pc' := 115) h ⟨dZ_rate_112, rfl⟩ fpZ_213 ?_
                refine go_iload_n (pc' := 116) h ⟨dZ_rate_115, rfl⟩ rfl ?_
                refine gi_if_ne (tgt := 123) (pc' := 119) h dZ_rate_116 rfl rfl (by omega) (fun c116 => ?_) (fun c116 => ?_)
                · refine go_iload_n (pc' := 124) h ⟨dZ_rate_123, rfl⟩ rfl ?_
                  refine gi_iconst (pc' := 125) h ⟨dZ_rate_124, rfl⟩ ?_
                  refine gi_icmp_ne (tgt := 133) (pc' := 128) h dZ_rate_125 rfl rfl (by omega) (fun c125 => ?_) (fun c125 => ?_)
                  · refine go_iload_n (pc' := 134) h ⟨dZ_rate_133, rfl⟩ rfl ?_
                    refine gi_iconst (pc' := 135) h ⟨dZ_rate_134, rfl⟩ ?_
                    refine gi_icmp_ne (tgt := 143) (pc' := 138) h dZ_rate_135 rfl rfl (by omega) (fun c135 => ?_) (fun c135 => ?_)
                    · refine go_iload_n (pc' := 144) h ⟨dZ_rate_143, rfl⟩ rfl ?_
                      refine gi_iconst (pc' := 145) h ⟨dZ_rate_144, rfl⟩ ?_
                      refine gi_icmp_ne (tgt := 155) (pc' := 148) h dZ_rate_145 rfl rfl (by omega) (fun c145 => ?_) (fun c145 => ?_)
                      · refine go_iload_n (pc' := 156) h ⟨dZ_rate_155, rfl⟩ rfl ?_
                        refine gi_iconst (pc' := 157) h ⟨dZ_rate_156, rfl⟩ ?_
                        refine gi_icmp_ne (tgt := 167) (pc' := 160) h dZ_rate_157 rfl rfl (by omega) (fun c157 => ?_) (fun c157 => ?_)
                        · refine go_iload_n (pc' := 168) h ⟨dZ_rate_167, rfl⟩ rfl ?_
                          refine go_aload_n (pc' := 169) h ⟨dZ_rate_168, rfl⟩ rfl ?_
                          refine gs_get (v := .ref 95) (pc' := 172) h ⟨dZ_rate_169, rfl⟩ fgZ_28 rfl (by decide) (rfl) ?_
                          refine gi_iconst (pc' := 173) h ⟨dZ_rate_172, rfl⟩ ?_
                          refine gs_iald (pc' := 174) h ⟨dZ_rate_173, rfl⟩ rfl (by have hln : (ln 95 : Int) = 212 := rfl; omega) ?_
                          refine gd_callSI (e := onesI (S.1 95 4)) (E := ptT S 88 ((S.2.1 88) + 100001)) (pc' := 177) (As := [.int (iI (S.1 95 4))]) (st := [.int (iI (S.1 92 y))]) h hF ⟨dZ_rate_174, rfl⟩ kvZ_153 (cZ_ones X (a := S.1 95 4) (by omega)) (by omega) rfl (Nat.le_of_ble_eq_true rfl) rfl ?_
                          refine gi_iadd (pc' := 178) h ⟨dZ_rate_177, rfl⟩ ?_
                          exact gs_iret h hE dZ_rate_178 (by unfold zRate; rw [if_neg (by omega), if_neg (by omega), if_neg (by omega), if_neg (by omega), if_neg (by omega), if_neg (by omega)]; exact ⟨rfl, rfl⟩)
                        · exfalso; omega
                      · exfalso; omega
                    · exfalso; omega
                  · exfalso; omega
                · exfalso; omega
              · refine go_ldc2 (pc' := 105) h ⟨dZ_rate_102, rfl⟩ clZ_223 ?_
                refine gi_goto (tgt := 111) h dZ_rate_105 rfl ?_
                refine go_ladd (pc' := 112) h ⟨dZ_rate_111, rfl⟩ ?_
                refine gs_putL8 (pc' := 115) h ⟨dZ_rate_112, rfl⟩ fpZ_213 ?_
                refine go_iload_n (pc' := 116) h ⟨dZ_rate_115, rfl⟩ rfl ?_
                refine gi_if_ne (tgt := 123) (pc' := 119) h dZ_rate_116 rfl rfl (by omega) (fun c116 => ?_) (fun c116 => ?_)
                · refine go_iload_n (pc' := 124) h ⟨dZ_rate_123, rfl⟩ rfl ?_
                  refine gi_iconst (pc' := 125) h ⟨dZ_rate_124, rfl⟩ ?_
                  refine gi_icmp_ne (tgt := 133) (pc' := 128) h dZ_rate_125 rfl rfl (by omega) (fun c125 => ?_) (fun c125 => ?_)
                  · refine go_iload_n (pc' := 134) h ⟨dZ_rate_133, rfl⟩ rfl ?_
                    refine gi_iconst (pc' := 135) h ⟨dZ_rate_134, rfl⟩ ?_
                    refine gi_icmp_ne (tgt := 143) (pc' := 138) h dZ_rate_135 rfl rfl (by omega) (fun c135 => ?_) (fun c135 => ?_)
                    · refine go_iload_n (pc' := 144) h ⟨dZ_rate_143, rfl⟩ rfl ?_
                      refine gi_iconst (pc' := 145) h ⟨dZ_rate_144, rfl⟩ ?_
                      refine gi_icmp_ne (tgt := 155) (pc' := 148) h dZ_rate_145 rfl rfl (by omega) (fun c145 => ?_) (fun c145 => ?_)
                      · refine go_iload_n (pc' := 156) h ⟨dZ_rate_155, rfl⟩ rfl ?_
                        refine gi_iconst (pc' := 157) h ⟨dZ_rate_156, rfl⟩ ?_
                        refine gi_icmp_ne (tgt := 167) (pc' := 160) h dZ_rate_157 rfl rfl (by omega) (fun c157 => ?_) (fun c157 => ?_)
                        · exfalso; omega
                        · refine go_iload (pc' := 162) h ⟨dZ_rate_160, rfl⟩ rfl ?_
                          refine go_iload_n (pc' := 163) h ⟨dZ_rate_162, rfl⟩ rfl ?_
                          refine gi_iadd (pc' := 164) h ⟨dZ_rate_163, rfl⟩ ?_
                          refine gi_goto (tgt := 178) h dZ_rate_164 rfl ?_
                          exact gs_iret h hE dZ_rate_178 (by unfold zRate; rw [if_neg (by omega), if_neg (by omega), if_neg (by omega), if_neg (by omega), if_neg (by omega), if_pos (by omega)]; exact ⟨rfl, rfl⟩)
                      · exfalso; omega
                    · exfalso; omega
                  · exfalso; omega
                · exfalso; omega
            · refine go_ldc2 (pc' := 94) h ⟨dZ_rate_91, rfl⟩ clZ_221 ?_
              refine gi_goto (tgt := 111) h dZ_rate_94 rfl ?_
              refine go_ladd (pc' := 112) h ⟨dZ_rate_111, rfl⟩ ?_
              refine gs_putL8 (pc' := 115) h ⟨dZ_rate_112, rfl⟩ fpZ_213 ?_
              refine go_iload_n (pc' := 116) h ⟨dZ_rate_115, rfl⟩ rfl ?_
              refine gi_if_ne (tgt := 123) (pc' := 119) h dZ_rate_116 rfl rfl (by omega) (fun c116 => ?_) (fun c116 => ?_)
              · refine go_iload_n (pc' := 124) h ⟨dZ_rate_123, rfl⟩ rfl ?_
                refine gi_iconst (pc' := 125) h ⟨dZ_rate_124, rfl⟩ ?_
                refine gi_icmp_ne (tgt := 133) (pc' := 128) h dZ_rate_125 rfl rfl (by omega) (fun c125 => ?_) (fun c125 => ?_)
                · refine go_iload_n (pc' := 134) h ⟨dZ_rate_133, rfl⟩ rfl ?_
                  refine gi_iconst (pc' := 135) h ⟨dZ_rate_134, rfl⟩ ?_
                  refine gi_icmp_ne (tgt := 143) (pc' := 138) h dZ_rate_135 rfl rfl (by omega) (fun c135 => ?_) (fun c135 => ?_)
                  · refine go_iload_n (pc' := 144) h ⟨dZ_rate_143, rfl⟩ rfl ?_
                    refine gi_iconst (pc' := 145) h ⟨dZ_rate_144, rfl⟩ ?_
                    refine gi_icmp_ne (tgt := 155) (pc' := 148) h dZ_rate_145 rfl rfl (by omega) (fun c145 => ?_) (fun c145 => ?_)
                    · exfalso; omega
                    · refine gi_iconst (pc' := 149) h ⟨dZ_rate_148, rfl⟩ ?_
                      refine go_iload (pc' := 151) h ⟨dZ_rate_149, rfl⟩ rfl ?_
                      refine gi_imul (pc' := 152) h ⟨dZ_rate_151, rfl⟩ ?_
                      refine gi_goto (tgt := 178) h dZ_rate_152 rfl ?_
                      exact gs_iret h hE dZ_rate_178 (by unfold zRate; rw [if_neg (by omega), if_neg (by omega), if_neg (by omega), if_neg (by omega), if_pos (by omega)]; exact ⟨rfl, rfl⟩)
                  · exfalso; omega
                · exfalso; omega
              · exfalso; omega
          · refine go_ldc2 (pc' := 83) h ⟨dZ_rate_80, rfl⟩ clZ_219 ?_
            refine gi_goto (tgt := 111) h dZ_rate_83 rfl ?_
            refine go_ladd (pc' := 112) h ⟨dZ_rate_111, rfl⟩ ?_
            refine gs_putL8 (pc' := 115) h ⟨dZ_rate_112, rfl⟩ fpZ_213 ?_
            refine go_iload_n (pc' := 116) h ⟨dZ_rate_115, rfl⟩ rfl ?_
            refine gi_if_ne (tgt := 123) (pc' := 119) h dZ_rate_116 rfl rfl (by omega) (fun c116 => ?_) (fun c116 => ?_)
            · refine go_iload_n (pc' := 124) h ⟨dZ_rate_123, rfl⟩ rfl ?_
              refine gi_iconst (pc' := 125) h ⟨dZ_rate_124, rfl⟩ ?_
              refine gi_icmp_ne (tgt := 133) (pc' := 128) h dZ_rate_125 rfl rfl (by omega) (fun c125 => ?_) (fun c125 => ?_)
              · refine go_iload_n (pc' := 134) h ⟨dZ_rate_133, rfl⟩ rfl ?_
                refine gi_iconst (pc' := 135) h ⟨dZ_rate_134, rfl⟩ ?_
                refine gi_icmp_ne (tgt := 143) (pc' := 138) h dZ_rate_135 rfl rfl (by omega) (fun c135 => ?_) (fun c135 => ?_)
                · exfalso; omega
                · refine go_iload (pc' := 140) h ⟨dZ_rate_138, rfl⟩ rfl ?_
                  refine gi_goto (tgt := 178) h dZ_rate_140 rfl ?_
                  exact gs_iret h hE dZ_rate_178 (by unfold zRate; rw [if_neg (by omega), if_neg (by omega), if_neg (by omega), if_pos (by omega)]; exact ⟨rfl, rfl⟩)
              · exfalso; omega
            · exfalso; omega
        · refine go_ldc2 (pc' := 72) h ⟨dZ_rate_69, rfl⟩ clZ_217 ?_
          refine gi_goto (tgt := 111) h dZ_rate_72 rfl ?_
          refine go_ladd (pc' := 112) h ⟨dZ_rate_111, rfl⟩ ?_
          refine gs_putL8 (pc' := 115) h ⟨dZ_rate_112, rfl⟩ fpZ_213 ?_
          refine go_iload_n (pc' := 116) h ⟨dZ_rate_115, rfl⟩ rfl ?_
          refine gi_if_ne (tgt := 123) (pc' := 119) h dZ_rate_116 rfl rfl (by omega) (fun c116 => ?_) (fun c116 => ?_)
          · refine go_iload_n (pc' := 124) h ⟨dZ_rate_123, rfl⟩ rfl ?_
            refine gi_iconst (pc' := 125) h ⟨dZ_rate_124, rfl⟩ ?_
            refine gi_icmp_ne (tgt := 133) (pc' := 128) h dZ_rate_125 rfl rfl (by omega) (fun c125 => ?_) (fun c125 => ?_)
            · exfalso; omega
            · refine go_iload (pc' := 130) h ⟨dZ_rate_128, rfl⟩ rfl ?_
              refine gi_goto (tgt := 178) h dZ_rate_130 rfl ?_
              exact gs_iret h hE dZ_rate_178 (by unfold zRate; rw [if_neg (by omega), if_neg (by omega), if_pos (by omega)]; exact ⟨rfl, rfl⟩)
          · exfalso; omega
      · refine go_lconst (v := 1) (pc' := 61) h ⟨dZ_rate_60, rfl⟩ rfl ?_
        refine gi_goto (tgt := 111) h dZ_rate_61 rfl ?_
        refine go_ladd (pc' := 112) h ⟨dZ_rate_111, rfl⟩ ?_
        refine gs_putL8 (pc' := 115) h ⟨dZ_rate_112, rfl⟩ fpZ_213 ?_
        refine go_iload_n (pc' := 116) h ⟨dZ_rate_115, rfl⟩ rfl ?_
        refine gi_if_ne (tgt := 123) (pc' := 119) h dZ_rate_116 rfl rfl (by omega) (fun c116 => ?_) (fun c116 => ?_)
        · exfalso; omega
        · refine go_iload_n (pc' := 120) h ⟨dZ_rate_119, rfl⟩ rfl ?_
          refine gi_goto (tgt := 178) h dZ_rate_120 rfl ?_
          exact gs_iret h hE dZ_rate_178 (by unfold zRate; rw [if_neg (by omega), if_pos (by omega)]; exact ⟨rfl, rfl⟩)
    · have c19 := b0 c19
      refine gi_ldc (n := -1000000) (pc' := 24) h ⟨dZ_rate_22, rfl⟩ csZ_142 ?_
      exact gs_iret h hE dZ_rate_24 (by unfold zRate; rw [if_pos (by omega)]; exact ⟨rfl, rfl⟩)
