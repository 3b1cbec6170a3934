/-! what the constructors make: cells behind a memory -/
def nws (M : Mem) (l : List Ce) : Mem := (M.1 + l.length, fun k => if k < M.1 then M.2 k else l[k - M.1]?)
theorem nws_nws (M : Mem) (l l' : List Ce) : nws (nws M l) l' = nws M (l ++ l') := by
  unfold nws
  refine Prod.ext (by simp [List.length_append]; omega) (funext fun k => ?_)
  dsimp only
  by_cases h1 : k < M.1
  · rw [if_pos (by omega), if_pos h1, if_pos h1]
  · by_cases h2 : k < M.1 + l.length
    · rw [if_pos h2, if_neg h1, if_neg h1, List.getElem?_append_left (by omega)]
    · rw [if_neg h2, if_neg h1, List.getElem?_append_right (by omega), show k - (M.1 + l.length) = k - M.1 - l.length by omega]
theorem nws_nw (M : Mem) (l : List Ce) (c : Ce) : nw (nws M l) c = nws (nws M l) [c] := by
  unfold nw
  refine Prod.ext rfl (funext fun k => ?_)
  show (if k = (nws M l).1 then some c else (nws M l).2 k) = (if k < (nws M l).1 then (nws M l).2 k else [c][k - (nws M l).1]?)
  by_cases h1 : k = (nws M l).1
  · rw [if_pos h1, if_neg (by omega), h1, Nat.sub_self]
    rfl
  · rw [if_neg h1]
    by_cases h2 : k < (nws M l).1
    · rw [if_pos h2]
    · rw [if_neg h2, List.getElem?_eq_none (by simp; omega)]
      unfold nws at h1 h2 ⊢
      dsimp only at h1 h2 ⊢
      rw [if_neg (by omega), List.getElem?_eq_none (by omega)]
theorem nws_up (M : Mem) (l : List Ce) (i : Nat) (c : Ce) (h : i < l.length) : up (nws M l) (M.1 + i) c = nws M (l.set i c) := by
  unfold up nws
  refine Prod.ext (by simp) (funext fun k => ?_)
  dsimp only
  by_cases h1 : k = M.1 + i
  · rw [if_pos h1, if_neg (by omega), h1, show M.1 + i - M.1 = i by omega, List.getElem?_set_self h]
  · rw [if_neg h1]
    by_cases h2 : k < M.1
    · rw [if_pos h2, if_pos h2]
    · rw [if_neg h2, if_neg h2, List.getElem?_set_ne (by omega)]
theorem nws_gt (M : Mem) (l : List Ce) (i : Nat) : gt (nws M l) (M.1 + i) = l[i]? := by
  unfold gt nws
  dsimp only
  rw [if_neg (by omega), show M.1 + i - M.1 = i by omega]
theorem Go.mm {F : FT} {nL : Nat} {M : Mem} {cs sl pc : Nat} {L st : List Value} {M' : Mem} {st' : List Value} (e1 : M = M') (e2 : st = st') (k : Go F nL M' cs sl pc L st') : Go F nL M cs sl pc L st := by
  subst e1; subst e2; exact k
theorem Room3.le {F : FT} {a b c d : Nat} (h : Room3 F a b) (h1 : c ≤ a) (h2 : d ≤ b) : Room3 F c d := by
  obtain ⟨p, l, e, R, s, m, args, below, meth, cc, Q, b', D, cy⟩ := F
  exact ⟨Nat.le_trans h1 h.1, Nat.le_trans h2 h.2⟩
theorem cK_maxM (X : XT) {M : Mem} {a b : Int} (hq : -2147483648 ≤ a ∧ a ≤ 2147483647 ∧ -2147483648 ≤ b ∧ b ≤ 2147483647) : Ctr X 0 yK_max bK_max 2 (some .int) [.int (iI (a)), .int (iI (b))] M (fun v M' => v = some (.int (iI (max a b))) ∧ M' = M) 0 0 := by
  refine Ctr.ofF (by decide +kernel) rfl (Nat.le_of_ble_eq_true rfl) (fun F h hX hR hro hE _ => ?_)
  refine go_iload_n (pc' := 1) h ⟨dK_max_0, rfl⟩ rfl ?_
  refine go_iload_n (pc' := 2) h ⟨dK_max_1, rfl⟩ rfl ?_
  refine gi_icmp_lt (tgt := 9) (pc' := 5) h dK_max_2 rfl rfl (by omega) (fun c2 => ?_) (fun c2 => ?_)
  · refine go_iload_n (pc' := 10) h ⟨dK_max_9, rfl⟩ rfl ?_
    exact go_iret h hE ⟨by rw [show max a b = b by omega], rfl⟩ dK_max_10
  · refine go_iload_n (pc' := 6) h ⟨dK_max_5, rfl⟩ rfl ?_
    refine gi_goto (tgt := 10) h dK_max_6 rfl ?_
    exact go_iret h hE ⟨by rw [show max a b = a by omega], rfl⟩ dK_max_10
def cR (a n : Nat) : List Ce := [ob 3 [.ref (a + 1), .int (iI 0)], ar n (fun _ => 0)]
theorem iI_cn {n : Nat} (h : n ≤ 1000) : (iI (n : Int)).toNatClampNeg = n := by
  unfold Int32.toNatClampNeg
  rw [iI_toInt (by omega) (by omega)]
  omega
theorem iI_nn {n : Nat} (h : n ≤ 1000) : ¬ iI (n : Int) < 0 := by
  intro hc
  have h1 := Int32.lt_iff_toInt_lt.mp hc
  rw [iI_toInt (by omega) (by omega)] at h1
  have h0 : (0 : Int32).toInt = 0 := rfl
  omega
set_option maxRecDepth 4000 in
theorem cR_init (X : XT) {M0 : Mem} {n : Nat} (hn : n ≤ 1000) : Ctr X 1 yR_init bR_init 2 none [.ref M0.1, .int (iI (n : Int))] (nws M0 [ob 3 [.null, .int (iI 0)]]) (fun v M' => v = none ∧ M' = nws M0 (cR M0.1 n)) 1 n := by
  refine Ctr.of (by decide) rfl (Nat.le_of_ble_eq_true rfl) (fun F h hX hR hro hE hi => ?_)
  have hini := hi rfl
  refine go_aload_n (pc' := 1) h ⟨dR_init_0, rfl⟩ rfl ?_
  refine go_obj (d := 1) (pc' := 4) h ⟨dR_init_1, rfl⟩ oiR_1 hR (by omega) (Nat.le_of_ble_eq_true rfl) ?_
  refine go_aload_n (pc' := 5) h ⟨dR_init_4, rfl⟩ rfl ?_
  refine gi_iconst (pc' := 6) h ⟨dR_init_5, rfl⟩ ?_
  refine go_iload_n (pc' := 7) h ⟨dR_init_6, rfl⟩ rfl ?_
  refine go_callS (pc' := 10) (As := [.int (iI 0), .int (iI (n : Int))]) (st := [.ref (M0.1)]) h ⟨dR_init_7, rfl⟩ kvR_7 hX hR (hro.le (by omega) (by omega)) (cK_maxM X (by omega)) (by omega) rfl (Nat.le_of_ble_eq_true rfl) rfl (fun v M' hP => ?_)
  obtain ⟨rfl, rfl⟩ := hP
  refine Go.mm (M' := nws M0 ([ob 3 [.null, .int (iI 0)]])) (st' := [.int (iI (n : Int)), .ref (M0.1)]) rfl (by rw [show max 0 (n : Int) = (n : Int) by omega]; rfl) ?_
  refine go_newaI (N := n) (a := M0.1 + 1) (pc' := 12) h ⟨dR_init_10, rfl⟩ acI (iI_nn hn) (iI_cn hn) (by omega) (hro.le (by omega) (by omega)) rfl ?_
  refine Go.mm (M' := nws M0 ([ob 3 [.null, .int (iI 0)]] ++ [ar n (fun _ => 0)])) (st' := [.ref (M0.1 + 1), .ref (M0.1)]) ((nws_nw _ _ _).trans (nws_nws _ _ _)) rfl ?_
  refine go_putF (fs := [.null, .int (iI 0)]) (fs' := [.ref (M0.1 + 1), .int (iI 0)]) (pc' := 15) h hini ⟨dR_init_12, rfl⟩ fpR_13 ((nws_gt M0 ([ob 3 [.null, .int (iI 0)]] ++ [ar n (fun _ => 0)]) 0).trans rfl) (fun _ => rfl) (fun _ => rfl) (show 0 + 1 ≤ _ from Nat.le_of_ble_eq_true rfl) rfl ?_
  refine Go.mm (M' := nws M0 ([ob 3 [.ref (M0.1 + 1), .int (iI 0)]] ++ [ar n (fun _ => 0)])) (st' := []) ((nws_up M0 ([ob 3 [.null, .int (iI 0)]] ++ [ar n (fun _ => 0)]) 0 _ (Nat.zero_lt_succ _)).trans rfl) rfl ?_
  exact go_vret h hE (by omega) (by omega) ⟨rfl, rfl⟩ dR_init_15
def cT (a : Nat) : List Ce := [ob 6 [.ref (a + 1), .int (iI 0), .int (iI 0), .int (iI 0), .int (iI 0), .int (iI 0), .int (iI 0)]] ++ cR (a + 1) 120
set_option maxRecDepth 4000 in
theorem cT_init (X : XT) (M0 : Mem) : Ctr X 2 yT_init bT_init 1 none [.ref M0.1] (nws M0 [ob 6 [.null, .int (iI 0), .int (iI 0), .int (iI 0), .int (iI 0), .int (iI 0), .int (iI 0)]]) (fun v M' => v = none ∧ M' = nws M0 (cT M0.1)) 2 122 := by
  refine Ctr.of (by decide) rfl (Nat.le_of_ble_eq_true rfl) (fun F h hX hR hro hE hi => ?_)
  have hini := hi rfl
  refine go_aload_n (pc' := 1) h ⟨dT_init_0, rfl⟩ rfl ?_
  refine go_obj (d := 2) (pc' := 4) h ⟨dT_init_1, rfl⟩ oiT_3 hR (by omega) (Nat.le_of_ble_eq_true rfl) ?_
  refine go_aload_n (pc' := 5) h ⟨dT_init_4, rfl⟩ rfl ?_
  refine go_new (n := 2) (a := M0.1 + 1) (pc' := 8) h ⟨dT_init_5, rfl⟩ nwT_9 rfl (hro.le (by omega) (by omega)) rfl ?_
  refine Go.mm (M' := nws (nws M0 ([ob 6 [.null, .int (iI 0), .int (iI 0), .int (iI 0), .int (iI 0), .int (iI 0), .int (iI 0)]])) [ob 3 [.null, .int (iI 0)]]) (st' := [.ref (M0.1 + 1), .ref (M0.1)]) (nws_nw _ _ _) rfl ?_
  refine go_dup (pc' := 9) h ⟨dT_init_8, rfl⟩ rfl ?_
  refine gi_bipush (pc' := 11) h ⟨dT_init_9, rfl⟩ rfl ?_
  refine go_callI (pc' := 14) (k := M0.1 + 1) (As := [.int (iI 120)]) (st := [.ref (M0.1 + 1), .ref (M0.1)]) h ⟨dT_init_11, rfl⟩ kvT_11 hX hR (hro.le (by omega) (by omega)) (cR_init X (M0 := nws M0 ([ob 6 [.null, .int (iI 0), .int (iI 0), .int (iI 0), .int (iI 0), .int (iI 0), .int (iI 0)]])) (n := 120) (by omega)) (by omega) rfl (Nat.le_of_ble_eq_true rfl) rfl (fun v M' hP => ?_)
  obtain ⟨rfl, rfl⟩ := hP
  refine Go.mm (M' := nws M0 ([ob 6 [.null, .int (iI 0), .int (iI 0), .int (iI 0), .int (iI 0), .int (iI 0), .int (iI 0)]] ++ cR (M0.1 + 1) 120)) (st' := [.ref (M0.1 + 1), .ref (M0.1)]) (nws_nws _ _ _) rfl ?_
  refine go_putF (fs := [.null, .int (iI 0), .int (iI 0), .int (iI 0), .int (iI 0), .int (iI 0), .int (iI 0)]) (fs' := [.ref (M0.1 + 1), .int (iI 0), .int (iI 0), .int (iI 0), .int (iI 0), .int (iI 0), .int (iI 0)]) (pc' := 17) h hini ⟨dT_init_14, rfl⟩ fpT_14 ((nws_gt M0 ([ob 6 [.null, .int (iI 0), .int (iI 0), .int (iI 0), .int (iI 0), .int (iI 0), .int (iI 0)]] ++ cR (M0.1 + 1) 120) 0).trans rfl) (fun _ => rfl) (fun _ => rfl) (show 0 + 1 ≤ _ from Nat.le_of_ble_eq_true rfl) rfl ?_
  refine Go.mm (M' := nws M0 ([ob 6 [.ref (M0.1 + 1), .int (iI 0), .int (iI 0), .int (iI 0), .int (iI 0), .int (iI 0), .int (iI 0)]] ++ cR (M0.1 + 1) 120)) (st' := []) ((nws_up M0 ([ob 6 [.null, .int (iI 0), .int (iI 0), .int (iI 0), .int (iI 0), .int (iI 0), .int (iI 0)]] ++ cR (M0.1 + 1) 120) 0 _ (Nat.zero_lt_succ _)).trans rfl) rfl ?_
  exact go_vret h hE (by omega) (by omega) ⟨rfl, rfl⟩ dT_init_17
def cP (a : Nat) : List Ce := [ob 2 [.ref (a + 1), .ref (a + 3), .ref (a + 5), .ref (a + 7), .ref (a + 9), .ref (a + 11), .int (iI 3), .int (iI 3)]] ++ cR (a + 1) 5 ++ cR (a + 3) 5 ++ cR (a + 5) 5 ++ cR (a + 7) 5 ++ cR (a + 9) 100 ++ cR (a + 11) 4
set_option maxRecDepth 4000 in
theorem cP_init (X : XT) (M0 : Mem) : Ctr X 2 yP_init bP_init 1 none [.ref M0.1] (nws M0 [ob 2 [.null, .null, .null, .null, .null, .null, .int (iI 0), .int (iI 0)]]) (fun v M' => v = none ∧ M' = nws M0 (cP M0.1)) 12 136 := by
  refine Ctr.of (by decide) rfl (Nat.le_of_ble_eq_true rfl) (fun F h hX hR hro hE hi => ?_)
  have hini := hi rfl
  refine go_aload_n (pc' := 1) h ⟨dP_init_0, rfl⟩ rfl ?_
  refine go_obj (d := 2) (pc' := 4) h ⟨dP_init_1, rfl⟩ oiP_3 hR (by omega) (Nat.le_of_ble_eq_true rfl) ?_
  refine go_aload_n (pc' := 5) h ⟨dP_init_4, rfl⟩ rfl ?_
  refine go_new (n := 2) (a := M0.1 + 1) (pc' := 8) h ⟨dP_init_5, rfl⟩ nwP_9 rfl (hro.le (by omega) (by omega)) rfl ?_
  refine Go.mm (M' := nws (nws M0 ([ob 2 [.null, .null, .null, .null, .null, .null, .int (iI 0), .int (iI 0)]])) [ob 3 [.null, .int (iI 0)]]) (st' := [.ref (M0.1 + 1), .ref (M0.1)]) (nws_nw _ _ _) rfl ?_
  refine go_dup (pc' := 9) h ⟨dP_init_8, rfl⟩ rfl ?_
  refine gi_iconst (pc' := 10) h ⟨dP_init_9, rfl⟩ ?_
  refine go_callI (pc' := 13) (k := M0.1 + 1) (As := [.int (iI 5)]) (st := [.ref (M0.1 + 1), .ref (M0.1)]) h ⟨dP_init_10, rfl⟩ kvP_11 hX hR (hro.le (by omega) (by omega)) (cR_init X (M0 := nws M0 ([ob 2 [.null, .null, .null, .null, .null, .null, .int (iI 0), .int (iI 0)]])) (n := 5) (by omega)) (by omega) rfl (Nat.le_of_ble_eq_true rfl) rfl (fun v M' hP => ?_)
  obtain ⟨rfl, rfl⟩ := hP
  refine Go.mm (M' := nws M0 ([ob 2 [.null, .null, .null, .null, .null, .null, .int (iI 0), .int (iI 0)]] ++ cR (M0.1 + 1) 5)) (st' := [.ref (M0.1 + 1), .ref (M0.1)]) (nws_nws _ _ _) rfl ?_
  refine go_putF (fs := [.null, .null, .null, .null, .null, .null, .int (iI 0), .int (iI 0)]) (fs' := [.ref (M0.1 + 1), .null, .null, .null, .null, .null, .int (iI 0), .int (iI 0)]) (pc' := 16) h hini ⟨dP_init_13, rfl⟩ fpP_14 ((nws_gt M0 ([ob 2 [.null, .null, .null, .null, .null, .null, .int (iI 0), .int (iI 0)]] ++ cR (M0.1 + 1) 5) 0).trans rfl) (fun _ => rfl) (fun _ => rfl) (show 0 + 1 ≤ _ from Nat.le_of_ble_eq_true rfl) rfl ?_
  refine Go.mm (M' := nws M0 ([ob 2 [.ref (M0.1 + 1), .null, .null, .null, .null, .null, .int (iI 0), .int (iI 0)]] ++ cR (M0.1 + 1) 5)) (st' := []) ((nws_up M0 ([ob 2 [.null, .null, .null, .null, .null, .null, .int (iI 0), .int (iI 0)]] ++ cR (M0.1 + 1) 5) 0 _ (Nat.zero_lt_succ _)).trans rfl) rfl ?_
  refine go_aload_n (pc' := 17) h ⟨dP_init_16, rfl⟩ rfl ?_
  refine go_new (n := 2) (a := M0.1 + 3) (pc' := 20) h ⟨dP_init_17, rfl⟩ nwP_9 rfl (hro.le (by omega) (by omega)) rfl ?_
  refine Go.mm (M' := nws (nws M0 ([ob 2 [.ref (M0.1 + 1), .null, .null, .null, .null, .null, .int (iI 0), .int (iI 0)]] ++ cR (M0.1 + 1) 5)) [ob 3 [.null, .int (iI 0)]]) (st' := [.ref (M0.1 + 3), .ref (M0.1)]) (nws_nw _ _ _) rfl ?_
  refine go_dup (pc' := 21) h ⟨dP_init_20, rfl⟩ rfl ?_
  refine gi_iconst (pc' := 22) h ⟨dP_init_21, rfl⟩ ?_
  refine go_callI (pc' := 25) (k := M0.1 + 3) (As := [.int (iI 5)]) (st := [.ref (M0.1 + 3), .ref (M0.1)]) h ⟨dP_init_22, rfl⟩ kvP_11 hX hR (hro.le (by omega) (by omega)) (cR_init X (M0 := nws M0 ([ob 2 [.ref (M0.1 + 1), .null, .null, .null, .null, .null, .int (iI 0), .int (iI 0)]] ++ cR (M0.1 + 1) 5)) (n := 5) (by omega)) (by omega) rfl (Nat.le_of_ble_eq_true rfl) rfl (fun v M' hP => ?_)
  obtain ⟨rfl, rfl⟩ := hP
  refine Go.mm (M' := nws M0 ([ob 2 [.ref (M0.1 + 1), .null, .null, .null, .null, .null, .int (iI 0), .int (iI 0)]] ++ cR (M0.1 + 1) 5 ++ cR (M0.1 + 3) 5)) (st' := [.ref (M0.1 + 3), .ref (M0.1)]) (nws_nws _ _ _) rfl ?_
  refine go_putF (fs := [.ref (M0.1 + 1), .null, .null, .null, .null, .null, .int (iI 0), .int (iI 0)]) (fs' := [.ref (M0.1 + 1), .ref (M0.1 + 3), .null, .null, .null, .null, .int (iI 0), .int (iI 0)]) (pc' := 28) h hini ⟨dP_init_25, rfl⟩ fpP_20 ((nws_gt M0 ([ob 2 [.ref (M0.1 + 1), .null, .null, .null, .null, .null, .int (iI 0), .int (iI 0)]] ++ cR (M0.1 + 1) 5 ++ cR (M0.1 + 3) 5) 0).trans rfl) (fun _ => rfl) (fun _ => rfl) (show 1 + 1 ≤ _ from Nat.le_of_ble_eq_true rfl) rfl ?_
  refine Go.mm (M' := nws M0 ([ob 2 [.ref (M0.1 + 1), .ref (M0.1 + 3), .null, .null, .null, .null, .int (iI 0), .int (iI 0)]] ++ cR (M0.1 + 1) 5 ++ cR (M0.1 + 3) 5)) (st' := []) ((nws_up M0 ([ob 2 [.ref (M0.1 + 1), .null, .null, .null, .null, .null, .int (iI 0), .int (iI 0)]] ++ cR (M0.1 + 1) 5 ++ cR (M0.1 + 3) 5) 0 _ (Nat.zero_lt_succ _)).trans rfl) rfl ?_
  refine go_aload_n (pc' := 29) h ⟨dP_init_28, rfl⟩ rfl ?_
  refine go_new (n := 2) (a := M0.1 + 5) (pc' := 32) h ⟨dP_init_29, rfl⟩ nwP_9 rfl (hro.le (by omega) (by omega)) rfl ?_
  refine Go.mm (M' := nws (nws M0 ([ob 2 [.ref (M0.1 + 1), .ref (M0.1 + 3), .null, .null, .null, .null, .int (iI 0), .int (iI 0)]] ++ cR (M0.1 + 1) 5 ++ cR (M0.1 + 3) 5)) [ob 3 [.null, .int (iI 0)]]) (st' := [.ref (M0.1 + 5), .ref (M0.1)]) (nws_nw _ _ _) rfl ?_
  refine go_dup (pc' := 33) h ⟨dP_init_32, rfl⟩ rfl ?_
  refine gi_iconst (pc' := 34) h ⟨dP_init_33, rfl⟩ ?_
  refine go_callI (pc' := 37) (k := M0.1 + 5) (As := [.int (iI 5)]) (st := [.ref (M0.1 + 5), .ref (M0.1)]) h ⟨dP_init_34, rfl⟩ kvP_11 hX hR (hro.le (by omega) (by omega)) (cR_init X (M0 := nws M0 ([ob 2 [.ref (M0.1 + 1), .ref (M0.1 + 3), .null, .null, .null, .null, .int (iI 0), .int (iI 0)]] ++ cR (M0.1 + 1) 5 ++ cR (M0.1 + 3) 5)) (n := 5) (by omega)) (by omega) rfl (Nat.le_of_ble_eq_true rfl) rfl (fun v M' hP => ?_)
  obtain ⟨rfl, rfl⟩ := hP
  refine Go.mm (M' := nws M0 ([ob 2 [.ref (M0.1 + 1), .ref (M0.1 + 3), .null, .null, .null, .null, .int (iI 0), .int (iI 0)]] ++ cR (M0.1 + 1) 5 ++ cR (M0.1 + 3) 5 ++ cR (M0.1 + 5) 5)) (st' := [.ref (M0.1 + 5), .ref (M0.1)]) (nws_nws _ _ _) rfl ?_
  refine go_putF (fs := [.ref (M0.1 + 1), .ref (M0.1 + 3), .null, .null, .null, .null, .int (iI 0), .int (iI 0)]) (fs' := [.ref (M0.1 + 1), .ref (M0.1 + 3), .ref (M0.1 + 5), .null, .null, .null, .int (iI 0), .int (iI 0)]) (pc' := 40) h hini ⟨dP_init_37, rfl⟩ fpP_23 ((nws_gt M0 ([ob 2 [.ref (M0.1 + 1), .ref (M0.1 + 3), .null, .null, .null, .null, .int (iI 0), .int (iI 0)]] ++ cR (M0.1 + 1) 5 ++ cR (M0.1 + 3) 5 ++ cR (M0.1 + 5) 5) 0).trans rfl) (fun _ => rfl) (fun _ => rfl) (show 2 + 1 ≤ _ from Nat.le_of_ble_eq_true rfl) rfl ?_
  refine Go.mm (M' := nws M0 ([ob 2 [.ref (M0.1 + 1), .ref (M0.1 + 3), .ref (M0.1 + 5), .null, .null, .null, .int (iI 0), .int (iI 0)]] ++ cR (M0.1 + 1) 5 ++ cR (M0.1 + 3) 5 ++ cR (M0.1 + 5) 5)) (st' := []) ((nws_up M0 ([ob 2 [.ref (M0.1 + 1), .ref (M0.1 + 3), .null, .null, .null, .null, .int (iI 0), .int (iI 0)]] ++ cR (M0.1 + 1) 5 ++ cR (M0.1 + 3) 5 ++ cR (M0.1 + 5) 5) 0 _ (Nat.zero_lt_succ _)).trans rfl) rfl ?_
  refine go_aload_n (pc' := 41) h ⟨dP_init_40, rfl⟩ rfl ?_
  refine go_new (n := 2) (a := M0.1 + 7) (pc' := 44) h ⟨dP_init_41, rfl⟩ nwP_9 rfl (hro.le (by omega) (by omega)) rfl ?_
  refine Go.mm (M' := nws (nws M0 ([ob 2 [.ref (M0.1 + 1), .ref (M0.1 + 3), .ref (M0.1 + 5), .null, .null, .null, .int (iI 0), .int (iI 0)]] ++ cR (M0.1 + 1) 5 ++ cR (M0.1 + 3) 5 ++ cR (M0.1 + 5) 5)) [ob 3 [.null, .int (iI 0)]]) (st' := [.ref (M0.1 + 7), .ref (M0.1)]) (nws_nw _ _ _) rfl ?_
  refine go_dup (pc' := 45) h ⟨dP_init_44, rfl⟩ rfl ?_
  refine gi_iconst (pc' := 46) h ⟨dP_init_45, rfl⟩ ?_
  refine go_callI (pc' := 49) (k := M0.1 + 7) (As := [.int (iI 5)]) (st := [.ref (M0.1 + 7), .ref (M0.1)]) h ⟨dP_init_46, rfl⟩ kvP_11 hX hR (hro.le (by omega) (by omega)) (cR_init X (M0 := nws M0 ([ob 2 [.ref (M0.1 + 1), .ref (M0.1 + 3), .ref (M0.1 + 5), .null, .null, .null, .int (iI 0), .int (iI 0)]] ++ cR (M0.1 + 1) 5 ++ cR (M0.1 + 3) 5 ++ cR (M0.1 + 5) 5)) (n := 5) (by omega)) (by omega) rfl (Nat.le_of_ble_eq_true rfl) rfl (fun v M' hP => ?_)
  obtain ⟨rfl, rfl⟩ := hP
  refine Go.mm (M' := nws M0 ([ob 2 [.ref (M0.1 + 1), .ref (M0.1 + 3), .ref (M0.1 + 5), .null, .null, .null, .int (iI 0), .int (iI 0)]] ++ cR (M0.1 + 1) 5 ++ cR (M0.1 + 3) 5 ++ cR (M0.1 + 5) 5 ++ cR (M0.1 + 7) 5)) (st' := [.ref (M0.1 + 7), .ref (M0.1)]) (nws_nws _ _ _) rfl ?_
  refine go_putF (fs := [.ref (M0.1 + 1), .ref (M0.1 + 3), .ref (M0.1 + 5), .null, .null, .null, .int (iI 0), .int (iI 0)]) (fs' := [.ref (M0.1 + 1), .ref (M0.1 + 3), .ref (M0.1 + 5), .ref (M0.1 + 7), .null, .null, .int (iI 0), .int (iI 0)]) (pc' := 52) h hini ⟨dP_init_49, rfl⟩ fpP_26 ((nws_gt M0 ([ob 2 [.ref (M0.1 + 1), .ref (M0.1 + 3), .ref (M0.1 + 5), .null, .null, .null, .int (iI 0), .int (iI 0)]] ++ cR (M0.1 + 1) 5 ++ cR (M0.1 + 3) 5 ++ cR (M0.1 + 5) 5 ++ cR (M0.1 + 7) 5) 0).trans rfl) (fun _ => rfl) (fun _ => rfl) (show 3 + 1 ≤ _ from Nat.le_of_ble_eq_true rfl) rfl ?_
  refine Go.mm (M' := nws M0 ([ob 2 [.ref (M0.1 + 1), .ref (M0.1 + 3), .ref (M0.1 + 5), .ref (M0.1 + 7), .null, .null, .int (iI 0), .int (iI 0)]] ++ cR (M0.1 + 1) 5 ++ cR (M0.1 + 3) 5 ++ cR (M0.1 + 5) 5 ++ cR (M0.1 + 7) 5)) (st' := []) ((nws_up M0 ([ob 2 [.ref (M0.1 + 1), .ref (M0.1 + 3), .ref (M0.1 + 5), .null, .null, .null, .int (iI 0), .int (iI 0)]] ++ cR (M0.1 + 1) 5 ++ cR (M0.1 + 3) 5 ++ cR (M0.1 + 5) 5 ++ cR (M0.1 + 7) 5) 0 _ (Nat.zero_lt_succ _)).trans rfl) rfl ?_
  refine go_aload_n (pc' := 53) h ⟨dP_init_52, rfl⟩ rfl ?_
  refine go_new (n := 2) (a := M0.1 + 9) (pc' := 56) h ⟨dP_init_53, rfl⟩ nwP_9 rfl (hro.le (by omega) (by omega)) rfl ?_
  refine Go.mm (M' := nws (nws M0 ([ob 2 [.ref (M0.1 + 1), .ref (M0.1 + 3), .ref (M0.1 + 5), .ref (M0.1 + 7), .null, .null, .int (iI 0), .int (iI 0)]] ++ cR (M0.1 + 1) 5 ++ cR (M0.1 + 3) 5 ++ cR (M0.1 + 5) 5 ++ cR (M0.1 + 7) 5)) [ob 3 [.null, .int (iI 0)]]) (st' := [.ref (M0.1 + 9), .ref (M0.1)]) (nws_nw _ _ _) rfl ?_
  refine go_dup (pc' := 57) h ⟨dP_init_56, rfl⟩ rfl ?_
  refine gi_bipush (pc' := 59) h ⟨dP_init_57, rfl⟩ rfl ?_
  refine go_callI (pc' := 62) (k := M0.1 + 9) (As := [.int (iI 100)]) (st := [.ref (M0.1 + 9), .ref (M0.1)]) h ⟨dP_init_59, rfl⟩ kvP_11 hX hR (hro.le (by omega) (by omega)) (cR_init X (M0 := nws M0 ([ob 2 [.ref (M0.1 + 1), .ref (M0.1 + 3), .ref (M0.1 + 5), .ref (M0.1 + 7), .null, .null, .int (iI 0), .int (iI 0)]] ++ cR (M0.1 + 1) 5 ++ cR (M0.1 + 3) 5 ++ cR (M0.1 + 5) 5 ++ cR (M0.1 + 7) 5)) (n := 100) (by omega)) (by omega) rfl (Nat.le_of_ble_eq_true rfl) rfl (fun v M' hP => ?_)
  obtain ⟨rfl, rfl⟩ := hP
  refine Go.mm (M' := nws M0 ([ob 2 [.ref (M0.1 + 1), .ref (M0.1 + 3), .ref (M0.1 + 5), .ref (M0.1 + 7), .null, .null, .int (iI 0), .int (iI 0)]] ++ cR (M0.1 + 1) 5 ++ cR (M0.1 + 3) 5 ++ cR (M0.1 + 5) 5 ++ cR (M0.1 + 7) 5 ++ cR (M0.1 + 9) 100)) (st' := [.ref (M0.1 + 9), .ref (M0.1)]) (nws_nws _ _ _) rfl ?_
  refine go_putF (fs := [.ref (M0.1 + 1), .ref (M0.1 + 3), .ref (M0.1 + 5), .ref (M0.1 + 7), .null, .null, .int (iI 0), .int (iI 0)]) (fs' := [.ref (M0.1 + 1), .ref (M0.1 + 3), .ref (M0.1 + 5), .ref (M0.1 + 7), .ref (M0.1 + 9), .null, .int (iI 0), .int (iI 0)]) (pc' := 65) h hini ⟨dP_init_62, rfl⟩ fpP_29 ((nws_gt M0 ([ob 2 [.ref (M0.1 + 1), .ref (M0.1 + 3), .ref (M0.1 + 5), .ref (M0.1 + 7), .null, .null, .int (iI 0), .int (iI 0)]] ++ cR (M0.1 + 1) 5 ++ cR (M0.1 + 3) 5 ++ cR (M0.1 + 5) 5 ++ cR (M0.1 + 7) 5 ++ cR (M0.1 + 9) 100) 0).trans rfl) (fun _ => rfl) (fun _ => rfl) (show 4 + 1 ≤ _ from Nat.le_of_ble_eq_true rfl) rfl ?_
  refine Go.mm (M' := nws M0 ([ob 2 [.ref (M0.1 + 1), .ref (M0.1 + 3), .ref (M0.1 + 5), .ref (M0.1 + 7), .ref (M0.1 + 9), .null, .int (iI 0), .int (iI 0)]] ++ cR (M0.1 + 1) 5 ++ cR (M0.1 + 3) 5 ++ cR (M0.1 + 5) 5 ++ cR (M0.1 + 7) 5 ++ cR (M0.1 + 9) 100)) (st' := []) ((nws_up M0 ([ob 2 [.ref (M0.1 + 1), .ref (M0.1 + 3), .ref (M0.1 + 5), .ref (M0.1 + 7), .null, .null, .int (iI 0), .int (iI 0)]] ++ cR (M0.1 + 1) 5 ++ cR (M0.1 + 3) 5 ++ cR (M0.1 + 5) 5 ++ cR (M0.1 + 7) 5 ++ cR (M0.1 + 9) 100) 0 _ (Nat.zero_lt_succ _)).trans rfl) rfl ?_
  refine go_aload_n (pc' := 66) h ⟨dP_init_65, rfl⟩ rfl ?_
  refine go_new (n := 2) (a := M0.1 + 11) (pc' := 69) h ⟨dP_init_66, rfl⟩ nwP_9 rfl (hro.le (by omega) (by omega)) rfl ?_
  refine Go.mm (M' := nws (nws M0 ([ob 2 [.ref (M0.1 + 1), .ref (M0.1 + 3), .ref (M0.1 + 5), .ref (M0.1 + 7), .ref (M0.1 + 9), .null, .int (iI 0), .int (iI 0)]] ++ cR (M0.1 + 1) 5 ++ cR (M0.1 + 3) 5 ++ cR (M0.1 + 5) 5 ++ cR (M0.1 + 7) 5 ++ cR (M0.1 + 9) 100)) [ob 3 [.null, .int (iI 0)]]) (st' := [.ref (M0.1 + 11), .ref (M0.1)]) (nws_nw _ _ _) rfl ?_
  refine go_dup (pc' := 70) h ⟨dP_init_69, rfl⟩ rfl ?_
  refine gi_iconst (pc' := 71) h ⟨dP_init_70, rfl⟩ ?_
  refine go_callI (pc' := 74) (k := M0.1 + 11) (As := [.int (iI 4)]) (st := [.ref (M0.1 + 11), .ref (M0.1)]) h ⟨dP_init_71, rfl⟩ kvP_11 hX hR (hro.le (by omega) (by omega)) (cR_init X (M0 := nws M0 ([ob 2 [.ref (M0.1 + 1), .ref (M0.1 + 3), .ref (M0.1 + 5), .ref (M0.1 + 7), .ref (M0.1 + 9), .null, .int (iI 0), .int (iI 0)]] ++ cR (M0.1 + 1) 5 ++ cR (M0.1 + 3) 5 ++ cR (M0.1 + 5) 5 ++ cR (M0.1 + 7) 5 ++ cR (M0.1 + 9) 100)) (n := 4) (by omega)) (by omega) rfl (Nat.le_of_ble_eq_true rfl) rfl (fun v M' hP => ?_)
  obtain ⟨rfl, rfl⟩ := hP
  refine Go.mm (M' := nws M0 ([ob 2 [.ref (M0.1 + 1), .ref (M0.1 + 3), .ref (M0.1 + 5), .ref (M0.1 + 7), .ref (M0.1 + 9), .null, .int (iI 0), .int (iI 0)]] ++ cR (M0.1 + 1) 5 ++ cR (M0.1 + 3) 5 ++ cR (M0.1 + 5) 5 ++ cR (M0.1 + 7) 5 ++ cR (M0.1 + 9) 100 ++ cR (M0.1 + 11) 4)) (st' := [.ref (M0.1 + 11), .ref (M0.1)]) (nws_nws _ _ _) rfl ?_
  refine go_putF (fs := [.ref (M0.1 + 1), .ref (M0.1 + 3), .ref (M0.1 + 5), .ref (M0.1 + 7), .ref (M0.1 + 9), .null, .int (iI 0), .int (iI 0)]) (fs' := [.ref (M0.1 + 1), .ref (M0.1 + 3), .ref (M0.1 + 5), .ref (M0.1 + 7), .ref (M0.1 + 9), .ref (M0.1 + 11), .int (iI 0), .int (iI 0)]) (pc' := 77) h hini ⟨dP_init_74, rfl⟩ fpP_32 ((nws_gt M0 ([ob 2 [.ref (M0.1 + 1), .ref (M0.1 + 3), .ref (M0.1 + 5), .ref (M0.1 + 7), .ref (M0.1 + 9), .null, .int (iI 0), .int (iI 0)]] ++ cR (M0.1 + 1) 5 ++ cR (M0.1 + 3) 5 ++ cR (M0.1 + 5) 5 ++ cR (M0.1 + 7) 5 ++ cR (M0.1 + 9) 100 ++ cR (M0.1 + 11) 4) 0).trans rfl) (fun _ => rfl) (fun _ => rfl) (show 5 + 1 ≤ _ from Nat.le_of_ble_eq_true rfl) rfl ?_
  refine Go.mm (M' := nws M0 ([ob 2 [.ref (M0.1 + 1), .ref (M0.1 + 3), .ref (M0.1 + 5), .ref (M0.1 + 7), .ref (M0.1 + 9), .ref (M0.1 + 11), .int (iI 0), .int (iI 0)]] ++ cR (M0.1 + 1) 5 ++ cR (M0.1 + 3) 5 ++ cR (M0.1 + 5) 5 ++ cR (M0.1 + 7) 5 ++ cR (M0.1 + 9) 100 ++ cR (M0.1 + 11) 4)) (st' := []) ((nws_up M0 ([ob 2 [.ref (M0.1 + 1), .ref (M0.1 + 3), .ref (M0.1 + 5), .ref (M0.1 + 7), .ref (M0.1 + 9), .null, .int (iI 0), .int (iI 0)]] ++ cR (M0.1 + 1) 5 ++ cR (M0.1 + 3) 5 ++ cR (M0.1 + 5) 5 ++ cR (M0.1 + 7) 5 ++ cR (M0.1 + 9) 100 ++ cR (M0.1 + 11) 4) 0 _ (Nat.zero_lt_succ _)).trans rfl) rfl ?_
  refine go_aload_n (pc' := 78) h ⟨dP_init_77, rfl⟩ rfl ?_
  refine gi_iconst (pc' := 79) h ⟨dP_init_78, rfl⟩ ?_
  refine go_put (fs := [.ref (M0.1 + 1), .ref (M0.1 + 3), .ref (M0.1 + 5), .ref (M0.1 + 7), .ref (M0.1 + 9), .ref (M0.1 + 11), .int (iI 0), .int (iI 0)]) (fs' := [.ref (M0.1 + 1), .ref (M0.1 + 3), .ref (M0.1 + 5), .ref (M0.1 + 7), .ref (M0.1 + 9), .ref (M0.1 + 11), .int (iI 3), .int (iI 0)]) (pc' := 82) h ⟨dP_init_79, rfl⟩ fpP_35 ((nws_gt M0 ([ob 2 [.ref (M0.1 + 1), .ref (M0.1 + 3), .ref (M0.1 + 5), .ref (M0.1 + 7), .ref (M0.1 + 9), .ref (M0.1 + 11), .int (iI 0), .int (iI 0)]] ++ cR (M0.1 + 1) 5 ++ cR (M0.1 + 3) 5 ++ cR (M0.1 + 5) 5 ++ cR (M0.1 + 7) 5 ++ cR (M0.1 + 9) 100 ++ cR (M0.1 + 11) 4) 0).trans rfl) (fun _ => rfl) (fun _ => rfl) (show 6 + 1 ≤ _ from Nat.le_of_ble_eq_true rfl) rfl ?_
  refine Go.mm (M' := nws M0 ([ob 2 [.ref (M0.1 + 1), .ref (M0.1 + 3), .ref (M0.1 + 5), .ref (M0.1 + 7), .ref (M0.1 + 9), .ref (M0.1 + 11), .int (iI 3), .int (iI 0)]] ++ cR (M0.1 + 1) 5 ++ cR (M0.1 + 3) 5 ++ cR (M0.1 + 5) 5 ++ cR (M0.1 + 7) 5 ++ cR (M0.1 + 9) 100 ++ cR (M0.1 + 11) 4)) (st' := []) ((nws_up M0 ([ob 2 [.ref (M0.1 + 1), .ref (M0.1 + 3), .ref (M0.1 + 5), .ref (M0.1 + 7), .ref (M0.1 + 9), .ref (M0.1 + 11), .int (iI 0), .int (iI 0)]] ++ cR (M0.1 + 1) 5 ++ cR (M0.1 + 3) 5 ++ cR (M0.1 + 5) 5 ++ cR (M0.1 + 7) 5 ++ cR (M0.1 + 9) 100 ++ cR (M0.1 + 11) 4) 0 _ (Nat.zero_lt_succ _)).trans rfl) rfl ?_
  refine go_aload_n (pc' := 83) h ⟨dP_init_82, rfl⟩ rfl ?_
  refine gi_iconst (pc' := 84) h ⟨dP_init_83, rfl⟩ ?_
  refine go_put (fs := [.ref (M0.1 + 1), .ref (M0.1 + 3), .ref (M0.1 + 5), .ref (M0.1 + 7), .ref (M0.1 + 9), .ref (M0.1 + 11), .int (iI 3), .int (iI 0)]) (fs' := [.ref (M0.1 + 1), .ref (M0.1 + 3), .ref (M0.1 + 5), .ref (M0.1 + 7), .ref (M0.1 + 9), .ref (M0.1 + 11), .int (iI 3), .int (iI 3)]) (pc' := 87) h ⟨dP_init_84, rfl⟩ fpP_39 ((nws_gt M0 ([ob 2 [.ref (M0.1 + 1), .ref (M0.1 + 3), .ref (M0.1 + 5), .ref (M0.1 + 7), .ref (M0.1 + 9), .ref (M0.1 + 11), .int (iI 3), .int (iI 0)]] ++ cR (M0.1 + 1) 5 ++ cR (M0.1 + 3) 5 ++ cR (M0.1 + 5) 5 ++ cR (M0.1 + 7) 5 ++ cR (M0.1 + 9) 100 ++ cR (M0.1 + 11) 4) 0).trans rfl) (fun _ => rfl) (fun _ => rfl) (show 7 + 1 ≤ _ from Nat.le_of_ble_eq_true rfl) rfl ?_
  refine Go.mm (M' := nws M0 ([ob 2 [.ref (M0.1 + 1), .ref (M0.1 + 3), .ref (M0.1 + 5), .ref (M0.1 + 7), .ref (M0.1 + 9), .ref (M0.1 + 11), .int (iI 3), .int (iI 3)]] ++ cR (M0.1 + 1) 5 ++ cR (M0.1 + 3) 5 ++ cR (M0.1 + 5) 5 ++ cR (M0.1 + 7) 5 ++ cR (M0.1 + 9) 100 ++ cR (M0.1 + 11) 4)) (st' := []) ((nws_up M0 ([ob 2 [.ref (M0.1 + 1), .ref (M0.1 + 3), .ref (M0.1 + 5), .ref (M0.1 + 7), .ref (M0.1 + 9), .ref (M0.1 + 11), .int (iI 3), .int (iI 0)]] ++ cR (M0.1 + 1) 5 ++ cR (M0.1 + 3) 5 ++ cR (M0.1 + 5) 5 ++ cR (M0.1 + 7) 5 ++ cR (M0.1 + 9) 100 ++ cR (M0.1 + 11) 4) 0 _ (Nat.zero_lt_succ _)).trans rfl) rfl ?_
  exact go_vret h hE (by omega) (by omega) ⟨rfl, rfl⟩ dP_init_87
def cS (a : Nat) : List Ce := [ob 4 [.ref (a + 1), .ref (a + 3), .ref (a + 5), .ref (a + 7), .ref (a + 9)]] ++ cR (a + 1) 4 ++ cR (a + 3) 4 ++ cR (a + 5) 100 ++ cR (a + 7) 100 ++ cR (a + 9) 6
set_option maxRecDepth 4000 in
theorem cS_init (X : XT) (M0 : Mem) : Ctr X 2 yS_init bS_init 1 none [.ref M0.1] (nws M0 [ob 4 [.null, .null, .null, .null, .null]]) (fun v M' => v = none ∧ M' = nws M0 (cS M0.1)) 10 224 := by
  refine Ctr.of (by decide) rfl (Nat.le_of_ble_eq_true rfl) (fun F h hX hR hro hE hi => ?_)
  have hini := hi rfl
  refine go_aload_n (pc' := 1) h ⟨dS_init_0, rfl⟩ rfl ?_
  refine go_obj (d := 2) (pc' := 4) h ⟨dS_init_1, rfl⟩ oiS_3 hR (by omega) (Nat.le_of_ble_eq_true rfl) ?_
  refine go_aload_n (pc' := 5) h ⟨dS_init_4, rfl⟩ rfl ?_
  refine go_new (n := 2) (a := M0.1 + 1) (pc' := 8) h ⟨dS_init_5, rfl⟩ nwS_9 rfl (hro.le (by omega) (by omega)) rfl ?_
  refine Go.mm (M' := nws (nws M0 ([ob 4 [.null, .null, .null, .null, .null]])) [ob 3 [.null, .int (iI 0)]]) (st' := [.ref (M0.1 + 1), .ref (M0.1)]) (nws_nw _ _ _) rfl ?_
  refine go_dup (pc' := 9) h ⟨dS_init_8, rfl⟩ rfl ?_
  refine gi_iconst (pc' := 10) h ⟨dS_init_9, rfl⟩ ?_
  refine go_callI (pc' := 13) (k := M0.1 + 1) (As := [.int (iI 4)]) (st := [.ref (M0.1 + 1), .ref (M0.1)]) h ⟨dS_init_10, rfl⟩ kvS_11 hX hR (hro.le (by omega) (by omega)) (cR_init X (M0 := nws M0 ([ob 4 [.null, .null, .null, .null, .null]])) (n := 4) (by omega)) (by omega) rfl (Nat.le_of_ble_eq_true rfl) rfl (fun v M' hP => ?_)
  obtain ⟨rfl, rfl⟩ := hP
  refine Go.mm (M' := nws M0 ([ob 4 [.null, .null, .null, .null, .null]] ++ cR (M0.1 + 1) 4)) (st' := [.ref (M0.1 + 1), .ref (M0.1)]) (nws_nws _ _ _) rfl ?_
  refine go_putF (fs := [.null, .null, .null, .null, .null]) (fs' := [.ref (M0.1 + 1), .null, .null, .null, .null]) (pc' := 16) h hini ⟨dS_init_13, rfl⟩ fpS_14 ((nws_gt M0 ([ob 4 [.null, .null, .null, .null, .null]] ++ cR (M0.1 + 1) 4) 0).trans rfl) (fun _ => rfl) (fun _ => rfl) (show 0 + 1 ≤ _ from Nat.le_of_ble_eq_true rfl) rfl ?_
  refine Go.mm (M' := nws M0 ([ob 4 [.ref (M0.1 + 1), .null, .null, .null, .null]] ++ cR (M0.1 + 1) 4)) (st' := []) ((nws_up M0 ([ob 4 [.null, .null, .null, .null, .null]] ++ cR (M0.1 + 1) 4) 0 _ (Nat.zero_lt_succ _)).trans rfl) rfl ?_
  refine go_aload_n (pc' := 17) h ⟨dS_init_16, rfl⟩ rfl ?_
  refine go_new (n := 2) (a := M0.1 + 3) (pc' := 20) h ⟨dS_init_17, rfl⟩ nwS_9 rfl (hro.le (by omega) (by omega)) rfl ?_
  refine Go.mm (M' := nws (nws M0 ([ob 4 [.ref (M0.1 + 1), .null, .null, .null, .null]] ++ cR (M0.1 + 1) 4)) [ob 3 [.null, .int (iI 0)]]) (st' := [.ref (M0.1 + 3), .ref (M0.1)]) (nws_nw _ _ _) rfl ?_
  refine go_dup (pc' := 21) h ⟨dS_init_20, rfl⟩ rfl ?_
  refine gi_iconst (pc' := 22) h ⟨dS_init_21, rfl⟩ ?_
  refine go_callI (pc' := 25) (k := M0.1 + 3) (As := [.int (iI 4)]) (st := [.ref (M0.1 + 3), .ref (M0.1)]) h ⟨dS_init_22, rfl⟩ kvS_11 hX hR (hro.le (by omega) (by omega)) (cR_init X (M0 := nws M0 ([ob 4 [.ref (M0.1 + 1), .null, .null, .null, .null]] ++ cR (M0.1 + 1) 4)) (n := 4) (by omega)) (by omega) rfl (Nat.le_of_ble_eq_true rfl) rfl (fun v M' hP => ?_)
  obtain ⟨rfl, rfl⟩ := hP
  refine Go.mm (M' := nws M0 ([ob 4 [.ref (M0.1 + 1), .null, .null, .null, .null]] ++ cR (M0.1 + 1) 4 ++ cR (M0.1 + 3) 4)) (st' := [.ref (M0.1 + 3), .ref (M0.1)]) (nws_nws _ _ _) rfl ?_
  refine go_putF (fs := [.ref (M0.1 + 1), .null, .null, .null, .null]) (fs' := [.ref (M0.1 + 1), .ref (M0.1 + 3), .null, .null, .null]) (pc' := 28) h hini ⟨dS_init_25, rfl⟩ fpS_20 ((nws_gt M0 ([ob 4 [.ref (M0.1 + 1), .null, .null, .null, .null]] ++ cR (M0.1 + 1) 4 ++ cR (M0.1 + 3) 4) 0).trans rfl) (fun _ => rfl) (fun _ => rfl) (show 1 + 1 ≤ _ from Nat.le_of_ble_eq_true rfl) rfl ?_
  refine Go.mm (M' := nws M0 ([ob 4 [.ref (M0.1 + 1), .ref (M0.1 + 3), .null, .null, .null]] ++ cR (M0.1 + 1) 4 ++ cR (M0.1 + 3) 4)) (st' := []) ((nws_up M0 ([ob 4 [.ref (M0.1 + 1), .null, .null, .null, .null]] ++ cR (M0.1 + 1) 4 ++ cR (M0.1 + 3) 4) 0 _ (Nat.zero_lt_succ _)).trans rfl) rfl ?_
  refine go_aload_n (pc' := 29) h ⟨dS_init_28, rfl⟩ rfl ?_
  refine go_new (n := 2) (a := M0.1 + 5) (pc' := 32) h ⟨dS_init_29, rfl⟩ nwS_9 rfl (hro.le (by omega) (by omega)) rfl ?_
  refine Go.mm (M' := nws (nws M0 ([ob 4 [.ref (M0.1 + 1), .ref (M0.1 + 3), .null, .null, .null]] ++ cR (M0.1 + 1) 4 ++ cR (M0.1 + 3) 4)) [ob 3 [.null, .int (iI 0)]]) (st' := [.ref (M0.1 + 5), .ref (M0.1)]) (nws_nw _ _ _) rfl ?_
  refine go_dup (pc' := 33) h ⟨dS_init_32, rfl⟩ rfl ?_
  refine gi_bipush (pc' := 35) h ⟨dS_init_33, rfl⟩ rfl ?_
  refine go_callI (pc' := 38) (k := M0.1 + 5) (As := [.int (iI 100)]) (st := [.ref (M0.1 + 5), .ref (M0.1)]) h ⟨dS_init_35, rfl⟩ kvS_11 hX hR (hro.le (by omega) (by omega)) (cR_init X (M0 := nws M0 ([ob 4 [.ref (M0.1 + 1), .ref (M0.1 + 3), .null, .null, .null]] ++ cR (M0.1 + 1) 4 ++ cR (M0.1 + 3) 4)) (n := 100) (by omega)) (by omega) rfl (Nat.le_of_ble_eq_true rfl) rfl (fun v M' hP => ?_)
  obtain ⟨rfl, rfl⟩ := hP
  refine Go.mm (M' := nws M0 ([ob 4 [.ref (M0.1 + 1), .ref (M0.1 + 3), .null, .null, .null]] ++ cR (M0.1 + 1) 4 ++ cR (M0.1 + 3) 4 ++ cR (M0.1 + 5) 100)) (st' := [.ref (M0.1 + 5), .ref (M0.1)]) (nws_nws _ _ _) rfl ?_
  refine go_putF (fs := [.ref (M0.1 + 1), .ref (M0.1 + 3), .null, .null, .null]) (fs' := [.ref (M0.1 + 1), .ref (M0.1 + 3), .ref (M0.1 + 5), .null, .null]) (pc' := 41) h hini ⟨dS_init_38, rfl⟩ fpS_23 ((nws_gt M0 ([ob 4 [.ref (M0.1 + 1), .ref (M0.1 + 3), .null, .null, .null]] ++ cR (M0.1 + 1) 4 ++ cR (M0.1 + 3) 4 ++ cR (M0.1 + 5) 100) 0).trans rfl) (fun _ => rfl) (fun _ => rfl) (show 2 + 1 ≤ _ from Nat.le_of_ble_eq_true rfl) rfl ?_
  refine Go.mm (M' := nws M0 ([ob 4 [.ref (M0.1 + 1), .ref (M0.1 + 3), .ref (M0.1 + 5), .null, .null]] ++ cR (M0.1 + 1) 4 ++ cR (M0.1 + 3) 4 ++ cR (M0.1 + 5) 100)) (st' := []) ((nws_up M0 ([ob 4 [.ref (M0.1 + 1), .ref (M0.1 + 3), .null, .null, .null]] ++ cR (M0.1 + 1) 4 ++ cR (M0.1 + 3) 4 ++ cR (M0.1 + 5) 100) 0 _ (Nat.zero_lt_succ _)).trans rfl) rfl ?_
  refine go_aload_n (pc' := 42) h ⟨dS_init_41, rfl⟩ rfl ?_
  refine go_new (n := 2) (a := M0.1 + 7) (pc' := 45) h ⟨dS_init_42, rfl⟩ nwS_9 rfl (hro.le (by omega) (by omega)) rfl ?_
  refine Go.mm (M' := nws (nws M0 ([ob 4 [.ref (M0.1 + 1), .ref (M0.1 + 3), .ref (M0.1 + 5), .null, .null]] ++ cR (M0.1 + 1) 4 ++ cR (M0.1 + 3) 4 ++ cR (M0.1 + 5) 100)) [ob 3 [.null, .int (iI 0)]]) (st' := [.ref (M0.1 + 7), .ref (M0.1)]) (nws_nw _ _ _) rfl ?_
  refine go_dup (pc' := 46) h ⟨dS_init_45, rfl⟩ rfl ?_
  refine gi_bipush (pc' := 48) h ⟨dS_init_46, rfl⟩ rfl ?_
  refine go_callI (pc' := 51) (k := M0.1 + 7) (As := [.int (iI 100)]) (st := [.ref (M0.1 + 7), .ref (M0.1)]) h ⟨dS_init_48, rfl⟩ kvS_11 hX hR (hro.le (by omega) (by omega)) (cR_init X (M0 := nws M0 ([ob 4 [.ref (M0.1 + 1), .ref (M0.1 + 3), .ref (M0.1 + 5), .null, .null]] ++ cR (M0.1 + 1) 4 ++ cR (M0.1 + 3) 4 ++ cR (M0.1 + 5) 100)) (n := 100) (by omega)) (by omega) rfl (Nat.le_of_ble_eq_true rfl) rfl (fun v M' hP => ?_)
  obtain ⟨rfl, rfl⟩ := hP
  refine Go.mm (M' := nws M0 ([ob 4 [.ref (M0.1 + 1), .ref (M0.1 + 3), .ref (M0.1 + 5), .null, .null]] ++ cR (M0.1 + 1) 4 ++ cR (M0.1 + 3) 4 ++ cR (M0.1 + 5) 100 ++ cR (M0.1 + 7) 100)) (st' := [.ref (M0.1 + 7), .ref (M0.1)]) (nws_nws _ _ _) rfl ?_
  refine go_putF (fs := [.ref (M0.1 + 1), .ref (M0.1 + 3), .ref (M0.1 + 5), .null, .null]) (fs' := [.ref (M0.1 + 1), .ref (M0.1 + 3), .ref (M0.1 + 5), .ref (M0.1 + 7), .null]) (pc' := 54) h hini ⟨dS_init_51, rfl⟩ fpS_26 ((nws_gt M0 ([ob 4 [.ref (M0.1 + 1), .ref (M0.1 + 3), .ref (M0.1 + 5), .null, .null]] ++ cR (M0.1 + 1) 4 ++ cR (M0.1 + 3) 4 ++ cR (M0.1 + 5) 100 ++ cR (M0.1 + 7) 100) 0).trans rfl) (fun _ => rfl) (fun _ => rfl) (show 3 + 1 ≤ _ from Nat.le_of_ble_eq_true rfl) rfl ?_
  refine Go.mm (M' := nws M0 ([ob 4 [.ref (M0.1 + 1), .ref (M0.1 + 3), .ref (M0.1 + 5), .ref (M0.1 + 7), .null]] ++ cR (M0.1 + 1) 4 ++ cR (M0.1 + 3) 4 ++ cR (M0.1 + 5) 100 ++ cR (M0.1 + 7) 100)) (st' := []) ((nws_up M0 ([ob 4 [.ref (M0.1 + 1), .ref (M0.1 + 3), .ref (M0.1 + 5), .null, .null]] ++ cR (M0.1 + 1) 4 ++ cR (M0.1 + 3) 4 ++ cR (M0.1 + 5) 100 ++ cR (M0.1 + 7) 100) 0 _ (Nat.zero_lt_succ _)).trans rfl) rfl ?_
  refine go_aload_n (pc' := 55) h ⟨dS_init_54, rfl⟩ rfl ?_
  refine go_new (n := 2) (a := M0.1 + 9) (pc' := 58) h ⟨dS_init_55, rfl⟩ nwS_9 rfl (hro.le (by omega) (by omega)) rfl ?_
  refine Go.mm (M' := nws (nws M0 ([ob 4 [.ref (M0.1 + 1), .ref (M0.1 + 3), .ref (M0.1 + 5), .ref (M0.1 + 7), .null]] ++ cR (M0.1 + 1) 4 ++ cR (M0.1 + 3) 4 ++ cR (M0.1 + 5) 100 ++ cR (M0.1 + 7) 100)) [ob 3 [.null, .int (iI 0)]]) (st' := [.ref (M0.1 + 9), .ref (M0.1)]) (nws_nw _ _ _) rfl ?_
  refine go_dup (pc' := 59) h ⟨dS_init_58, rfl⟩ rfl ?_
  refine gi_bipush (pc' := 61) h ⟨dS_init_59, rfl⟩ rfl ?_
  refine go_callI (pc' := 64) (k := M0.1 + 9) (As := [.int (iI 6)]) (st := [.ref (M0.1 + 9), .ref (M0.1)]) h ⟨dS_init_61, rfl⟩ kvS_11 hX hR (hro.le (by omega) (by omega)) (cR_init X (M0 := nws M0 ([ob 4 [.ref (M0.1 + 1), .ref (M0.1 + 3), .ref (M0.1 + 5), .ref (M0.1 + 7), .null]] ++ cR (M0.1 + 1) 4 ++ cR (M0.1 + 3) 4 ++ cR (M0.1 + 5) 100 ++ cR (M0.1 + 7) 100)) (n := 6) (by omega)) (by omega) rfl (Nat.le_of_ble_eq_true rfl) rfl (fun v M' hP => ?_)
  obtain ⟨rfl, rfl⟩ := hP
  refine Go.mm (M' := nws M0 ([ob 4 [.ref (M0.1 + 1), .ref (M0.1 + 3), .ref (M0.1 + 5), .ref (M0.1 + 7), .null]] ++ cR (M0.1 + 1) 4 ++ cR (M0.1 + 3) 4 ++ cR (M0.1 + 5) 100 ++ cR (M0.1 + 7) 100 ++ cR (M0.1 + 9) 6)) (st' := [.ref (M0.1 + 9), .ref (M0.1)]) (nws_nws _ _ _) rfl ?_
  refine go_putF (fs := [.ref (M0.1 + 1), .ref (M0.1 + 3), .ref (M0.1 + 5), .ref (M0.1 + 7), .null]) (fs' := [.ref (M0.1 + 1), .ref (M0.1 + 3), .ref (M0.1 + 5), .ref (M0.1 + 7), .ref (M0.1 + 9)]) (pc' := 67) h hini ⟨dS_init_64, rfl⟩ fpS_29 ((nws_gt M0 ([ob 4 [.ref (M0.1 + 1), .ref (M0.1 + 3), .ref (M0.1 + 5), .ref (M0.1 + 7), .null]] ++ cR (M0.1 + 1) 4 ++ cR (M0.1 + 3) 4 ++ cR (M0.1 + 5) 100 ++ cR (M0.1 + 7) 100 ++ cR (M0.1 + 9) 6) 0).trans rfl) (fun _ => rfl) (fun _ => rfl) (show 4 + 1 ≤ _ from Nat.le_of_ble_eq_true rfl) rfl ?_
  refine Go.mm (M' := nws M0 ([ob 4 [.ref (M0.1 + 1), .ref (M0.1 + 3), .ref (M0.1 + 5), .ref (M0.1 + 7), .ref (M0.1 + 9)]] ++ cR (M0.1 + 1) 4 ++ cR (M0.1 + 3) 4 ++ cR (M0.1 + 5) 100 ++ cR (M0.1 + 7) 100 ++ cR (M0.1 + 9) 6)) (st' := []) ((nws_up M0 ([ob 4 [.ref (M0.1 + 1), .ref (M0.1 + 3), .ref (M0.1 + 5), .ref (M0.1 + 7), .null]] ++ cR (M0.1 + 1) 4 ++ cR (M0.1 + 3) 4 ++ cR (M0.1 + 5) 100 ++ cR (M0.1 + 7) 100 ++ cR (M0.1 + 9) 6) 0 _ (Nat.zero_lt_succ _)).trans rfl) rfl ?_
  exact go_vret h hE (by omega) (by omega) ⟨rfl, rfl⟩ dS_init_67
def cD (a : Nat) : List Ce := [ob 0 [.ref (a + 1), .ref (a + 3), .ref (a + 5)]] ++ cR (a + 1) 10 ++ cR (a + 3) 10 ++ cR (a + 5) 10
set_option maxRecDepth 4000 in
theorem cD_init (X : XT) (M0 : Mem) : Ctr X 2 yD_init bD_init 1 none [.ref M0.1] (nws M0 [ob 0 [.null, .null, .null]]) (fun v M' => v = none ∧ M' = nws M0 (cD M0.1)) 6 36 := by
  refine Ctr.of (by decide) rfl (Nat.le_of_ble_eq_true rfl) (fun F h hX hR hro hE hi => ?_)
  have hini := hi rfl
  refine go_aload_n (pc' := 1) h ⟨dD_init_0, rfl⟩ rfl ?_
  refine go_obj (d := 2) (pc' := 4) h ⟨dD_init_1, rfl⟩ oiD_3 hR (by omega) (Nat.le_of_ble_eq_true rfl) ?_
  refine go_aload_n (pc' := 5) h ⟨dD_init_4, rfl⟩ rfl ?_
  refine go_new (n := 2) (a := M0.1 + 1) (pc' := 8) h ⟨dD_init_5, rfl⟩ nwD_9 rfl (hro.le (by omega) (by omega)) rfl ?_
  refine Go.mm (M' := nws (nws M0 ([ob 0 [.null, .null, .null]])) [ob 3 [.null, .int (iI 0)]]) (st' := [.ref (M0.1 + 1), .ref (M0.1)]) (nws_nw _ _ _) rfl ?_
  refine go_dup (pc' := 9) h ⟨dD_init_8, rfl⟩ rfl ?_
  refine gi_bipush (pc' := 11) h ⟨dD_init_9, rfl⟩ rfl ?_
  refine go_callI (pc' := 14) (k := M0.1 + 1) (As := [.int (iI 10)]) (st := [.ref (M0.1 + 1), .ref (M0.1)]) h ⟨dD_init_11, rfl⟩ kvD_11 hX hR (hro.le (by omega) (by omega)) (cR_init X (M0 := nws M0 ([ob 0 [.null, .null, .null]])) (n := 10) (by omega)) (by omega) rfl (Nat.le_of_ble_eq_true rfl) rfl (fun v M' hP => ?_)
  obtain ⟨rfl, rfl⟩ := hP
  refine Go.mm (M' := nws M0 ([ob 0 [.null, .null, .null]] ++ cR (M0.1 + 1) 10)) (st' := [.ref (M0.1 + 1), .ref (M0.1)]) (nws_nws _ _ _) rfl ?_
  refine go_putF (fs := [.null, .null, .null]) (fs' := [.ref (M0.1 + 1), .null, .null]) (pc' := 17) h hini ⟨dD_init_14, rfl⟩ fpD_14 ((nws_gt M0 ([ob 0 [.null, .null, .null]] ++ cR (M0.1 + 1) 10) 0).trans rfl) (fun _ => rfl) (fun _ => rfl) (show 0 + 1 ≤ _ from Nat.le_of_ble_eq_true rfl) rfl ?_
  refine Go.mm (M' := nws M0 ([ob 0 [.ref (M0.1 + 1), .null, .null]] ++ cR (M0.1 + 1) 10)) (st' := []) ((nws_up M0 ([ob 0 [.null, .null, .null]] ++ cR (M0.1 + 1) 10) 0 _ (Nat.zero_lt_succ _)).trans rfl) rfl ?_
  refine go_aload_n (pc' := 18) h ⟨dD_init_17, rfl⟩ rfl ?_
  refine go_new (n := 2) (a := M0.1 + 3) (pc' := 21) h ⟨dD_init_18, rfl⟩ nwD_9 rfl (hro.le (by omega) (by omega)) rfl ?_
  refine Go.mm (M' := nws (nws M0 ([ob 0 [.ref (M0.1 + 1), .null, .null]] ++ cR (M0.1 + 1) 10)) [ob 3 [.null, .int (iI 0)]]) (st' := [.ref (M0.1 + 3), .ref (M0.1)]) (nws_nw _ _ _) rfl ?_
  refine go_dup (pc' := 22) h ⟨dD_init_21, rfl⟩ rfl ?_
  refine gi_bipush (pc' := 24) h ⟨dD_init_22, rfl⟩ rfl ?_
  refine go_callI (pc' := 27) (k := M0.1 + 3) (As := [.int (iI 10)]) (st := [.ref (M0.1 + 3), .ref (M0.1)]) h ⟨dD_init_24, rfl⟩ kvD_11 hX hR (hro.le (by omega) (by omega)) (cR_init X (M0 := nws M0 ([ob 0 [.ref (M0.1 + 1), .null, .null]] ++ cR (M0.1 + 1) 10)) (n := 10) (by omega)) (by omega) rfl (Nat.le_of_ble_eq_true rfl) rfl (fun v M' hP => ?_)
  obtain ⟨rfl, rfl⟩ := hP
  refine Go.mm (M' := nws M0 ([ob 0 [.ref (M0.1 + 1), .null, .null]] ++ cR (M0.1 + 1) 10 ++ cR (M0.1 + 3) 10)) (st' := [.ref (M0.1 + 3), .ref (M0.1)]) (nws_nws _ _ _) rfl ?_
  refine go_putF (fs := [.ref (M0.1 + 1), .null, .null]) (fs' := [.ref (M0.1 + 1), .ref (M0.1 + 3), .null]) (pc' := 30) h hini ⟨dD_init_27, rfl⟩ fpD_20 ((nws_gt M0 ([ob 0 [.ref (M0.1 + 1), .null, .null]] ++ cR (M0.1 + 1) 10 ++ cR (M0.1 + 3) 10) 0).trans rfl) (fun _ => rfl) (fun _ => rfl) (show 1 + 1 ≤ _ from Nat.le_of_ble_eq_true rfl) rfl ?_
  refine Go.mm (M' := nws M0 ([ob 0 [.ref (M0.1 + 1), .ref (M0.1 + 3), .null]] ++ cR (M0.1 + 1) 10 ++ cR (M0.1 + 3) 10)) (st' := []) ((nws_up M0 ([ob 0 [.ref (M0.1 + 1), .null, .null]] ++ cR (M0.1 + 1) 10 ++ cR (M0.1 + 3) 10) 0 _ (Nat.zero_lt_succ _)).trans rfl) rfl ?_
  refine go_aload_n (pc' := 31) h ⟨dD_init_30, rfl⟩ rfl ?_
  refine go_new (n := 2) (a := M0.1 + 5) (pc' := 34) h ⟨dD_init_31, rfl⟩ nwD_9 rfl (hro.le (by omega) (by omega)) rfl ?_
  refine Go.mm (M' := nws (nws M0 ([ob 0 [.ref (M0.1 + 1), .ref (M0.1 + 3), .null]] ++ cR (M0.1 + 1) 10 ++ cR (M0.1 + 3) 10)) [ob 3 [.null, .int (iI 0)]]) (st' := [.ref (M0.1 + 5), .ref (M0.1)]) (nws_nw _ _ _) rfl ?_
  refine go_dup (pc' := 35) h ⟨dD_init_34, rfl⟩ rfl ?_
  refine gi_bipush (pc' := 37) h ⟨dD_init_35, rfl⟩ rfl ?_
  refine go_callI (pc' := 40) (k := M0.1 + 5) (As := [.int (iI 10)]) (st := [.ref (M0.1 + 5), .ref (M0.1)]) h ⟨dD_init_37, rfl⟩ kvD_11 hX hR (hro.le (by omega) (by omega)) (cR_init X (M0 := nws M0 ([ob 0 [.ref (M0.1 + 1), .ref (M0.1 + 3), .null]] ++ cR (M0.1 + 1) 10 ++ cR (M0.1 + 3) 10)) (n := 10) (by omega)) (by omega) rfl (Nat.le_of_ble_eq_true rfl) rfl (fun v M' hP => ?_)
  obtain ⟨rfl, rfl⟩ := hP
  refine Go.mm (M' := nws M0 ([ob 0 [.ref (M0.1 + 1), .ref (M0.1 + 3), .null]] ++ cR (M0.1 + 1) 10 ++ cR (M0.1 + 3) 10 ++ cR (M0.1 + 5) 10)) (st' := [.ref (M0.1 + 5), .ref (M0.1)]) (nws_nws _ _ _) rfl ?_
  refine go_putF (fs := [.ref (M0.1 + 1), .ref (M0.1 + 3), .null]) (fs' := [.ref (M0.1 + 1), .ref (M0.1 + 3), .ref (M0.1 + 5)]) (pc' := 43) h hini ⟨dD_init_40, rfl⟩ fpD_23 ((nws_gt M0 ([ob 0 [.ref (M0.1 + 1), .ref (M0.1 + 3), .null]] ++ cR (M0.1 + 1) 10 ++ cR (M0.1 + 3) 10 ++ cR (M0.1 + 5) 10) 0).trans rfl) (fun _ => rfl) (fun _ => rfl) (show 2 + 1 ≤ _ from Nat.le_of_ble_eq_true rfl) rfl ?_
  refine Go.mm (M' := nws M0 ([ob 0 [.ref (M0.1 + 1), .ref (M0.1 + 3), .ref (M0.1 + 5)]] ++ cR (M0.1 + 1) 10 ++ cR (M0.1 + 3) 10 ++ cR (M0.1 + 5) 10)) (st' := []) ((nws_up M0 ([ob 0 [.ref (M0.1 + 1), .ref (M0.1 + 3), .null]] ++ cR (M0.1 + 1) 10 ++ cR (M0.1 + 3) 10 ++ cR (M0.1 + 5) 10) 0 _ (Nat.zero_lt_succ _)).trans rfl) rfl ?_
  exact go_vret h hE (by omega) (by omega) ⟨rfl, rfl⟩ dD_init_43
def cN (a : Nat) : List Ce := [ob 5 [.ref (a + 1), .ref (a + 3), .ref (a + 5)]] ++ cR (a + 1) 6 ++ cR (a + 3) 6 ++ cR (a + 5) 41
set_option maxRecDepth 4000 in
theorem cN_init (X : XT) (M0 : Mem) : Ctr X 2 yN_init bN_init 1 none [.ref M0.1] (nws M0 [ob 5 [.null, .null, .null]]) (fun v M' => v = none ∧ M' = nws M0 (cN M0.1)) 6 59 := by
  refine Ctr.of (by decide) rfl (Nat.le_of_ble_eq_true rfl) (fun F h hX hR hro hE hi => ?_)
  have hini := hi rfl
  refine go_aload_n (pc' := 1) h ⟨dN_init_0, rfl⟩ rfl ?_
  refine go_obj (d := 2) (pc' := 4) h ⟨dN_init_1, rfl⟩ oiN_3 hR (by omega) (Nat.le_of_ble_eq_true rfl) ?_
  refine go_aload_n (pc' := 5) h ⟨dN_init_4, rfl⟩ rfl ?_
  refine go_new (n := 2) (a := M0.1 + 1) (pc' := 8) h ⟨dN_init_5, rfl⟩ nwN_9 rfl (hro.le (by omega) (by omega)) rfl ?_
  refine Go.mm (M' := nws (nws M0 ([ob 5 [.null, .null, .null]])) [ob 3 [.null, .int (iI 0)]]) (st' := [.ref (M0.1 + 1), .ref (M0.1)]) (nws_nw _ _ _) rfl ?_
  refine go_dup (pc' := 9) h ⟨dN_init_8, rfl⟩ rfl ?_
  refine gi_bipush (pc' := 11) h ⟨dN_init_9, rfl⟩ rfl ?_
  refine go_callI (pc' := 14) (k := M0.1 + 1) (As := [.int (iI 6)]) (st := [.ref (M0.1 + 1), .ref (M0.1)]) h ⟨dN_init_11, rfl⟩ kvN_11 hX hR (hro.le (by omega) (by omega)) (cR_init X (M0 := nws M0 ([ob 5 [.null, .null, .null]])) (n := 6) (by omega)) (by omega) rfl (Nat.le_of_ble_eq_true rfl) rfl (fun v M' hP => ?_)
  obtain ⟨rfl, rfl⟩ := hP
  refine Go.mm (M' := nws M0 ([ob 5 [.null, .null, .null]] ++ cR (M0.1 + 1) 6)) (st' := [.ref (M0.1 + 1), .ref (M0.1)]) (nws_nws _ _ _) rfl ?_
  refine go_putF (fs := [.null, .null, .null]) (fs' := [.ref (M0.1 + 1), .null, .null]) (pc' := 17) h hini ⟨dN_init_14, rfl⟩ fpN_14 ((nws_gt M0 ([ob 5 [.null, .null, .null]] ++ cR (M0.1 + 1) 6) 0).trans rfl) (fun _ => rfl) (fun _ => rfl) (show 0 + 1 ≤ _ from Nat.le_of_ble_eq_true rfl) rfl ?_
  refine Go.mm (M' := nws M0 ([ob 5 [.ref (M0.1 + 1), .null, .null]] ++ cR (M0.1 + 1) 6)) (st' := []) ((nws_up M0 ([ob 5 [.null, .null, .null]] ++ cR (M0.1 + 1) 6) 0 _ (Nat.zero_lt_succ _)).trans rfl) rfl ?_
  refine go_aload_n (pc' := 18) h ⟨dN_init_17, rfl⟩ rfl ?_
  refine go_new (n := 2) (a := M0.1 + 3) (pc' := 21) h ⟨dN_init_18, rfl⟩ nwN_9 rfl (hro.le (by omega) (by omega)) rfl ?_
  refine Go.mm (M' := nws (nws M0 ([ob 5 [.ref (M0.1 + 1), .null, .null]] ++ cR (M0.1 + 1) 6)) [ob 3 [.null, .int (iI 0)]]) (st' := [.ref (M0.1 + 3), .ref (M0.1)]) (nws_nw _ _ _) rfl ?_
  refine go_dup (pc' := 22) h ⟨dN_init_21, rfl⟩ rfl ?_
  refine gi_bipush (pc' := 24) h ⟨dN_init_22, rfl⟩ rfl ?_
  refine go_callI (pc' := 27) (k := M0.1 + 3) (As := [.int (iI 6)]) (st := [.ref (M0.1 + 3), .ref (M0.1)]) h ⟨dN_init_24, rfl⟩ kvN_11 hX hR (hro.le (by omega) (by omega)) (cR_init X (M0 := nws M0 ([ob 5 [.ref (M0.1 + 1), .null, .null]] ++ cR (M0.1 + 1) 6)) (n := 6) (by omega)) (by omega) rfl (Nat.le_of_ble_eq_true rfl) rfl (fun v M' hP => ?_)
  obtain ⟨rfl, rfl⟩ := hP
  refine Go.mm (M' := nws M0 ([ob 5 [.ref (M0.1 + 1), .null, .null]] ++ cR (M0.1 + 1) 6 ++ cR (M0.1 + 3) 6)) (st' := [.ref (M0.1 + 3), .ref (M0.1)]) (nws_nws _ _ _) rfl ?_
  refine go_putF (fs := [.ref (M0.1 + 1), .null, .null]) (fs' := [.ref (M0.1 + 1), .ref (M0.1 + 3), .null]) (pc' := 30) h hini ⟨dN_init_27, rfl⟩ fpN_20 ((nws_gt M0 ([ob 5 [.ref (M0.1 + 1), .null, .null]] ++ cR (M0.1 + 1) 6 ++ cR (M0.1 + 3) 6) 0).trans rfl) (fun _ => rfl) (fun _ => rfl) (show 1 + 1 ≤ _ from Nat.le_of_ble_eq_true rfl) rfl ?_
  refine Go.mm (M' := nws M0 ([ob 5 [.ref (M0.1 + 1), .ref (M0.1 + 3), .null]] ++ cR (M0.1 + 1) 6 ++ cR (M0.1 + 3) 6)) (st' := []) ((nws_up M0 ([ob 5 [.ref (M0.1 + 1), .null, .null]] ++ cR (M0.1 + 1) 6 ++ cR (M0.1 + 3) 6) 0 _ (Nat.zero_lt_succ _)).trans rfl) rfl ?_
  refine go_aload_n (pc' := 31) h ⟨dN_init_30, rfl⟩ rfl ?_
  refine go_new (n := 2) (a := M0.1 + 5) (pc' := 34) h ⟨dN_init_31, rfl⟩ nwN_9 rfl (hro.le (by omega) (by omega)) rfl ?_
  refine Go.mm (M' := nws (nws M0 ([ob 5 [.ref (M0.1 + 1), .ref (M0.1 + 3), .null]] ++ cR (M0.1 + 1) 6 ++ cR (M0.1 + 3) 6)) [ob 3 [.null, .int (iI 0)]]) (st' := [.ref (M0.1 + 5), .ref (M0.1)]) (nws_nw _ _ _) rfl ?_
  refine go_dup (pc' := 35) h ⟨dN_init_34, rfl⟩ rfl ?_
  refine gi_bipush (pc' := 37) h ⟨dN_init_35, rfl⟩ rfl ?_
  refine go_callI (pc' := 40) (k := M0.1 + 5) (As := [.int (iI 41)]) (st := [.ref (M0.1 + 5), .ref (M0.1)]) h ⟨dN_init_37, rfl⟩ kvN_11 hX hR (hro.le (by omega) (by omega)) (cR_init X (M0 := nws M0 ([ob 5 [.ref (M0.1 + 1), .ref (M0.1 + 3), .null]] ++ cR (M0.1 + 1) 6 ++ cR (M0.1 + 3) 6)) (n := 41) (by omega)) (by omega) rfl (Nat.le_of_ble_eq_true rfl) rfl (fun v M' hP => ?_)
  obtain ⟨rfl, rfl⟩ := hP
  refine Go.mm (M' := nws M0 ([ob 5 [.ref (M0.1 + 1), .ref (M0.1 + 3), .null]] ++ cR (M0.1 + 1) 6 ++ cR (M0.1 + 3) 6 ++ cR (M0.1 + 5) 41)) (st' := [.ref (M0.1 + 5), .ref (M0.1)]) (nws_nws _ _ _) rfl ?_
  refine go_putF (fs := [.ref (M0.1 + 1), .ref (M0.1 + 3), .null]) (fs' := [.ref (M0.1 + 1), .ref (M0.1 + 3), .ref (M0.1 + 5)]) (pc' := 43) h hini ⟨dN_init_40, rfl⟩ fpN_23 ((nws_gt M0 ([ob 5 [.ref (M0.1 + 1), .ref (M0.1 + 3), .null]] ++ cR (M0.1 + 1) 6 ++ cR (M0.1 + 3) 6 ++ cR (M0.1 + 5) 41) 0).trans rfl) (fun _ => rfl) (fun _ => rfl) (show 2 + 1 ≤ _ from Nat.le_of_ble_eq_true rfl) rfl ?_
  refine Go.mm (M' := nws M0 ([ob 5 [.ref (M0.1 + 1), .ref (M0.1 + 3), .ref (M0.1 + 5)]] ++ cR (M0.1 + 1) 6 ++ cR (M0.1 + 3) 6 ++ cR (M0.1 + 5) 41)) (st' := []) ((nws_up M0 ([ob 5 [.ref (M0.1 + 1), .ref (M0.1 + 3), .null]] ++ cR (M0.1 + 1) 6 ++ cR (M0.1 + 3) 6 ++ cR (M0.1 + 5) 41) 0 _ (Nat.zero_lt_succ _)).trans rfl) rfl ?_
  exact go_vret h hE (by omega) (by omega) ⟨rfl, rfl⟩ dN_init_43
def cM (a : Nat) : List Ce := [ob 1 [.ref (a + 1), .ref (a + 3), .ref (a + 5), .ref (a + 7)]] ++ cR (a + 1) 6 ++ cR (a + 3) 6 ++ cR (a + 5) 6 ++ cR (a + 7) 6
set_option maxRecDepth 4000 in
theorem cM_init (X : XT) (M0 : Mem) : Ctr X 2 yM_init bM_init 1 none [.ref M0.1] (nws M0 [ob 1 [.null, .null, .null, .null]]) (fun v M' => v = none ∧ M' = nws M0 (cM M0.1)) 8 32 := by
  refine Ctr.of (by decide) rfl (Nat.le_of_ble_eq_true rfl) (fun F h hX hR hro hE hi => ?_)
  have hini := hi rfl
  refine go_aload_n (pc' := 1) h ⟨dM_init_0, rfl⟩ rfl ?_
  refine go_obj (d := 2) (pc' := 4) h ⟨dM_init_1, rfl⟩ oiM_3 hR (by omega) (Nat.le_of_ble_eq_true rfl) ?_
  refine go_aload_n (pc' := 5) h ⟨dM_init_4, rfl⟩ rfl ?_
  refine go_new (n := 2) (a := M0.1 + 1) (pc' := 8) h ⟨dM_init_5, rfl⟩ nwM_9 rfl (hro.le (by omega) (by omega)) rfl ?_
  refine Go.mm (M' := nws (nws M0 ([ob 1 [.null, .null, .null, .null]])) [ob 3 [.null, .int (iI 0)]]) (st' := [.ref (M0.1 + 1), .ref (M0.1)]) (nws_nw _ _ _) rfl ?_
  refine go_dup (pc' := 9) h ⟨dM_init_8, rfl⟩ rfl ?_
  refine gi_bipush (pc' := 11) h ⟨dM_init_9, rfl⟩ rfl ?_
  refine go_callI (pc' := 14) (k := M0.1 + 1) (As := [.int (iI 6)]) (st := [.ref (M0.1 + 1), .ref (M0.1)]) h ⟨dM_init_11, rfl⟩ kvM_11 hX hR (hro.le (by omega) (by omega)) (cR_init X (M0 := nws M0 ([ob 1 [.null, .null, .null, .null]])) (n := 6) (by omega)) (by omega) rfl (Nat.le_of_ble_eq_true rfl) rfl (fun v M' hP => ?_)
  obtain ⟨rfl, rfl⟩ := hP
  refine Go.mm (M' := nws M0 ([ob 1 [.null, .null, .null, .null]] ++ cR (M0.1 + 1) 6)) (st' := [.ref (M0.1 + 1), .ref (M0.1)]) (nws_nws _ _ _) rfl ?_
  refine go_putF (fs := [.null, .null, .null, .null]) (fs' := [.ref (M0.1 + 1), .null, .null, .null]) (pc' := 17) h hini ⟨dM_init_14, rfl⟩ fpM_14 ((nws_gt M0 ([ob 1 [.null, .null, .null, .null]] ++ cR (M0.1 + 1) 6) 0).trans rfl) (fun _ => rfl) (fun _ => rfl) (show 0 + 1 ≤ _ from Nat.le_of_ble_eq_true rfl) rfl ?_
  refine Go.mm (M' := nws M0 ([ob 1 [.ref (M0.1 + 1), .null, .null, .null]] ++ cR (M0.1 + 1) 6)) (st' := []) ((nws_up M0 ([ob 1 [.null, .null, .null, .null]] ++ cR (M0.1 + 1) 6) 0 _ (Nat.zero_lt_succ _)).trans rfl) rfl ?_
  refine go_aload_n (pc' := 18) h ⟨dM_init_17, rfl⟩ rfl ?_
  refine go_new (n := 2) (a := M0.1 + 3) (pc' := 21) h ⟨dM_init_18, rfl⟩ nwM_9 rfl (hro.le (by omega) (by omega)) rfl ?_
  refine Go.mm (M' := nws (nws M0 ([ob 1 [.ref (M0.1 + 1), .null, .null, .null]] ++ cR (M0.1 + 1) 6)) [ob 3 [.null, .int (iI 0)]]) (st' := [.ref (M0.1 + 3), .ref (M0.1)]) (nws_nw _ _ _) rfl ?_
  refine go_dup (pc' := 22) h ⟨dM_init_21, rfl⟩ rfl ?_
  refine gi_bipush (pc' := 24) h ⟨dM_init_22, rfl⟩ rfl ?_
  refine go_callI (pc' := 27) (k := M0.1 + 3) (As := [.int (iI 6)]) (st := [.ref (M0.1 + 3), .ref (M0.1)]) h ⟨dM_init_24, rfl⟩ kvM_11 hX hR (hro.le (by omega) (by omega)) (cR_init X (M0 := nws M0 ([ob 1 [.ref (M0.1 + 1), .null, .null, .null]] ++ cR (M0.1 + 1) 6)) (n := 6) (by omega)) (by omega) rfl (Nat.le_of_ble_eq_true rfl) rfl (fun v M' hP => ?_)
  obtain ⟨rfl, rfl⟩ := hP
  refine Go.mm (M' := nws M0 ([ob 1 [.ref (M0.1 + 1), .null, .null, .null]] ++ cR (M0.1 + 1) 6 ++ cR (M0.1 + 3) 6)) (st' := [.ref (M0.1 + 3), .ref (M0.1)]) (nws_nws _ _ _) rfl ?_
  refine go_putF (fs := [.ref (M0.1 + 1), .null, .null, .null]) (fs' := [.ref (M0.1 + 1), .ref (M0.1 + 3), .null, .null]) (pc' := 30) h hini ⟨dM_init_27, rfl⟩ fpM_20 ((nws_gt M0 ([ob 1 [.ref (M0.1 + 1), .null, .null, .null]] ++ cR (M0.1 + 1) 6 ++ cR (M0.1 + 3) 6) 0).trans rfl) (fun _ => rfl) (fun _ => rfl) (show 1 + 1 ≤ _ from Nat.le_of_ble_eq_true rfl) rfl ?_
  refine Go.mm (M' := nws M0 ([ob 1 [.ref (M0.1 + 1), .ref (M0.1 + 3), .null, .null]] ++ cR (M0.1 + 1) 6 ++ cR (M0.1 + 3) 6)) (st' := []) ((nws_up M0 ([ob 1 [.ref (M0.1 + 1), .null, .null, .null]] ++ cR (M0.1 + 1) 6 ++ cR (M0.1 + 3) 6) 0 _ (Nat.zero_lt_succ _)).trans rfl) rfl ?_
  refine go_aload_n (pc' := 31) h ⟨dM_init_30, rfl⟩ rfl ?_
  refine go_new (n := 2) (a := M0.1 + 5) (pc' := 34) h ⟨dM_init_31, rfl⟩ nwM_9 rfl (hro.le (by omega) (by omega)) rfl ?_
  refine Go.mm (M' := nws (nws M0 ([ob 1 [.ref (M0.1 + 1), .ref (M0.1 + 3), .null, .null]] ++ cR (M0.1 + 1) 6 ++ cR (M0.1 + 3) 6)) [ob 3 [.null, .int (iI 0)]]) (st' := [.ref (M0.1 + 5), .ref (M0.1)]) (nws_nw _ _ _) rfl ?_
  refine go_dup (pc' := 35) h ⟨dM_init_34, rfl⟩ rfl ?_
  refine gi_bipush (pc' := 37) h ⟨dM_init_35, rfl⟩ rfl ?_
  refine go_callI (pc' := 40) (k := M0.1 + 5) (As := [.int (iI 6)]) (st := [.ref (M0.1 + 5), .ref (M0.1)]) h ⟨dM_init_37, rfl⟩ kvM_11 hX hR (hro.le (by omega) (by omega)) (cR_init X (M0 := nws M0 ([ob 1 [.ref (M0.1 + 1), .ref (M0.1 + 3), .null, .null]] ++ cR (M0.1 + 1) 6 ++ cR (M0.1 + 3) 6)) (n := 6) (by omega)) (by omega) rfl (Nat.le_of_ble_eq_true rfl) rfl (fun v M' hP => ?_)
  obtain ⟨rfl, rfl⟩ := hP
  refine Go.mm (M' := nws M0 ([ob 1 [.ref (M0.1 + 1), .ref (M0.1 + 3), .null, .null]] ++ cR (M0.1 + 1) 6 ++ cR (M0.1 + 3) 6 ++ cR (M0.1 + 5) 6)) (st' := [.ref (M0.1 + 5), .ref (M0.1)]) (nws_nws _ _ _) rfl ?_
  refine go_putF (fs := [.ref (M0.1 + 1), .ref (M0.1 + 3), .null, .null]) (fs' := [.ref (M0.1 + 1), .ref (M0.1 + 3), .ref (M0.1 + 5), .null]) (pc' := 43) h hini ⟨dM_init_40, rfl⟩ fpM_23 ((nws_gt M0 ([ob 1 [.ref (M0.1 + 1), .ref (M0.1 + 3), .null, .null]] ++ cR (M0.1 + 1) 6 ++ cR (M0.1 + 3) 6 ++ cR (M0.1 + 5) 6) 0).trans rfl) (fun _ => rfl) (fun _ => rfl) (show 2 + 1 ≤ _ from Nat.le_of_ble_eq_true rfl) rfl ?_
  refine Go.mm (M' := nws M0 ([ob 1 [.ref (M0.1 + 1), .ref (M0.1 + 3), .ref (M0.1 + 5), .null]] ++ cR (M0.1 + 1) 6 ++ cR (M0.1 + 3) 6 ++ cR (M0.1 + 5) 6)) (st' := []) ((nws_up M0 ([ob 1 [.ref (M0.1 + 1), .ref (M0.1 + 3), .null, .null]] ++ cR (M0.1 + 1) 6 ++ cR (M0.1 + 3) 6 ++ cR (M0.1 + 5) 6) 0 _ (Nat.zero_lt_succ _)).trans rfl) rfl ?_
  refine go_aload_n (pc' := 44) h ⟨dM_init_43, rfl⟩ rfl ?_
  refine go_new (n := 2) (a := M0.1 + 7) (pc' := 47) h ⟨dM_init_44, rfl⟩ nwM_9 rfl (hro.le (by omega) (by omega)) rfl ?_
  refine Go.mm (M' := nws (nws M0 ([ob 1 [.ref (M0.1 + 1), .ref (M0.1 + 3), .ref (M0.1 + 5), .null]] ++ cR (M0.1 + 1) 6 ++ cR (M0.1 + 3) 6 ++ cR (M0.1 + 5) 6)) [ob 3 [.null, .int (iI 0)]]) (st' := [.ref (M0.1 + 7), .ref (M0.1)]) (nws_nw _ _ _) rfl ?_
  refine go_dup (pc' := 48) h ⟨dM_init_47, rfl⟩ rfl ?_
  refine gi_bipush (pc' := 50) h ⟨dM_init_48, rfl⟩ rfl ?_
  refine go_callI (pc' := 53) (k := M0.1 + 7) (As := [.int (iI 6)]) (st := [.ref (M0.1 + 7), .ref (M0.1)]) h ⟨dM_init_50, rfl⟩ kvM_11 hX hR (hro.le (by omega) (by omega)) (cR_init X (M0 := nws M0 ([ob 1 [.ref (M0.1 + 1), .ref (M0.1 + 3), .ref (M0.1 + 5), .null]] ++ cR (M0.1 + 1) 6 ++ cR (M0.1 + 3) 6 ++ cR (M0.1 + 5) 6)) (n := 6) (by omega)) (by omega) rfl (Nat.le_of_ble_eq_true rfl) rfl (fun v M' hP => ?_)
  obtain ⟨rfl, rfl⟩ := hP
  refine Go.mm (M' := nws M0 ([ob 1 [.ref (M0.1 + 1), .ref (M0.1 + 3), .ref (M0.1 + 5), .null]] ++ cR (M0.1 + 1) 6 ++ cR (M0.1 + 3) 6 ++ cR (M0.1 + 5) 6 ++ cR (M0.1 + 7) 6)) (st' := [.ref (M0.1 + 7), .ref (M0.1)]) (nws_nws _ _ _) rfl ?_
  refine go_putF (fs := [.ref (M0.1 + 1), .ref (M0.1 + 3), .ref (M0.1 + 5), .null]) (fs' := [.ref (M0.1 + 1), .ref (M0.1 + 3), .ref (M0.1 + 5), .ref (M0.1 + 7)]) (pc' := 56) h hini ⟨dM_init_53, rfl⟩ fpM_26 ((nws_gt M0 ([ob 1 [.ref (M0.1 + 1), .ref (M0.1 + 3), .ref (M0.1 + 5), .null]] ++ cR (M0.1 + 1) 6 ++ cR (M0.1 + 3) 6 ++ cR (M0.1 + 5) 6 ++ cR (M0.1 + 7) 6) 0).trans rfl) (fun _ => rfl) (fun _ => rfl) (show 3 + 1 ≤ _ from Nat.le_of_ble_eq_true rfl) rfl ?_
  refine Go.mm (M' := nws M0 ([ob 1 [.ref (M0.1 + 1), .ref (M0.1 + 3), .ref (M0.1 + 5), .ref (M0.1 + 7)]] ++ cR (M0.1 + 1) 6 ++ cR (M0.1 + 3) 6 ++ cR (M0.1 + 5) 6 ++ cR (M0.1 + 7) 6)) (st' := []) ((nws_up M0 ([ob 1 [.ref (M0.1 + 1), .ref (M0.1 + 3), .ref (M0.1 + 5), .null]] ++ cR (M0.1 + 1) 6 ++ cR (M0.1 + 3) 6 ++ cR (M0.1 + 5) 6 ++ cR (M0.1 + 7) 6) 0 _ (Nat.zero_lt_succ _)).trans rfl) rfl ?_
  exact go_vret h hE (by omega) (by omega) ⟨rfl, rfl⟩ dM_init_56
def E0 : Mem := (0, fun _ => none)
def cX : List Ce := ([ob 7 [.ref (1), .ref (4), .ref (17), .ref (30), .ref (41), .ref (52), .ref (63), .ref (65), .ref (72), .ref (79), .long 0]] ++ cT (1) ++ cP (4) ++ cP (17) ++ cS (30) ++ cS (41) ++ cS (52) ++ cR (63) 2 ++ cD (65) ++ cN (72) ++ cM (79))
set_option maxRecDepth 4000 in
theorem cX_init (X : XT) : Ctr X 3 yX_init bX_init 1 none [.ref 0] (nws E0 [ob 7 [.null, .null, .null, .null, .null, .null, .null, .null, .null, .null, .long 0]]) (fun v M' => v = none ∧ M' = nws E0 cX) 87 1245 := by
  refine Ctr.of (by decide) rfl (Nat.le_of_ble_eq_true rfl) (fun F h hX hR hro hE hi => ?_)
  have hini := hi rfl
  refine go_aload_n (pc' := 1) h ⟨dX_init_0, rfl⟩ rfl ?_
  refine go_obj (d := 3) (pc' := 4) h ⟨dX_init_1, rfl⟩ oiX_3 hR (by omega) (Nat.le_of_ble_eq_true rfl) ?_
  refine go_aload_n (pc' := 5) h ⟨dX_init_4, rfl⟩ rfl ?_
  refine go_new (n := 7) (a := 1) (pc' := 8) h ⟨dX_init_5, rfl⟩ nwX_9 rfl (hro.le (by omega) (by omega)) rfl ?_
  refine Go.mm (M' := nws (nws E0 ([ob 7 [.null, .null, .null, .null, .null, .null, .null, .null, .null, .null, .long 0]])) [ob 6 [.null, .int (iI 0), .int (iI 0), .int (iI 0), .int (iI 0), .int (iI 0), .int (iI 0)]]) (st' := [.ref (1), .ref (0)]) (nws_nw _ _ _) rfl ?_
  refine go_dup (pc' := 9) h ⟨dX_init_8, rfl⟩ rfl ?_
  refine go_callIN (pc' := 12) (k := 1) (As := []) (st := [.ref (1), .ref (0)]) h ⟨dX_init_9, rfl⟩ kvX_11 hX hR (hro.le (by omega) (by omega)) (cT_init X (nws E0 ([ob 7 [.null, .null, .null, .null, .null, .null, .null, .null, .null, .null, .long 0]]))) (by omega) rfl (Nat.le_of_ble_eq_true rfl) rfl (fun v M' hP => ?_)
  obtain ⟨rfl, rfl⟩ := hP
  refine Go.mm (M' := nws E0 ([ob 7 [.null, .null, .null, .null, .null, .null, .null, .null, .null, .null, .long 0]] ++ cT (1))) (st' := [.ref (1), .ref (0)]) (nws_nws _ _ _) rfl ?_
  refine go_putF (fs := [.null, .null, .null, .null, .null, .null, .null, .null, .null, .null, .long 0]) (fs' := [.ref (1), .null, .null, .null, .null, .null, .null, .null, .null, .null, .long 0]) (pc' := 15) h hini ⟨dX_init_12, rfl⟩ fpX_12 ((nws_gt E0 ([ob 7 [.null, .null, .null, .null, .null, .null, .null, .null, .null, .null, .long 0]] ++ cT (1)) 0).trans rfl) (fun _ => rfl) (fun _ => rfl) (show 0 + 1 ≤ _ from Nat.le_of_ble_eq_true rfl) rfl ?_
  refine Go.mm (M' := nws E0 ([ob 7 [.ref (1), .null, .null, .null, .null, .null, .null, .null, .null, .null, .long 0]] ++ cT (1))) (st' := []) ((nws_up E0 ([ob 7 [.null, .null, .null, .null, .null, .null, .null, .null, .null, .null, .long 0]] ++ cT (1)) 0 _ (Nat.zero_lt_succ _)).trans rfl) rfl ?_
  refine go_aload_n (pc' := 16) h ⟨dX_init_15, rfl⟩ rfl ?_
  refine go_new (n := 8) (a := 4) (pc' := 19) h ⟨dX_init_16, rfl⟩ nwX_16 rfl (hro.le (by omega) (by omega)) rfl ?_
  refine Go.mm (M' := nws (nws E0 ([ob 7 [.ref (1), .null, .null, .null, .null, .null, .null, .null, .null, .null, .long 0]] ++ cT (1))) [ob 2 [.null, .null, .null, .null, .null, .null, .int (iI 0), .int (iI 0)]]) (st' := [.ref (4), .ref (0)]) (nws_nw _ _ _) rfl ?_
  refine go_dup (pc' := 20) h ⟨dX_init_19, rfl⟩ rfl ?_
  refine go_callIN (pc' := 23) (k := 4) (As := []) (st := [.ref (4), .ref (0)]) h ⟨dX_init_20, rfl⟩ kvX_18 hX hR (hro.le (by omega) (by omega)) (cP_init X (nws E0 ([ob 7 [.ref (1), .null, .null, .null, .null, .null, .null, .null, .null, .null, .long 0]] ++ cT (1)))) (by omega) rfl (Nat.le_of_ble_eq_true rfl) rfl (fun v M' hP => ?_)
  obtain ⟨rfl, rfl⟩ := hP
  refine Go.mm (M' := nws E0 ([ob 7 [.ref (1), .null, .null, .null, .null, .null, .null, .null, .null, .null, .long 0]] ++ cT (1) ++ cP (4))) (st' := [.ref (4), .ref (0)]) (nws_nws _ _ _) rfl ?_
  refine go_put (fs := [.ref (1), .null, .null, .null, .null, .null, .null, .null, .null, .null, .long 0]) (fs' := [.ref (1), .ref (4), .null, .null, .null, .null, .null, .null, .null, .null, .long 0]) (pc' := 26) h ⟨dX_init_23, rfl⟩ fpX_19 ((nws_gt E0 ([ob 7 [.ref (1), .null, .null, .null, .null, .null, .null, .null, .null, .null, .long 0]] ++ cT (1) ++ cP (4)) 0).trans rfl) (fun _ => rfl) (fun _ => rfl) (show 1 + 1 ≤ _ from Nat.le_of_ble_eq_true rfl) rfl ?_
  refine Go.mm (M' := nws E0 ([ob 7 [.ref (1), .ref (4), .null, .null, .null, .null, .null, .null, .null, .null, .long 0]] ++ cT (1) ++ cP (4))) (st' := []) ((nws_up E0 ([ob 7 [.ref (1), .null, .null, .null, .null, .null, .null, .null, .null, .null, .long 0]] ++ cT (1) ++ cP (4)) 0 _ (Nat.zero_lt_succ _)).trans rfl) rfl ?_
  refine go_aload_n (pc' := 27) h ⟨dX_init_26, rfl⟩ rfl ?_
  refine go_new (n := 8) (a := 17) (pc' := 30) h ⟨dX_init_27, rfl⟩ nwX_16 rfl (hro.le (by omega) (by omega)) rfl ?_
  refine Go.mm (M' := nws (nws E0 ([ob 7 [.ref (1), .ref (4), .null, .null, .null, .null, .null, .null, .null, .null, .long 0]] ++ cT (1) ++ cP (4))) [ob 2 [.null, .null, .null, .null, .null, .null, .int (iI 0), .int (iI 0)]]) (st' := [.ref (17), .ref (0)]) (nws_nw _ _ _) rfl ?_
  refine go_dup (pc' := 31) h ⟨dX_init_30, rfl⟩ rfl ?_
  refine go_callIN (pc' := 34) (k := 17) (As := []) (st := [.ref (17), .ref (0)]) h ⟨dX_init_31, rfl⟩ kvX_18 hX hR (hro.le (by omega) (by omega)) (cP_init X (nws E0 ([ob 7 [.ref (1), .ref (4), .null, .null, .null, .null, .null, .null, .null, .null, .long 0]] ++ cT (1) ++ cP (4)))) (by omega) rfl (Nat.le_of_ble_eq_true rfl) rfl (fun v M' hP => ?_)
  obtain ⟨rfl, rfl⟩ := hP
  refine Go.mm (M' := nws E0 ([ob 7 [.ref (1), .ref (4), .null, .null, .null, .null, .null, .null, .null, .null, .long 0]] ++ cT (1) ++ cP (4) ++ cP (17))) (st' := [.ref (17), .ref (0)]) (nws_nws _ _ _) rfl ?_
  refine go_put (fs := [.ref (1), .ref (4), .null, .null, .null, .null, .null, .null, .null, .null, .long 0]) (fs' := [.ref (1), .ref (4), .ref (17), .null, .null, .null, .null, .null, .null, .null, .long 0]) (pc' := 37) h ⟨dX_init_34, rfl⟩ fpX_23 ((nws_gt E0 ([ob 7 [.ref (1), .ref (4), .null, .null, .null, .null, .null, .null, .null, .null, .long 0]] ++ cT (1) ++ cP (4) ++ cP (17)) 0).trans rfl) (fun _ => rfl) (fun _ => rfl) (show 2 + 1 ≤ _ from Nat.le_of_ble_eq_true rfl) rfl ?_
  refine Go.mm (M' := nws E0 ([ob 7 [.ref (1), .ref (4), .ref (17), .null, .null, .null, .null, .null, .null, .null, .long 0]] ++ cT (1) ++ cP (4) ++ cP (17))) (st' := []) ((nws_up E0 ([ob 7 [.ref (1), .ref (4), .null, .null, .null, .null, .null, .null, .null, .null, .long 0]] ++ cT (1) ++ cP (4) ++ cP (17)) 0 _ (Nat.zero_lt_succ _)).trans rfl) rfl ?_
  refine go_aload_n (pc' := 38) h ⟨dX_init_37, rfl⟩ rfl ?_
  refine go_new (n := 5) (a := 30) (pc' := 41) h ⟨dX_init_38, rfl⟩ nwX_26 rfl (hro.le (by omega) (by omega)) rfl ?_
  refine Go.mm (M' := nws (nws E0 ([ob 7 [.ref (1), .ref (4), .ref (17), .null, .null, .null, .null, .null, .null, .null, .long 0]] ++ cT (1) ++ cP (4) ++ cP (17))) [ob 4 [.null, .null, .null, .null, .null]]) (st' := [.ref (30), .ref (0)]) (nws_nw _ _ _) rfl ?_
  refine go_dup (pc' := 42) h ⟨dX_init_41, rfl⟩ rfl ?_
  refine go_callIN (pc' := 45) (k := 30) (As := []) (st := [.ref (30), .ref (0)]) h ⟨dX_init_42, rfl⟩ kvX_28 hX hR (hro.le (by omega) (by omega)) (cS_init X (nws E0 ([ob 7 [.ref (1), .ref (4), .ref (17), .null, .null, .null, .null, .null, .null, .null, .long 0]] ++ cT (1) ++ cP (4) ++ cP (17)))) (by omega) rfl (Nat.le_of_ble_eq_true rfl) rfl (fun v M' hP => ?_)
  obtain ⟨rfl, rfl⟩ := hP
  refine Go.mm (M' := nws E0 ([ob 7 [.ref (1), .ref (4), .ref (17), .null, .null, .null, .null, .null, .null, .null, .long 0]] ++ cT (1) ++ cP (4) ++ cP (17) ++ cS (30))) (st' := [.ref (30), .ref (0)]) (nws_nws _ _ _) rfl ?_
  refine go_putF (fs := [.ref (1), .ref (4), .ref (17), .null, .null, .null, .null, .null, .null, .null, .long 0]) (fs' := [.ref (1), .ref (4), .ref (17), .ref (30), .null, .null, .null, .null, .null, .null, .long 0]) (pc' := 48) h hini ⟨dX_init_45, rfl⟩ fpX_29 ((nws_gt E0 ([ob 7 [.ref (1), .ref (4), .ref (17), .null, .null, .null, .null, .null, .null, .null, .long 0]] ++ cT (1) ++ cP (4) ++ cP (17) ++ cS (30)) 0).trans rfl) (fun _ => rfl) (fun _ => rfl) (show 3 + 1 ≤ _ from Nat.le_of_ble_eq_true rfl) rfl ?_
  refine Go.mm (M' := nws E0 ([ob 7 [.ref (1), .ref (4), .ref (17), .ref (30), .null, .null, .null, .null, .null, .null, .long 0]] ++ cT (1) ++ cP (4) ++ cP (17) ++ cS (30))) (st' := []) ((nws_up E0 ([ob 7 [.ref (1), .ref (4), .ref (17), .null, .null, .null, .null, .null, .null, .null, .long 0]] ++ cT (1) ++ cP (4) ++ cP (17) ++ cS (30)) 0 _ (Nat.zero_lt_succ _)).trans rfl) rfl ?_
  refine go_aload_n (pc' := 49) h ⟨dX_init_48, rfl⟩ rfl ?_
  refine go_new (n := 5) (a := 41) (pc' := 52) h ⟨dX_init_49, rfl⟩ nwX_26 rfl (hro.le (by omega) (by omega)) rfl ?_
  refine Go.mm (M' := nws (nws E0 ([ob 7 [.ref (1), .ref (4), .ref (17), .ref (30), .null, .null, .null, .null, .null, .null, .long 0]] ++ cT (1) ++ cP (4) ++ cP (17) ++ cS (30))) [ob 4 [.null, .null, .null, .null, .null]]) (st' := [.ref (41), .ref (0)]) (nws_nw _ _ _) rfl ?_
  refine go_dup (pc' := 53) h ⟨dX_init_52, rfl⟩ rfl ?_
  refine go_callIN (pc' := 56) (k := 41) (As := []) (st := [.ref (41), .ref (0)]) h ⟨dX_init_53, rfl⟩ kvX_28 hX hR (hro.le (by omega) (by omega)) (cS_init X (nws E0 ([ob 7 [.ref (1), .ref (4), .ref (17), .ref (30), .null, .null, .null, .null, .null, .null, .long 0]] ++ cT (1) ++ cP (4) ++ cP (17) ++ cS (30)))) (by omega) rfl (Nat.le_of_ble_eq_true rfl) rfl (fun v M' hP => ?_)
  obtain ⟨rfl, rfl⟩ := hP
  refine Go.mm (M' := nws E0 ([ob 7 [.ref (1), .ref (4), .ref (17), .ref (30), .null, .null, .null, .null, .null, .null, .long 0]] ++ cT (1) ++ cP (4) ++ cP (17) ++ cS (30) ++ cS (41))) (st' := [.ref (41), .ref (0)]) (nws_nws _ _ _) rfl ?_
  refine go_putF (fs := [.ref (1), .ref (4), .ref (17), .ref (30), .null, .null, .null, .null, .null, .null, .long 0]) (fs' := [.ref (1), .ref (4), .ref (17), .ref (30), .ref (41), .null, .null, .null, .null, .null, .long 0]) (pc' := 59) h hini ⟨dX_init_56, rfl⟩ fpX_33 ((nws_gt E0 ([ob 7 [.ref (1), .ref (4), .ref (17), .ref (30), .null, .null, .null, .null, .null, .null, .long 0]] ++ cT (1) ++ cP (4) ++ cP (17) ++ cS (30) ++ cS (41)) 0).trans rfl) (fun _ => rfl) (fun _ => rfl) (show 4 + 1 ≤ _ from Nat.le_of_ble_eq_true rfl) rfl ?_
  refine Go.mm (M' := nws E0 ([ob 7 [.ref (1), .ref (4), .ref (17), .ref (30), .ref (41), .null, .null, .null, .null, .null, .long 0]] ++ cT (1) ++ cP (4) ++ cP (17) ++ cS (30) ++ cS (41))) (st' := []) ((nws_up E0 ([ob 7 [.ref (1), .ref (4), .ref (17), .ref (30), .null, .null, .null, .null, .null, .null, .long 0]] ++ cT (1) ++ cP (4) ++ cP (17) ++ cS (30) ++ cS (41)) 0 _ (Nat.zero_lt_succ _)).trans rfl) rfl ?_
  refine go_aload_n (pc' := 60) h ⟨dX_init_59, rfl⟩ rfl ?_
  refine go_new (n := 5) (a := 52) (pc' := 63) h ⟨dX_init_60, rfl⟩ nwX_26 rfl (hro.le (by omega) (by omega)) rfl ?_
  refine Go.mm (M' := nws (nws E0 ([ob 7 [.ref (1), .ref (4), .ref (17), .ref (30), .ref (41), .null, .null, .null, .null, .null, .long 0]] ++ cT (1) ++ cP (4) ++ cP (17) ++ cS (30) ++ cS (41))) [ob 4 [.null, .null, .null, .null, .null]]) (st' := [.ref (52), .ref (0)]) (nws_nw _ _ _) rfl ?_
  refine go_dup (pc' := 64) h ⟨dX_init_63, rfl⟩ rfl ?_
  refine go_callIN (pc' := 67) (k := 52) (As := []) (st := [.ref (52), .ref (0)]) h ⟨dX_init_64, rfl⟩ kvX_28 hX hR (hro.le (by omega) (by omega)) (cS_init X (nws E0 ([ob 7 [.ref (1), .ref (4), .ref (17), .ref (30), .ref (41), .null, .null, .null, .null, .null, .long 0]] ++ cT (1) ++ cP (4) ++ cP (17) ++ cS (30) ++ cS (41)))) (by omega) rfl (Nat.le_of_ble_eq_true rfl) rfl (fun v M' hP => ?_)
  obtain ⟨rfl, rfl⟩ := hP
  refine Go.mm (M' := nws E0 ([ob 7 [.ref (1), .ref (4), .ref (17), .ref (30), .ref (41), .null, .null, .null, .null, .null, .long 0]] ++ cT (1) ++ cP (4) ++ cP (17) ++ cS (30) ++ cS (41) ++ cS (52))) (st' := [.ref (52), .ref (0)]) (nws_nws _ _ _) rfl ?_
  refine go_putF (fs := [.ref (1), .ref (4), .ref (17), .ref (30), .ref (41), .null, .null, .null, .null, .null, .long 0]) (fs' := [.ref (1), .ref (4), .ref (17), .ref (30), .ref (41), .ref (52), .null, .null, .null, .null, .long 0]) (pc' := 70) h hini ⟨dX_init_67, rfl⟩ fpX_36 ((nws_gt E0 ([ob 7 [.ref (1), .ref (4), .ref (17), .ref (30), .ref (41), .null, .null, .null, .null, .null, .long 0]] ++ cT (1) ++ cP (4) ++ cP (17) ++ cS (30) ++ cS (41) ++ cS (52)) 0).trans rfl) (fun _ => rfl) (fun _ => rfl) (show 5 + 1 ≤ _ from Nat.le_of_ble_eq_true rfl) rfl ?_
  refine Go.mm (M' := nws E0 ([ob 7 [.ref (1), .ref (4), .ref (17), .ref (30), .ref (41), .ref (52), .null, .null, .null, .null, .long 0]] ++ cT (1) ++ cP (4) ++ cP (17) ++ cS (30) ++ cS (41) ++ cS (52))) (st' := []) ((nws_up E0 ([ob 7 [.ref (1), .ref (4), .ref (17), .ref (30), .ref (41), .null, .null, .null, .null, .null, .long 0]] ++ cT (1) ++ cP (4) ++ cP (17) ++ cS (30) ++ cS (41) ++ cS (52)) 0 _ (Nat.zero_lt_succ _)).trans rfl) rfl ?_
  refine go_aload_n (pc' := 71) h ⟨dX_init_70, rfl⟩ rfl ?_
  refine go_new (n := 2) (a := 63) (pc' := 74) h ⟨dX_init_71, rfl⟩ nwX_39 rfl (hro.le (by omega) (by omega)) rfl ?_
  refine Go.mm (M' := nws (nws E0 ([ob 7 [.ref (1), .ref (4), .ref (17), .ref (30), .ref (41), .ref (52), .null, .null, .null, .null, .long 0]] ++ cT (1) ++ cP (4) ++ cP (17) ++ cS (30) ++ cS (41) ++ cS (52))) [ob 3 [.null, .int (iI 0)]]) (st' := [.ref (63), .ref (0)]) (nws_nw _ _ _) rfl ?_
  refine go_dup (pc' := 75) h ⟨dX_init_74, rfl⟩ rfl ?_
  refine gi_iconst (pc' := 76) h ⟨dX_init_75, rfl⟩ ?_
  refine go_callI (pc' := 79) (k := 63) (As := [.int (iI 2)]) (st := [.ref (63), .ref (0)]) h ⟨dX_init_76, rfl⟩ kvX_41 hX hR (hro.le (by omega) (by omega)) (cR_init X (M0 := nws E0 ([ob 7 [.ref (1), .ref (4), .ref (17), .ref (30), .ref (41), .ref (52), .null, .null, .null, .null, .long 0]] ++ cT (1) ++ cP (4) ++ cP (17) ++ cS (30) ++ cS (41) ++ cS (52))) (n := 2) (by omega)) (by omega) rfl (Nat.le_of_ble_eq_true rfl) rfl (fun v M' hP => ?_)
  obtain ⟨rfl, rfl⟩ := hP
  refine Go.mm (M' := nws E0 ([ob 7 [.ref (1), .ref (4), .ref (17), .ref (30), .ref (41), .ref (52), .null, .null, .null, .null, .long 0]] ++ cT (1) ++ cP (4) ++ cP (17) ++ cS (30) ++ cS (41) ++ cS (52) ++ cR (63) 2)) (st' := [.ref (63), .ref (0)]) (nws_nws _ _ _) rfl ?_
  refine go_putF (fs := [.ref (1), .ref (4), .ref (17), .ref (30), .ref (41), .ref (52), .null, .null, .null, .null, .long 0]) (fs' := [.ref (1), .ref (4), .ref (17), .ref (30), .ref (41), .ref (52), .ref (63), .null, .null, .null, .long 0]) (pc' := 82) h hini ⟨dX_init_79, rfl⟩ fpX_44 ((nws_gt E0 ([ob 7 [.ref (1), .ref (4), .ref (17), .ref (30), .ref (41), .ref (52), .null, .null, .null, .null, .long 0]] ++ cT (1) ++ cP (4) ++ cP (17) ++ cS (30) ++ cS (41) ++ cS (52) ++ cR (63) 2) 0).trans rfl) (fun _ => rfl) (fun _ => rfl) (show 6 + 1 ≤ _ from Nat.le_of_ble_eq_true rfl) rfl ?_
  refine Go.mm (M' := nws E0 ([ob 7 [.ref (1), .ref (4), .ref (17), .ref (30), .ref (41), .ref (52), .ref (63), .null, .null, .null, .long 0]] ++ cT (1) ++ cP (4) ++ cP (17) ++ cS (30) ++ cS (41) ++ cS (52) ++ cR (63) 2)) (st' := []) ((nws_up E0 ([ob 7 [.ref (1), .ref (4), .ref (17), .ref (30), .ref (41), .ref (52), .null, .null, .null, .null, .long 0]] ++ cT (1) ++ cP (4) ++ cP (17) ++ cS (30) ++ cS (41) ++ cS (52) ++ cR (63) 2) 0 _ (Nat.zero_lt_succ _)).trans rfl) rfl ?_
  refine go_aload_n (pc' := 83) h ⟨dX_init_82, rfl⟩ rfl ?_
  refine go_new (n := 3) (a := 65) (pc' := 86) h ⟨dX_init_83, rfl⟩ nwX_48 rfl (hro.le (by omega) (by omega)) rfl ?_
  refine Go.mm (M' := nws (nws E0 ([ob 7 [.ref (1), .ref (4), .ref (17), .ref (30), .ref (41), .ref (52), .ref (63), .null, .null, .null, .long 0]] ++ cT (1) ++ cP (4) ++ cP (17) ++ cS (30) ++ cS (41) ++ cS (52) ++ cR (63) 2)) [ob 0 [.null, .null, .null]]) (st' := [.ref (65), .ref (0)]) (nws_nw _ _ _) rfl ?_
  refine go_dup (pc' := 87) h ⟨dX_init_86, rfl⟩ rfl ?_
  refine go_callIN (pc' := 90) (k := 65) (As := []) (st := [.ref (65), .ref (0)]) h ⟨dX_init_87, rfl⟩ kvX_50 hX hR (hro.le (by omega) (by omega)) (cD_init X (nws E0 ([ob 7 [.ref (1), .ref (4), .ref (17), .ref (30), .ref (41), .ref (52), .ref (63), .null, .null, .null, .long 0]] ++ cT (1) ++ cP (4) ++ cP (17) ++ cS (30) ++ cS (41) ++ cS (52) ++ cR (63) 2))) (by omega) rfl (Nat.le_of_ble_eq_true rfl) rfl (fun v M' hP => ?_)
  obtain ⟨rfl, rfl⟩ := hP
  refine Go.mm (M' := nws E0 ([ob 7 [.ref (1), .ref (4), .ref (17), .ref (30), .ref (41), .ref (52), .ref (63), .null, .null, .null, .long 0]] ++ cT (1) ++ cP (4) ++ cP (17) ++ cS (30) ++ cS (41) ++ cS (52) ++ cR (63) 2 ++ cD (65))) (st' := [.ref (65), .ref (0)]) (nws_nws _ _ _) rfl ?_
  refine go_putF (fs := [.ref (1), .ref (4), .ref (17), .ref (30), .ref (41), .ref (52), .ref (63), .null, .null, .null, .long 0]) (fs' := [.ref (1), .ref (4), .ref (17), .ref (30), .ref (41), .ref (52), .ref (63), .ref (65), .null, .null, .long 0]) (pc' := 93) h hini ⟨dX_init_90, rfl⟩ fpX_51 ((nws_gt E0 ([ob 7 [.ref (1), .ref (4), .ref (17), .ref (30), .ref (41), .ref (52), .ref (63), .null, .null, .null, .long 0]] ++ cT (1) ++ cP (4) ++ cP (17) ++ cS (30) ++ cS (41) ++ cS (52) ++ cR (63) 2 ++ cD (65)) 0).trans rfl) (fun _ => rfl) (fun _ => rfl) (show 7 + 1 ≤ _ from Nat.le_of_ble_eq_true rfl) rfl ?_
  refine Go.mm (M' := nws E0 ([ob 7 [.ref (1), .ref (4), .ref (17), .ref (30), .ref (41), .ref (52), .ref (63), .ref (65), .null, .null, .long 0]] ++ cT (1) ++ cP (4) ++ cP (17) ++ cS (30) ++ cS (41) ++ cS (52) ++ cR (63) 2 ++ cD (65))) (st' := []) ((nws_up E0 ([ob 7 [.ref (1), .ref (4), .ref (17), .ref (30), .ref (41), .ref (52), .ref (63), .null, .null, .null, .long 0]] ++ cT (1) ++ cP (4) ++ cP (17) ++ cS (30) ++ cS (41) ++ cS (52) ++ cR (63) 2 ++ cD (65)) 0 _ (Nat.zero_lt_succ _)).trans rfl) rfl ?_
  refine go_aload_n (pc' := 94) h ⟨dX_init_93, rfl⟩ rfl ?_
  refine go_new (n := 3) (a := 72) (pc' := 97) h ⟨dX_init_94, rfl⟩ nwX_55 rfl (hro.le (by omega) (by omega)) rfl ?_
  refine Go.mm (M' := nws (nws E0 ([ob 7 [.ref (1), .ref (4), .ref (17), .ref (30), .ref (41), .ref (52), .ref (63), .ref (65), .null, .null, .long 0]] ++ cT (1) ++ cP (4) ++ cP (17) ++ cS (30) ++ cS (41) ++ cS (52) ++ cR (63) 2 ++ cD (65))) [ob 5 [.null, .null, .null]]) (st' := [.ref (72), .ref (0)]) (nws_nw _ _ _) rfl ?_
  refine go_dup (pc' := 98) h ⟨dX_init_97, rfl⟩ rfl ?_
  refine go_callIN (pc' := 101) (k := 72) (As := []) (st := [.ref (72), .ref (0)]) h ⟨dX_init_98, rfl⟩ kvX_57 hX hR (hro.le (by omega) (by omega)) (cN_init X (nws E0 ([ob 7 [.ref (1), .ref (4), .ref (17), .ref (30), .ref (41), .ref (52), .ref (63), .ref (65), .null, .null, .long 0]] ++ cT (1) ++ cP (4) ++ cP (17) ++ cS (30) ++ cS (41) ++ cS (52) ++ cR (63) 2 ++ cD (65)))) (by omega) rfl (Nat.le_of_ble_eq_true rfl) rfl (fun v M' hP => ?_)
  obtain ⟨rfl, rfl⟩ := hP
  refine Go.mm (M' := nws E0 ([ob 7 [.ref (1), .ref (4), .ref (17), .ref (30), .ref (41), .ref (52), .ref (63), .ref (65), .null, .null, .long 0]] ++ cT (1) ++ cP (4) ++ cP (17) ++ cS (30) ++ cS (41) ++ cS (52) ++ cR (63) 2 ++ cD (65) ++ cN (72))) (st' := [.ref (72), .ref (0)]) (nws_nws _ _ _) rfl ?_
  refine go_putF (fs := [.ref (1), .ref (4), .ref (17), .ref (30), .ref (41), .ref (52), .ref (63), .ref (65), .null, .null, .long 0]) (fs' := [.ref (1), .ref (4), .ref (17), .ref (30), .ref (41), .ref (52), .ref (63), .ref (65), .ref (72), .null, .long 0]) (pc' := 104) h hini ⟨dX_init_101, rfl⟩ fpX_58 ((nws_gt E0 ([ob 7 [.ref (1), .ref (4), .ref (17), .ref (30), .ref (41), .ref (52), .ref (63), .ref (65), .null, .null, .long 0]] ++ cT (1) ++ cP (4) ++ cP (17) ++ cS (30) ++ cS (41) ++ cS (52) ++ cR (63) 2 ++ cD (65) ++ cN (72)) 0).trans rfl) (fun _ => rfl) (fun _ => rfl) (show 8 + 1 ≤ _ from Nat.le_of_ble_eq_true rfl) rfl ?_
  refine Go.mm (M' := nws E0 ([ob 7 [.ref (1), .ref (4), .ref (17), .ref (30), .ref (41), .ref (52), .ref (63), .ref (65), .ref (72), .null, .long 0]] ++ cT (1) ++ cP (4) ++ cP (17) ++ cS (30) ++ cS (41) ++ cS (52) ++ cR (63) 2 ++ cD (65) ++ cN (72))) (st' := []) ((nws_up E0 ([ob 7 [.ref (1), .ref (4), .ref (17), .ref (30), .ref (41), .ref (52), .ref (63), .ref (65), .null, .null, .long 0]] ++ cT (1) ++ cP (4) ++ cP (17) ++ cS (30) ++ cS (41) ++ cS (52) ++ cR (63) 2 ++ cD (65) ++ cN (72)) 0 _ (Nat.zero_lt_succ _)).trans rfl) rfl ?_
  refine go_aload_n (pc' := 105) h ⟨dX_init_104, rfl⟩ rfl ?_
  refine go_new (n := 4) (a := 79) (pc' := 108) h ⟨dX_init_105, rfl⟩ nwX_62 rfl (hro.le (by omega) (by omega)) rfl ?_
  refine Go.mm (M' := nws (nws E0 ([ob 7 [.ref (1), .ref (4), .ref (17), .ref (30), .ref (41), .ref (52), .ref (63), .ref (65), .ref (72), .null, .long 0]] ++ cT (1) ++ cP (4) ++ cP (17) ++ cS (30) ++ cS (41) ++ cS (52) ++ cR (63) 2 ++ cD (65) ++ cN (72))) [ob 1 [.null, .null, .null, .null]]) (st' := [.ref (79), .ref (0)]) (nws_nw _ _ _) rfl ?_
  refine go_dup (pc' := 109) h ⟨dX_init_108, rfl⟩ rfl ?_
  refine go_callIN (pc' := 112) (k := 79) (As := []) (st := [.ref (79), .ref (0)]) h ⟨dX_init_109, rfl⟩ kvX_64 hX hR (hro.le (by omega) (by omega)) (cM_init X (nws E0 ([ob 7 [.ref (1), .ref (4), .ref (17), .ref (30), .ref (41), .ref (52), .ref (63), .ref (65), .ref (72), .null, .long 0]] ++ cT (1) ++ cP (4) ++ cP (17) ++ cS (30) ++ cS (41) ++ cS (52) ++ cR (63) 2 ++ cD (65) ++ cN (72)))) (by omega) rfl (Nat.le_of_ble_eq_true rfl) rfl (fun v M' hP => ?_)
  obtain ⟨rfl, rfl⟩ := hP
  refine Go.mm (M' := nws E0 ([ob 7 [.ref (1), .ref (4), .ref (17), .ref (30), .ref (41), .ref (52), .ref (63), .ref (65), .ref (72), .null, .long 0]] ++ cT (1) ++ cP (4) ++ cP (17) ++ cS (30) ++ cS (41) ++ cS (52) ++ cR (63) 2 ++ cD (65) ++ cN (72) ++ cM (79))) (st' := [.ref (79), .ref (0)]) (nws_nws _ _ _) rfl ?_
  refine go_putF (fs := [.ref (1), .ref (4), .ref (17), .ref (30), .ref (41), .ref (52), .ref (63), .ref (65), .ref (72), .null, .long 0]) (fs' := [.ref (1), .ref (4), .ref (17), .ref (30), .ref (41), .ref (52), .ref (63), .ref (65), .ref (72), .ref (79), .long 0]) (pc' := 115) h hini ⟨dX_init_112, rfl⟩ fpX_65 ((nws_gt E0 ([ob 7 [.ref (1), .ref (4), .ref (17), .ref (30), .ref (41), .ref (52), .ref (63), .ref (65), .ref (72), .null, .long 0]] ++ cT (1) ++ cP (4) ++ cP (17) ++ cS (30) ++ cS (41) ++ cS (52) ++ cR (63) 2 ++ cD (65) ++ cN (72) ++ cM (79)) 0).trans rfl) (fun _ => rfl) (fun _ => rfl) (show 9 + 1 ≤ _ from Nat.le_of_ble_eq_true rfl) rfl ?_
  refine Go.mm (M' := nws E0 ([ob 7 [.ref (1), .ref (4), .ref (17), .ref (30), .ref (41), .ref (52), .ref (63), .ref (65), .ref (72), .ref (79), .long 0]] ++ cT (1) ++ cP (4) ++ cP (17) ++ cS (30) ++ cS (41) ++ cS (52) ++ cR (63) 2 ++ cD (65) ++ cN (72) ++ cM (79))) (st' := []) ((nws_up E0 ([ob 7 [.ref (1), .ref (4), .ref (17), .ref (30), .ref (41), .ref (52), .ref (63), .ref (65), .ref (72), .null, .long 0]] ++ cT (1) ++ cP (4) ++ cP (17) ++ cS (30) ++ cS (41) ++ cS (52) ++ cR (63) 2 ++ cD (65) ++ cN (72) ++ cM (79)) 0 _ (Nat.zero_lt_succ _)).trans rfl) rfl ?_
  exact go_vret h hE (by omega) (by omega) ⟨rfl, rfl⟩ dX_init_115
