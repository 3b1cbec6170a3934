/-! what can have been: both halves alike -/
theorem as_iff (S : Sg) (row : Int) : ∀ n : Nat, asF S row n = 1 ↔ ∀ k : Nat, k < n → sumI (gsF S row k) (S.1 90 1) = S.1 100 k
  | 0 => ⟨fun _ k hk => by omega, fun _ => rfl⟩
  | n + 1 => by
    have ih := as_iff S row n
    rw [asF]
    constructor
    · intro h k hk
      by_cases hc : asF S row n = 1 ∧ sumI (gsF S row (n : Int)) (S.1 90 1) = S.1 100 (n : Int)
      · by_cases e : k = n
        · rw [e]; exact hc.2
        · exact ih.mp hc.1 k (by omega)
      · rw [if_neg hc] at h; omega
    · intro h
      exact if_pos ⟨ih.mpr (fun k hk => h k (by omega)), h n (by omega)⟩
theorem as_cg {S S' : Sg} (e : ∀ a : Nat, 88 ≤ a → S'.1 a = S.1 a) : asZ S' = asZ S := by
  have hg : ∀ row k : Int, gsF S' row k = gsF S row k := fun row k => by
    funext t
    unfold gsF
    rw [e 99 (by omega), e 94 (by omega)]
  funext row
  unfold asZ
  rw [e 88 (by omega)]
  have : ∀ n : Nat, asF S' row n = asF S row n := by
    intro n
    induction n with
    | zero => rfl
    | succ n ih => rw [asF, asF, ih, hg, e 90 (by omega), e 100 (by omega)]
  exact this _
theorem sF_pre (f : Int → Int) : ∀ (T : Nat) (c : Int), 0 ≤ c → c ≤ T → sumF (fun i => if i < c then f i else 0) T = sumF f c.toNat
  | 0, c, h0, h1 => by rw [show c.toNat = 0 by omega]; rfl
  | T + 1, c, h0, h1 => by
    show sumF (fun i => if i < c then f i else 0) T + (if (T : Int) < c then f T else 0) = _
    by_cases e : c = (T : Int) + 1
    · rw [if_pos (by omega), show c.toNat = T + 1 by omega]
      show _ = sumF f T + f T
      rw [sF_c (g := f) T (fun i hi => if_pos (by omega))]
    · rw [if_neg (by omega), sF_pre f T c h0 (by omega)]
      omega
/-- all that a count of ways is, in rows -/
theorem can_all {c : Int} {S : Sg} {p q : Nat} (h : Rp c S p q) : (∀ j : Int, 0 ≤ j → j ≤ 40 → cw S (S.1 (p + 11) 1) (-1) 0 j = sumF (fun r => ind (goI r = j ∧ asZ S r = 1)) (10 ^ (S.1 (p + 11) 1).toNat)) ∧ wayN S (S.1 (p + 11) 1) (-1) 0 = sumF (asZ S) (10 ^ (S.1 (p + 11) 1).toNat) ∧ (∀ x : Int, (0 ≤ x ∧ x < S.1 (p + 11) 1) → ∀ v : Int, (0 ≤ v ∧ v ≤ 9) → wayN S (S.1 (p + 11) 1) (rkP S p x) v = sumF (fun r => if asZ S r = 1 ∧ dgZ r x = v then 1 else 0) (10 ^ (S.1 (p + 11) 1).toNat)) := by
  obtain ⟨g1, g2, gw, gP, gT, gN, gU, gI, gS, gM, gt, gX⟩ := h
  obtain ⟨⟨s1, s2, s3⟩, s4, s5, s6⟩ := gS
  have b1 := gP.2.2.2.1.2.1
  have a6 := gP.2.2.2.2.2.1
  have o3 := gP.1.2.2.1
  have hT : ∃ T, T = (S.1 (p + 11) 1).toNat := ⟨_, rfl⟩
  obtain ⟨T, hT⟩ := hT
  have hn : ∃ n, n = (S.1 75 1).toNat := ⟨_, rfl⟩
  obtain ⟨n, hn⟩ := hn
  have hT4 : T ≤ 4 := by omega
  obtain ⟨ro, hro⟩ := rk_ex (S.1 (p + 12)) T
  have hr1 : ∀ i : Nat, i < T → 0 ≤ ro i ∧ ro i < T := fun i hi => (hro i hi).1
  have hinj : ∀ i j : Nat, i < T → j < T → ro i = ro j → i = j := fun i j hi hj e => by
    have a := (hro i hi).2
    have b := (hro j hj).2
    rw [e, b] at a
    omega
  have hsur : ∀ t : Int, 0 ≤ t → t < T → ∃ i : Nat, i < T ∧ ro i = t := fun t t1 t2 => by
    have hb := rk_bd (S.1 (p + 12)) (T := T) (t := t) ⟨t1, t2⟩
    have hr := ro_rk hro (t := t) ⟨t1, t2⟩
    refine ⟨(rkF (S.1 (p + 12)) T t).toNat, by omega, ?_⟩
    rw [Int.toNat_of_nonneg hb.1]
    exact hr
  have hcl0 : ∀ k : Nat, k < n → 0 ≤ S.1 74 k := fun k hk => (s2 k (by omega) (by omega)).1
  have hclv : ∀ k : Nat, k < n → S.1 74 k = sumF (fun u => if S.1 99 k < S.1 (p + 12) u then 1 else 0) T := fun k hk => by
    have := (s6 k (by omega) (by omega)).2.2
    rw [this, hT]
    rfl
  have hclT : ∀ k : Nat, k < n → S.1 74 k ≤ T := fun k hk => by
    rw [hclv k hk]
    have := sF_le (f := fun u => if S.1 99 k < S.1 (p + 12) u then (1 : Int) else 0) (g := fun _ => 1) T (fun u _ => by
      show (if S.1 99 k < S.1 (p + 12) u then (1 : Int) else 0) ≤ 1
      split <;> omega)
    rw [sF_1] at this
    exact this
  have hgs : ∀ (k : Nat) (row : Int), k < n → sumI (gsF S row k) (S.1 90 1) = sS ro row (S.1 74 k).toNat := fun k row hk => by
    rw [b1]
    show sumF (gsF S row k) (S.1 (p + 11) 1).toNat = _
    rw [← hT]
    unfold sS
    rw [← sF_pre (fun i => dgZ row (ro i)) T (S.1 74 k) (hcl0 k hk) (hclT k hk)]
    rw [sF_c (f := gsF S row k) (g := fun t => if S.1 99 k < S.1 (p + 12) t then dgZ row t else 0) T (fun t ht => by
      unfold gsF
      rw [a6 t (by omega) (by omega)])]
    rw [← ro_sum hro (fun t => if S.1 99 k < S.1 (p + 12) t then dgZ row t else 0)]
    refine sF_c T (fun i hi => ?_)
    have e := ro_cl hro (S.1 99 k) hi
    rw [← hclv k hk] at e
    by_cases hh : S.1 99 k < S.1 (p + 12) (ro i)
    · rw [if_pos hh, if_pos (e.mp hh)]
    · rw [if_neg hh, if_neg (fun h2 => hh (e.mpr h2))]
  have has : ∀ row : Int, asZ S row = 1 ↔ ∀ k : Nat, k < n → S.1 74 k ≤ T → sS ro row (S.1 74 k).toNat = S.1 76 k := fun row => by
    unfold asZ
    rw [s5, ← hn, as_iff]
    constructor
    · intro h k hk _
      rw [← hgs k row hk, h k hk]
      exact (s6 k (by omega) (by omega)).1
    · intro h k hk
      rw [hgs k row hk, h k hk (hclT k hk)]
      exact (s6 k (by omega) (by omega)).1.symm
  have hgo : ∀ row : Nat, row < 10 ^ T → sS ro row T = goI row := fun row hrow => by
    have e := go_sum hT4 (r := (row : Int)) ⟨by omega, by omega⟩
    rw [← e]
    exact ro_sum hro (fun t => dgZ row t)
  have hgb : ∀ row : Nat, row < 10 ^ T → 0 ≤ goI row ∧ goI row ≤ 40 := fun row hrow => by
    have h1 : (10 ^ T : Nat) ≤ 10 ^ 4 := Nat.pow_le_pow_right (by decide) hT4
    have h2 : (10 ^ 4 : Nat) = 10000 := rfl
    unfold goI
    omega
  have hPr : ∀ (rank times : Int) (row : Nat), row < 10 ^ T → ∀ s : Int, Pr (S.1 74) (S.1 76) ro n T rank times T row s ↔ (goI row = s ∧ (asZ S row = 1 ∧ ∀ i : Nat, i < T → (i : Int) = rank → dgZ row (ro i) = times)) := fun rank times row hrow s => by
    unfold Pr
    rw [hgo row hrow, has]
    exact ⟨fun h => ⟨h.2.1, h.2.2.1, h.2.2.2⟩, fun h => ⟨fun i i1 i2 => by omega, h.1, h.2.1, h.2.2⟩⟩
  have hcw : ∀ (rank times : Int), (0 ≤ times ∧ times ≤ 9) → ∀ j : Int, 0 ≤ j → j ≤ 40 → cw S (S.1 (p + 11) 1) rank times j = sumF (fun r => ind (goI r = j ∧ (asZ S r = 1 ∧ ∀ i : Nat, i < T → (i : Int) = rank → dgZ r (ro i) = times))) (10 ^ T) := fun rank times htm j j1 j2 => by
    unfold cw
    rw [← hn, ← hT, cw_cnt hT4 hr1 hinj hsur hcl0 htm T (Nat.le_refl _) j j1 j2]
    exact sF_c _ (fun row hrow => indc (hPr rank times row hrow j))
  have hway : ∀ (rank times : Int), (0 ≤ times ∧ times ≤ 9) → wayN S (S.1 (p + 11) 1) rank times = sumF (fun r => ind (asZ S r = 1 ∧ ∀ i : Nat, i < T → (i : Int) = rank → dgZ r (ro i) = times)) (10 ^ T) := fun rank times htm => by
    show sumF (cw S (S.1 (p + 11) 1) rank times) 41 = _
    rw [sF_c (g := fun j => sumF (fun r => ind (goI r = j ∧ (asZ S r = 1 ∧ ∀ i : Nat, i < T → (i : Int) = rank → dgZ r (ro i) = times))) (10 ^ T)) 41 (fun j hj => hcw rank times htm j (by omega) (by omega))]
    rw [sF_swap (fun j r => ind (goI r = j ∧ (asZ S r = 1 ∧ ∀ i : Nat, i < T → (i : Int) = rank → dgZ r (ro i) = times)))]
    refine sF_c _ (fun row hrow => ?_)
    have hb := hgb row hrow
    rw [sF_atI (f := fun j => ind (goI row = j ∧ (asZ S row = 1 ∧ ∀ i : Nat, i < T → (i : Int) = rank → dgZ row (ro i) = times))) (j := goI row) (by omega) (fun i _ hne => ind0 (fun hh => hne hh.1.symm))]
    exact indc ⟨fun h => h.2, fun h => ⟨rfl, h⟩⟩
  rw [← hT]
  refine ⟨fun j j1 j2 => ?_, ?_, fun x hx v hv => ?_⟩
  · rw [hcw (-1) 0 (by omega) j j1 j2]
    exact sF_c _ (fun row _ => indc ⟨fun h => ⟨h.1, h.2.1⟩, fun h => ⟨h.1, h.2, fun i _ e => by omega⟩⟩)
  · rw [hway (-1) 0 (by omega)]
    refine sF_c _ (fun row _ => ?_)
    rcases as01 S row (S.1 88 22).toNat with e | e
    · have e : asZ S row = 0 := e
      rw [ind0 (fun h => by have := h.1; omega), e]
    · have e : asZ S row = 1 := e
      rw [ind1 ⟨e, fun i _ e => by omega⟩, e]
  · rw [hway (rkP S p x) v hv]
    have ek : rkP S p x = rkF (S.1 (p + 12)) T x := by rw [hT]; rfl
    have hb := rk_bd (S.1 (p + 12)) (T := T) (t := x) (by omega)
    have hr := ro_rk hro (t := x) (by omega)
    refine sF_c _ (fun row _ => ?_)
    by_cases hc : asZ S row = 1 ∧ dgZ row x = v
    · rw [if_pos hc]
      exact ind1 ⟨hc.1, fun i hi e => by rw [e, ek, hr]; exact hc.2⟩
    · rw [if_neg hc]
      exact ind0 (fun hh => hc ⟨hh.1, by
        have := hh.2 (rkP S p x).toNat (by rw [ek]; omega) (by rw [ek]; omega)
        rw [Int.toNat_of_nonneg (by rw [ek]; exact hb.1), ek, hr] at this
        exact this⟩)
theorem op_can (X : XT) {c : Int} {S : Sg} (hR : RI c S) (hc : c + 1 ≤ 5000) {x : Int} (hx : -2147483648 ≤ x ∧ x ≤ 2147483647) : OpI X 6 6 yX_can bX_can 3 yZ_can bZ_can 7 [.ref 0, .int (iI x)] [.ref 88, .int (iI x)] c S := by
  obtain ⟨p, q, h⟩ := hR
  have hpq := h.pq
  have h' := h
  obtain ⟨f1, f2, f3⟩ := can_all h
  obtain ⟨g1, g2, gw, gP, gT, gN, gU, gI, gS, gM, gt, gX⟩ := h
  have b1 := gP.2.2.2.1.2.1
  have o3 := gP.1.2.2.1
  have hT : ∃ T, T = (S.1 (p + 11) 1).toNat := ⟨_, rfl⟩
  obtain ⟨T, hT⟩ := hT
  have hN : (10 : Int) ^ (S.1 90 1).toNat = ((10 ^ T : Nat) : Int) := by
    rw [b1, ← hT, Int.natCast_pow]
    rfl
  have hN4 : (10 : Int) ^ T ≤ 10000 := (pow10_le T (by omega)).2
  rw [← hT] at f1 f2 f3
  have hwb : ∀ q t : Int, 0 ≤ wayN S (S.1 (p + 11) 1) q t ∧ wayN S (S.1 (p + 11) 1) q t ≤ 2147483647 := fun q t => by
    have hb := cw_bd (S.1 74) (S.1 76) (S.1 75 1).toNat q t T
    have h2 := sF_nn 41 hb.1
    have e : wayN S (S.1 (p + 11) 1) q t = sumF (cwF (S.1 74) (S.1 76) (S.1 75 1).toNat q t T) 41 := by rw [hT]; rfl
    rw [e]
    omega
  have hcb : ∀ j : Int, 0 ≤ j → j ≤ 40 → 0 ≤ cw S (S.1 (p + 11) 1) (-1) 0 j ∧ cw S (S.1 (p + 11) 1) (-1) 0 j ≤ 2147483647 := fun j j1 j2 => by
    have hb := cw_bd (S.1 74) (S.1 76) (S.1 75 1).toNat (-1) 0 T
    have h1 := hb.1 j.toNat (by omega)
    have h2 := sF_sgl hb.1 (j := j.toNat) (by omega)
    rw [Int.toNat_of_nonneg j1] at h1 h2
    have e : cw S (S.1 (p + 11) 1) (-1) 0 j = cwF (S.1 74) (S.1 76) (S.1 75 1).toNat (-1) 0 T j := by rw [hT]; rfl
    rw [e]
    omega
  have h01 : ∀ r : Nat, r < 10 ^ T → asZ S r = 0 ∨ asZ S r = 1 := fun r _ => as01 S r _
  have hgb : ∀ row : Int, 0 ≤ row → row < ((10 ^ T : Nat) : Int) → 0 ≤ goI row ∧ goI row ≤ 40 := fun row r1 r2 => by
    have e := Int.natCast_pow 10 T
    have e2 : ((10 : Nat) : Int) = 10 := rfl
    rw [e2] at e
    unfold goI
    omega
  have fr : ∀ (f : Int → Int) (a : Nat), a ≠ 77 → a ≠ 78 → (nst S f).1 a = S.1 a := fun f a h1 h2 => nst_ne S f h1 h2
  have hnx : ∀ f : Int → Int, RI (c + 1) (nst S f) := fun f => h'.mk' hc rfl (gw.nst f) (gP.cg (fun a a1 a2 => fr f a (by omega) (by omega)) (fun a a1 a2 => fr f a (by omega) (by omega))) (gT.cg (fr f 2 (by omega) (by omega)) (fr f 3 (by omega) (by omega)) (by rw [fr f 88 (by omega) (by omega)]) (fr f 89 (by omega) (by omega))) ((gN.cg (fun a a1 a2 => fr f a (by omega) (by omega)) (fr f 95 (by omega) (by omega))).mono (by omega)) ((gU.cg (fun a a1 a2 => fr f a (by omega) (by omega)) (by rw [fr f 88 (by omega) (by omega)]) (fr f 95 (by omega) (by omega)) (fr f 98 (by omega) (by omega))).mono (by omega)) ((gI.cg (fun a a1 a2 => fr f a (by omega) (by omega)) (fr f 96 (by omega) (by omega)) (fr f 97 (by omega) (by omega))).mono (by omega)) (gS.cg (fun a a1 a2 => fr f a (by omega) (by omega)) (by rw [fr f 88 (by omega) (by omega)]) (fr f 99 (by omega) (by omega)) (fr f 100 (by omega) (by omega)) (fr f _ (by omega) (by omega)) (fr f _ (by omega) (by omega))) (gM.cg (fun a a1 a2 => fr f a (by omega) (by omega)) (by rw [fr f 88 (by omega) (by omega)]) (fr f 101 (by omega) (by omega)) (fr f 102 (by omega) (by omega)) (fr f 103 (by omega) (by omega)) (fr f _ (by omega) (by omega))) gt (gX.cg (fun j hj => by rw [fr f 88 (by omega) (by omega)])) (fr f 90 (by omega) (by omega))
  -- the reference at a changed room for sums: the same rows
  have fin : ∀ (r : Int) (S1 : Sg), (∀ a : Nat, 88 ≤ a → S1.1 a = S.1 a) → RI (c + 1) S1 → (∀ r' : Int, zCan S x r' → r' = r) → ∃ Q : Int → Sg → Prop, Ctr X 6 yZ_can bZ_can 7 (some .int) [.ref 88, .int (iI x)] (mk S1) (PI Q) 0 0 ∧ ∀ (r' : Int) (S2 : Sg), Q r' S2 → r' = r ∧ RI (c + 1) S2 := by
    intro r S1 e1 e2 e3
    refine ⟨_, cZ_can X (h'.zi.cg e1) hx, fun r' S2 hQ => ⟨e3 r' ?_, by rw [hQ.2]; exact e2⟩⟩
    have hQ := hQ.1
    unfold zCan at hQ ⊢
    rw [e1 90 (by omega), as_cg e1] at hQ
    exact hQ
  refine ⟨_, cX_can X h'.ci hx hcb hwb, fun r S1 hP => ?_⟩
  rcases hP with ⟨k1, k2, k3⟩ | ⟨k1, k2, f, k3⟩ | ⟨k1, ⟨f, k3⟩, k4⟩ | ⟨k1, ⟨f, k3⟩, k4⟩
  · refine fin r S1 (fun a _ => by rw [k3]) ⟨p, q, by rw [k3]; exact h'.next hc⟩ (fun r' hQ => ?_)
    rcases hQ with ⟨_, l⟩ | ⟨l, _⟩ <;> omega
  · refine fin r S1 (fun a ha => by rw [k3]; exact fr f a (by omega) (by omega)) (by rw [k3]; exact hnx f) (fun r' hQ => ?_)
    rcases hQ with ⟨l, _⟩ | ⟨l, nn, cc, o, l1, l2, l3⟩
    · omega
    · have e1 : nn = wayN S (S.1 (p + 11) 1) (-1) 0 := by
        rw [l2.1, f2]
        show sumF (asZ S) ((10 : Int) ^ (S.1 90 1).toNat).toNat = _
        rw [hN, Int.toNat_natCast]
      omega
  · refine fin r S1 (fun a ha => by rw [k3]; exact fr f a (by omega) (by omega)) (by rw [k3]; exact hnx f) (fun r' hQ => ?_)
    rcases hQ with ⟨l, _⟩ | ⟨l, nn, cc, o, l1, l2, l3⟩
    · omega
    · have er : r' = cc := by omega
      rw [hN] at l1
      -- a sum that can be is that of a row
      have hpos : ∀ j : Int, 0 ≤ j → j ≤ 40 → (0 < cw S (S.1 (p + 11) 1) (-1) 0 j ↔ ∃ u : Nat, u < 10 ^ T ∧ goI u = j ∧ asZ S u = 1) := fun j j1 j2 => by
        rw [f1 j j1 j2]
        constructor
        · intro hh
          by_cases hex : ∃ u : Nat, u < 10 ^ T ∧ goI u = j ∧ asZ S u = 1
          · exact hex
          · rw [sF_0 _ (fun u hu => ind0 (fun h => hex ⟨u, hu, h⟩))] at hh
            omega
        · intro ⟨u, u1, u2⟩
          have h0 : ∀ i : Nat, i < 10 ^ T → 0 ≤ ind (goI i = j ∧ asZ S i = 1) := fun i _ => by
            have := ind01 (goI i = j ∧ asZ S i = 1)
            omega
          have := sF_sgl (f := fun r => ind (goI r = j ∧ asZ S r = 1)) h0 u1
          rw [ind1 u2] at this
          omega
      rcases l1 with ⟨m1, m2, m3⟩ | ⟨m1, m2, ⟨u, u1, u2, u3⟩, m4⟩
      · rcases k4 with ⟨k4, _⟩ | ⟨k4, k5, k6, k7⟩
        · omega
        · obtain ⟨u, u1, u2, u3⟩ := (hpos r k4 k5).mp k6
          exact absurd u3 (m3 u (by omega) (by omega))
      · have hub := hgb u u1.1 u1.2
        have hcu := (hpos cc (by omega) (by omega)).mpr ⟨u.toNat, by omega, by rw [Int.toNat_of_nonneg u1.1]; exact ⟨u3, u2⟩⟩
        rcases k4 with ⟨k4, k5⟩ | ⟨k4, k5, k6, k7⟩
        · have := k5 cc (by omega) (by omega)
          omega
        · obtain ⟨w, w1, w2, w3⟩ := (hpos r k4 k5).mp k6
          have hm := m4 w (by omega) (by omega) w3
          by_cases hlt : cc < r
          · have := k7 cc (by omega) hlt
            omega
          · omega
  · refine fin r S1 (fun a ha => by rw [k3]; exact fr f a (by omega) (by omega)) (by rw [k3]; exact hnx f) (fun r' hQ => ?_)
    rcases hQ with ⟨l, _⟩ | ⟨l, nn, cc, o, l1, l2, l3⟩
    · omega
    · have e1 : nn = wayN S (S.1 (p + 11) 1) (-1) 0 := by
        rw [l2.1, f2]
        show sumF (asZ S) ((10 : Int) ^ (S.1 90 1).toNat).toNat = _
        rw [hN, Int.toNat_natCast]
      have l4 := l2.2
      rw [hN] at l4
      have ev : ∀ r : Int, itV x r = dgZ r x := fun r => by unfold itV; rw [if_neg (by omega)]
      rcases l4 with ⟨m1, m2, _⟩ | ⟨m1, m2 | ⟨m2, ⟨u, u1, u2, u3⟩, m4⟩⟩
      · rcases k4 with ⟨k4, _⟩ | ⟨k4, k5, k6, _⟩ <;> omega
      · rcases k4 with ⟨k4, _⟩ | ⟨k4, k5, k6, k7, _⟩
        · omega
        · exfalso
          rw [f3 x k1 r ⟨k4, k5⟩, f2] at k7
          have hall := (cnt_all h01).mp k7
          obtain ⟨_, u, v, u1, v1, u2, v2, uv⟩ := m2
          have a := hall u.toNat (by omega) (by rw [Int.toNat_of_nonneg u1.1]; exact u2)
          have b := hall v.toNat (by omega) (by rw [Int.toNat_of_nonneg v1.1]; exact v2)
          rw [Int.toNat_of_nonneg u1.1] at a
          rw [Int.toNat_of_nonneg v1.1] at b
          rw [ev, ev] at uv
          omega
      · have hall : ∀ r : Nat, r < 10 ^ T → asZ S r = 1 → dgZ r x = o := fun r r1 r2 => by
          have := m4 r (by omega) (by omega) r2
          rw [ev] at this
          exact this
        have eo := (cnt_all (v := fun r => dgZ r x) (t := o) h01).mpr hall
        rw [← f3 x k1 o (by omega), ← f2] at eo
        have uo : ∀ t : Int, 0 ≤ t → t ≤ 9 → wayN S (S.1 (p + 11) 1) (rkP S p x) t = wayN S (S.1 (p + 11) 1) (-1) 0 → t = o := fun t t1 t2 ht => by
          rw [f3 x k1 t ⟨t1, t2⟩, f2] at ht
          have a := (cnt_all h01).mp ht u.toNat (by omega) (by rw [Int.toNat_of_nonneg u1.1]; exact u2)
          rw [Int.toNat_of_nonneg u1.1] at a
          rw [ev] at u3
          omega
        rcases k4 with ⟨k4, k5 | k5⟩ | ⟨k4, k5, k6, k7, k8⟩
        · omega
        · exact absurd eo (k5 o (by omega) (by omega))
        · have := uo r k4 k5 k7
          omega
