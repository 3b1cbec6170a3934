/-! whose things are: both halves alike -/
theorem sF_cut {f g : Int → Int} {n : Nat} (h : ∀ k : Nat, k < n → f k ≤ g k) (e : sumF f n = sumF g n) : ∀ k : Nat, k < n → f k = g k := fun k hk => by
  by_cases hl : f k < g k
  · have := sF_lt n h k hk hl
    omega
  · have := h k hk
    omega
/-- of what is counted all have the value t, if as many as all have it -/
theorem cnt_all {A v : Int → Int} {n : Nat} {t : Int} (hA : ∀ r : Nat, r < n → A r = 0 ∨ A r = 1) : sumF (fun r => if A r = 1 ∧ v r = t then 1 else 0) n = sumF A n ↔ ∀ r : Nat, r < n → A r = 1 → v r = t := by
  constructor
  · intro h r hr h1
    have := sF_cut (f := fun r => if A r = 1 ∧ v r = t then 1 else 0) (g := A) (fun k hk => by
      have := hA k hk
      show (if A k = 1 ∧ v k = t then (1 : Int) else 0) ≤ A k
      split <;> omega) h r hr
    by_cases hc : A r = 1 ∧ v r = t
    · exact hc.2
    · rw [if_neg hc] at this; omega
  · intro h
    refine sF_c n (fun k hk => ?_)
    rcases hA k hk with e | e
    · rw [if_neg (by omega), e]
    · rw [if_pos ⟨e, h k hk e⟩, e]
theorem sF_4 (g : Int → Int) : ∀ m : Nat, sumF g (4 * m) = sumF (fun r => g (4 * r) + g (4 * r + 1) + g (4 * r + 2) + g (4 * r + 3)) m
  | 0 => rfl
  | m + 1 => by
    have ih := sF_4 g m
    show sumF g (4 * m + 4) = sumF _ m + (g (4 * (m : Int)) + g (4 * (m : Int) + 1) + g (4 * (m : Int) + 2) + g (4 * (m : Int) + 3))
    rw [← ih]
    show sumF g (4 * m) + g ((4 * m : Nat) : Int) + g ((4 * m + 1 : Nat) : Int) + g ((4 * m + 2 : Nat) : Int) + g ((4 * m + 3 : Nat) : Int) = _
    rw [show ((4 * m : Nat) : Int) = 4 * (m : Int) by omega, show ((4 * m + 1 : Nat) : Int) = 4 * (m : Int) + 1 by omega, show ((4 * m + 2 : Nat) : Int) = 4 * (m : Int) + 2 by omega, show ((4 * m + 3 : Nat) : Int) = 4 * (m : Int) + 3 by omega]
    omega
/-- the figures of a row from the i-th on, what is taken told -/
def vF (th br : Int → Int) (nb fx ow : Int) : Nat → Int → Int → Int → Int
  | 0, _, _, _ => 1
  | n + 1, i, tk, rest => if rest % 4 < nb ∧ bitI tk (rest % 4) = 0 ∧ (i ≠ fx ∨ rest % 4 = ow) ∧ th i ≤ br (rest % 4) then vF th br nb fx ow n (i + 1) (tk + 2 ^ (rest % 4).toNat) (rest / 4) else 0
theorem vF01 (th br : Int → Int) (nb fx ow : Int) : ∀ (n : Nat) (i tk rest : Int), vF th br nb fx ow n i tk rest = 0 ∨ vF th br nb fx ow n i tk rest = 1
  | 0, _, _, _ => Or.inr rfl
  | n + 1, i, tk, rest => by
    rw [vF]
    split
    · exact vF01 th br nb fx ow n _ _ _
    · exact Or.inl rfl
theorem vF_sum (th br : Int → Int) {nt nb : Int} (fx ow : Int) (hn : 0 ≤ nb ∧ nb ≤ 4) : ∀ (n : Nat) (i tk : Int) (m : Nat), i + m = nt → m ≤ n → cO th br nt nb fx ow n i tk = sumF (fun r => vF th br nb fx ow m i tk r) (4 ^ m)
  | 0, i, tk, m, h1, h2 => by
    have : m = 0 := by omega
    subst this
    rfl
  | n + 1, i, tk, 0, h1, h2 => by
    rw [cO, if_pos (by omega)]
    rfl
  | n + 1, i, tk, m + 1, h1, h2 => by
    rw [cO_s _ _ _ _ _ _ _ _ (by omega)]
    have e : (4 ^ (m + 1) : Nat) = 4 * 4 ^ m := by rw [Nat.pow_succ, Nat.mul_comm]
    rw [e, sF_4]
    have hg : ∀ (t r : Int), 0 ≤ t → t < 4 → 0 ≤ r → vF th br nb fx ow (m + 1) i tk (4 * r + t) = if t < nb ∧ bitI tk t = 0 ∧ (i ≠ fx ∨ t = ow) ∧ th i ≤ br t then vF th br nb fx ow m (i + 1) (tk + 2 ^ t.toNat) r else 0 := by
      intro t r t1 t2 r1
      rw [vF, show (4 * r + t) % 4 = t by omega, show (4 * r + t) / 4 = r by omega]
    have hG : ∀ t : Int, 0 ≤ t → t < 4 → sumF (fun r => if t < nb ∧ bitI tk t = 0 ∧ (i ≠ fx ∨ t = ow) ∧ th i ≤ br t then vF th br nb fx ow m (i + 1) (tk + 2 ^ t.toNat) r else 0) (4 ^ m) = if t < nb then oG th br nt nb fx ow n i tk t else 0 := by
      intro t t1 t2
      unfold oG
      by_cases hb : t < nb
      · rw [if_pos hb]
        by_cases hc : bitI tk t = 0 ∧ (i ≠ fx ∨ t = ow) ∧ th i ≤ br t
        · rw [if_pos hc, vF_sum th br fx ow hn n (i + 1) (tk + 2 ^ t.toNat) m (by omega) (by omega)]
          exact sF_c _ (fun k _ => if_pos ⟨hb, hc⟩)
        · rw [if_neg hc]
          exact sF_0 _ (fun k _ => if_neg (fun h => hc h.2))
      · rw [if_neg hb]
        exact sF_0 _ (fun k _ => if_neg (fun h => hb h.1))
    have e2 : sumF (fun r => vF th br nb fx ow (m + 1) i tk (4 * r) + vF th br nb fx ow (m + 1) i tk (4 * r + 1) + vF th br nb fx ow (m + 1) i tk (4 * r + 2) + vF th br nb fx ow (m + 1) i tk (4 * r + 3)) (4 ^ m) = (if (0 : Int) < nb then oG th br nt nb fx ow n i tk 0 else 0) + (if (1 : Int) < nb then oG th br nt nb fx ow n i tk 1 else 0) + (if (2 : Int) < nb then oG th br nt nb fx ow n i tk 2 else 0) + (if (3 : Int) < nb then oG th br nt nb fx ow n i tk 3 else 0) := by
      rw [sF_add (fun r => vF th br nb fx ow (m + 1) i tk (4 * r) + vF th br nb fx ow (m + 1) i tk (4 * r + 1) + vF th br nb fx ow (m + 1) i tk (4 * r + 2)) (fun r => vF th br nb fx ow (m + 1) i tk (4 * r + 3)), sF_add (fun r => vF th br nb fx ow (m + 1) i tk (4 * r) + vF th br nb fx ow (m + 1) i tk (4 * r + 1)) (fun r => vF th br nb fx ow (m + 1) i tk (4 * r + 2)), sF_add (fun r => vF th br nb fx ow (m + 1) i tk (4 * r)) (fun r => vF th br nb fx ow (m + 1) i tk (4 * r + 1))]
      rw [← hG 0 (by omega) (by omega), ← hG 1 (by omega) (by omega), ← hG 2 (by omega) (by omega), ← hG 3 (by omega) (by omega)]
      rw [sF_c (f := fun r => vF th br nb fx ow (m + 1) i tk (4 * r)) (g := fun r => if (0 : Int) < nb ∧ bitI tk 0 = 0 ∧ (i ≠ fx ∨ 0 = ow) ∧ th i ≤ br 0 then vF th br nb fx ow m (i + 1) (tk + 2 ^ (0 : Int).toNat) r else 0) (4 ^ m) (fun k _ => by have := hg 0 k (by omega) (by omega) (by omega); rw [show 4 * (k : Int) + 0 = 4 * k by omega] at this; exact this)]
      rw [sF_c (f := fun r => vF th br nb fx ow (m + 1) i tk (4 * r + 1)) (g := fun r => if (1 : Int) < nb ∧ bitI tk 1 = 0 ∧ (i ≠ fx ∨ 1 = ow) ∧ th i ≤ br 1 then vF th br nb fx ow m (i + 1) (tk + 2 ^ (1 : Int).toNat) r else 0) (4 ^ m) (fun k _ => hg 1 k (by omega) (by omega) (by omega))]
      rw [sF_c (f := fun r => vF th br nb fx ow (m + 1) i tk (4 * r + 2)) (g := fun r => if (2 : Int) < nb ∧ bitI tk 2 = 0 ∧ (i ≠ fx ∨ 2 = ow) ∧ th i ≤ br 2 then vF th br nb fx ow m (i + 1) (tk + 2 ^ (2 : Int).toNat) r else 0) (4 ^ m) (fun k _ => hg 2 k (by omega) (by omega) (by omega))]
      rw [sF_c (f := fun r => vF th br nb fx ow (m + 1) i tk (4 * r + 3)) (g := fun r => if (3 : Int) < nb ∧ bitI tk 3 = 0 ∧ (i ≠ fx ∨ 3 = ow) ∧ th i ≤ br 3 then vF th br nb fx ow m (i + 1) (tk + 2 ^ (3 : Int).toNat) r else 0) (4 ^ m) (fun k _ => hg 3 k (by omega) (by omega) (by omega))]
    rw [e2]
    show sumF (oG th br nt nb fx ow n i tk) nb.toNat = _
    rcases (show nb = 0 ∨ nb = 1 ∨ nb = 2 ∨ nb = 3 ∨ nb = 4 by omega) with h | h | h | h | h <;> subst h
    · rfl
    · show 0 + oG th br nt 1 fx ow n i tk 0 = oG th br nt 1 fx ow n i tk 0 + 0 + 0 + 0
      omega
    · show 0 + oG th br nt 2 fx ow n i tk 0 + oG th br nt 2 fx ow n i tk 1 = oG th br nt 2 fx ow n i tk 0 + oG th br nt 2 fx ow n i tk 1 + 0 + 0
      omega
    · show 0 + oG th br nt 3 fx ow n i tk 0 + oG th br nt 3 fx ow n i tk 1 + oG th br nt 3 fx ow n i tk 2 = oG th br nt 3 fx ow n i tk 0 + oG th br nt 3 fx ow n i tk 1 + oG th br nt 3 fx ow n i tk 2 + 0
      omega
    · show 0 + oG th br nt 4 fx ow n i tk 0 + oG th br nt 4 fx ow n i tk 1 + oG th br nt 4 fx ow n i tk 2 + oG th br nt 4 fx ow n i tk 3 = oG th br nt 4 fx ow n i tk 0 + oG th br nt 4 fx ow n i tk 1 + oG th br nt 4 fx ow n i tk 2 + oG th br nt 4 fx ow n i tk 3
      omega
/-- a fixed owner: one figure more is told -/
theorem vF_no (th br : Int → Int) (nb : Int) {fx ow : Int} : ∀ (n : Nat) (i tk rest : Int), (fx < i ∧ 0 ≤ i) → vF th br nb fx ow n i tk rest = vF th br nb (-1) 0 n i tk rest
  | 0, _, _, _, _ => rfl
  | n + 1, i, tk, rest, h => by
    have ih := vF_no th br nb (fx := fx) (ow := ow) n (i + 1) (tk + 2 ^ (rest % 4).toNat) (rest / 4) (by omega)
    rw [vF, vF, ih]
    by_cases hc : rest % 4 < nb ∧ bitI tk (rest % 4) = 0 ∧ th i ≤ br (rest % 4)
    · rw [if_pos ⟨hc.1, hc.2.1, Or.inl (by omega), hc.2.2⟩, if_pos ⟨hc.1, hc.2.1, Or.inl (by omega), hc.2.2⟩]
    · rw [if_neg (fun h => hc ⟨h.1, h.2.1, h.2.2.2⟩), if_neg (fun h => hc ⟨h.1, h.2.1, h.2.2.2⟩)]
theorem vF_fx (th br : Int → Int) (nb : Int) {fx ow : Int} : ∀ (n : Nat) (i tk rest : Int), 0 ≤ i → i ≤ fx → fx < i + n → vF th br nb fx ow n i tk rest = if vF th br nb (-1) 0 n i tk rest = 1 ∧ rest / 4 ^ (fx - i).toNat % 4 = ow then 1 else 0
  | 0, i, tk, rest, h0, h1, h2 => by omega
  | n + 1, i, tk, rest, h0, h1, h2 => by
    by_cases hc : rest % 4 < nb ∧ bitI tk (rest % 4) = 0 ∧ th i ≤ br (rest % 4)
    · have e1 : vF th br nb (-1) 0 (n + 1) i tk rest = vF th br nb (-1) 0 n (i + 1) (tk + 2 ^ (rest % 4).toNat) (rest / 4) := by
        rw [vF, if_pos ⟨hc.1, hc.2.1, Or.inl (by omega), hc.2.2⟩]
      rw [e1]
      by_cases hi : i = fx
      · have e3 : rest / 4 ^ (fx - i).toNat % 4 = rest % 4 := by
          rw [show (fx - i).toNat = 0 by omega, Int.pow_zero, Int.ediv_one]
        rw [e3]
        by_cases ho : rest % 4 = ow
        · have e2 : vF th br nb fx ow (n + 1) i tk rest = vF th br nb fx ow n (i + 1) (tk + 2 ^ (rest % 4).toNat) (rest / 4) := by
            rw [vF, if_pos ⟨hc.1, hc.2.1, Or.inr ho, hc.2.2⟩]
          rw [e2, vF_no th br nb n (i + 1) _ _ (by omega)]
          rcases vF01 th br nb (-1) 0 n (i + 1) (tk + 2 ^ (rest % 4).toNat) (rest / 4) with e | e
          · rw [e]; exact (if_neg (by omega)).symm
          · rw [e]; exact (if_pos ⟨rfl, ho⟩).symm
        · have e2 : vF th br nb fx ow (n + 1) i tk rest = 0 := by
            rw [vF, if_neg (fun h => h.2.2.1.elim (fun h => h hi) ho)]
          rw [e2]
          exact (if_neg (fun h => ho h.2)).symm
      · have e2 : vF th br nb fx ow (n + 1) i tk rest = vF th br nb fx ow n (i + 1) (tk + 2 ^ (rest % 4).toNat) (rest / 4) := by
          rw [vF, if_pos ⟨hc.1, hc.2.1, Or.inl hi, hc.2.2⟩]
        have e4 : rest / 4 / 4 ^ (fx - (i + 1)).toNat = rest / 4 ^ (fx - i).toNat := by
          rw [Int.ediv_ediv_of_nonneg (by omega), show (fx - i).toNat = (fx - (i + 1)).toNat + 1 by omega, Int.pow_succ, Int.mul_comm]
        rw [e2, vF_fx th br nb n (i + 1) _ _ (by omega) (by omega) (by omega), e4]
    · have e1 : vF th br nb (-1) 0 (n + 1) i tk rest = 0 := by
        rw [vF, if_neg (fun h => hc ⟨h.1, h.2.1, h.2.2.2⟩)]
      have e2 : vF th br nb fx ow (n + 1) i tk rest = 0 := by
        rw [vF, if_neg (fun h => hc ⟨h.1, h.2.1, h.2.2.2⟩)]
      rw [e1, e2]
      exact (if_neg (by omega)).symm
/-! the reference's row, figure by figure -/
theorem p4_7 : ∀ i : Nat, i < 8 → (2 : Int) ^ (2 * (i : Int)).toNat = 4 ^ i := by decide +kernel
theorem co_0 (S : Sg) (row : Int) {i : Nat} (h : (coF S row i).1 = 0) : ∀ r : Nat, (coF S row (i + r)).1 = 0
  | 0 => h
  | r + 1 => by
    have ih := co_0 S row h r
    show (coF S row (i + r + 1)).1 = 0
    rw [coF]
    exact if_neg (by omega)
theorem co_vF {S : Sg} {th br : Int → Int} {nt : Nat} (hnt : nt ≤ 6) (hth : ∀ i : Nat, i < nt → S.1 95 (6 + i) = th i) (hbr : ∀ t : Int, 0 ≤ t → t < S.1 90 1 → S.1 94 t = br t) (row : Int) : ∀ (r i : Nat), i + r = nt → (coF S row i).1 = 1 → (coF S row nt).1 = vF th br (S.1 90 1) (-1) 0 r (i : Int) (coF S row i).2 (row / 4 ^ i)
  | 0, i, h, h1 => by
    rw [show nt = i by omega, h1]; rfl
  | r + 1, i, h, h1 => by
    have ew : owD row (i : Int) = row / 4 ^ i % 4 := by unfold owD; rw [p4_7 i (by omega)]
    have hb := owD_bd row (i : Int)
    rw [vF, ← ew]
    by_cases hc : owD row (i : Int) < S.1 90 1 ∧ bitI (coF S row i).2 (owD row (i : Int)) = 0 ∧ th i ≤ br (owD row (i : Int))
    · rw [if_pos ⟨hc.1, hc.2.1, Or.inl (by omega), hc.2.2⟩]
      have hcond : (coF S row i).1 = 1 ∧ owD row (i : Int) < S.1 90 1 ∧ bitI (coF S row i).2 (owD row (i : Int)) = 0 ∧ S.1 95 (6 + i) ≤ S.1 94 (owD row (i : Int)) := ⟨h1, hc.1, hc.2.1, by rw [hth i (by omega), hbr _ hb.1 hc.1]; exact hc.2.2⟩
      have e1 : (coF S row (i + 1)).1 = 1 := by rw [coF]; exact if_pos hcond
      have e2 : (coF S row (i + 1)).2 = (coF S row i).2 + 2 ^ (owD row (i : Int)).toNat := by
        rw [coF]
        show orV _ _ = _
        unfold orV
        rw [if_pos hc.2.1]
      rw [co_vF hnt hth hbr row r (i + 1) (by omega) e1, e2]
      have e3 : row / 4 ^ (i + 1) = row / 4 ^ i / 4 := by
        rw [Int.ediv_ediv_of_nonneg (Int.le_of_lt (Int.pow_pos (by decide))), Int.pow_succ]
      rw [e3]
      rfl
    · rw [if_neg (fun h => hc ⟨h.1, h.2.1, h.2.2.2⟩)]
      have e1 : (coF S row (i + 1)).1 = 0 := by
        rw [coF]
        refine if_neg (fun h => hc ⟨h.2.1, h.2.2.1, ?_⟩)
        have := h.2.2.2
        rw [hth i (by omega), hbr _ hb.1 h.2.1] at this
        exact this
      have := co_0 S row e1 r
      rw [show i + 1 + r = nt by omega] at this
      exact this
theorem op_whose (X : XT) {c : Int} {S : Sg} (hR : RI c S) (hc : c + 1 ≤ 5000) {x : Int} (hx : -2147483648 ≤ x ∧ x ≤ 2147483647) : OpI X 8 6 yX_whose bX_whose 4 yZ_whose bZ_whose 6 [.ref 0, .int (iI x)] [.ref 88, .int (iI x)] c S := by
  obtain ⟨p, q, h⟩ := hR
  have h' := h
  obtain ⟨g1, g2, gw, gP, gT, gN, gU, gI, gS, gM, gt, gX⟩ := h
  have b1 := gP.2.2.2.1.2.1
  have a6 := gP.2.2.2.2.2.1
  have o3 := gP.1.2.2.1
  have en := gN.n
  have hn6 := gN.2.1.2.2.1
  change 0 ≤ S.1 95 5 ∧ S.1 95 5 ≤ 6 at hn6
  have hnt : ∃ nt, nt = (S.1 95 5).toNat := ⟨_, rfl⟩
  obtain ⟨nt, hnt⟩ := hnt
  have hcz : ∀ row : Nat, coZ S row = vF (S.1 40) (S.1 (p + 12)) (S.1 (p + 11) 1) (-1) 0 nt 0 0 row := by
    intro row
    unfold coZ
    rw [← hnt]
    have := co_vF (S := S) (th := S.1 40) (br := S.1 (p + 12)) (nt := nt) (by omega) (fun i hi => (gN.th (i := i) (by omega)).symm) (fun t t1 t2 => a6 t t1 t2) row nt 0 (by omega) rfl
    rw [this, b1]
    show vF _ _ _ _ _ _ _ 0 ((row : Int) / 4 ^ 0) = _
    rw [Int.pow_zero, Int.ediv_one]
    rfl
  have hN : (2 ^ (2 * S.1 95 5).toNat : Int) = ((4 ^ nt : Nat) : Int) := by
    rw [show S.1 95 5 = (nt : Int) by omega, p4_7 nt (by omega), Int.natCast_pow]
    rfl
  have hW : ∀ fx ow, ownW S p fx ow = sumF (fun r => vF (S.1 40) (S.1 (p + 12)) (S.1 (p + 11) 1) fx ow nt 0 0 r) (4 ^ nt) := fun fx ow => vF_sum _ _ fx ow o3 6 0 0 nt (by omega) (by omega)
  have hWa : ownW S p (-1) 0 = sumF (coZ S) (4 ^ nt) := by
    rw [hW]
    exact sF_c _ (fun k _ => (hcz k).symm)
  have hWx : ∀ t : Int, (0 ≤ x ∧ x < S.1 39 1) → ownW S p x t = sumF (fun r => if coZ S r = 1 ∧ owD r x = t then 1 else 0) (4 ^ nt) := by
    intro t hx1
    rw [hW]
    refine sF_c _ (fun k _ => ?_)
    rw [vF_fx _ _ _ nt 0 0 k (by omega) (by omega) (by omega), ← hcz k]
    have : (k : Int) / 4 ^ (x - 0).toNat % 4 = owD k x := by
      unfold owD
      have e := p4_7 x.toNat (by omega)
      rw [Int.toNat_of_nonneg hx1.1] at e
      rw [e, show x - 0 = x by omega]
    rw [this]
  have h01 : ∀ r : Nat, r < 4 ^ nt → coZ S r = 0 ∨ coZ S r = 1 := fun r _ => (co01 S r _).1
  refine OpI.rd h' hc (cX_whose X h'.ci hx) (cZ_whose X h'.zi hx) (fun r S' hP => hP.2) (fun r S' r' S'' hP hQ => ⟨?_, hQ.2⟩)
  have hP := hP.1
  have hQ := hQ.1
  rcases hQ with ⟨l1, l2⟩ | ⟨l1, nn, o, l2, l3⟩
  · rcases hP with ⟨_, k⟩ | ⟨k, _⟩ | ⟨k, _⟩ <;> omega
  · have e1 : nn = ownW S p (-1) 0 := by
      rw [l2.1, hWa]
      show sumF (coZ S) (2 ^ (2 * S.1 95 5).toNat : Int).toNat = _
      rw [hN, Int.toNat_natCast]
    have l4 := l2.2
    rw [hN] at l4
    rcases l3 with ⟨k1, k2⟩ | ⟨k1, k2, k3⟩ | ⟨k1, k2, k3⟩
    · rcases hP with ⟨k, _⟩ | ⟨_, k⟩ | ⟨k, _⟩ <;> omega
    · have ev : ∀ r : Int, owV x r = owD r x := fun r => by unfold owV; rw [if_neg (by omega)]
      rcases hP with ⟨k, _⟩ | ⟨k, _⟩ | ⟨kx, k⟩
      · omega
      · omega
      · rcases k with ⟨k, _⟩ | ⟨kr, k4, k5, k6⟩
        · omega
        · exfalso
          rw [hWx r kx, hWa] at k5
          have hall := (cnt_all h01).mp k5
          rcases l4 with ⟨m1, _⟩ | ⟨m1, m2 | m2⟩
          · omega
          · obtain ⟨_, u, v, u1, v1, u2, v2, uv⟩ := m2
            have a := hall u.toNat (by omega) (by rw [Int.toNat_of_nonneg u1.1]; exact u2)
            have b := hall v.toNat (by omega) (by rw [Int.toNat_of_nonneg v1.1]; exact v2)
            rw [Int.toNat_of_nonneg u1.1] at a
            rw [Int.toNat_of_nonneg v1.1] at b
            rw [ev, ev] at uv
            omega
          · omega
    · have ev : ∀ r : Int, owV x r = owD r x := fun r => by unfold owV; rw [if_neg (by omega)]
      rcases l4 with ⟨m1, m2, _⟩ | ⟨m1, m2 | ⟨m2, ⟨u, u1, u2, u3⟩, m4⟩⟩
      · omega
      · omega
      · have hall : ∀ r : Nat, r < 4 ^ nt → coZ S r = 1 → owD r x = o := fun r r1 r2 => by
          have := m4 r (by omega) (by omega) r2
          rw [ev] at this
          exact this
        have kxx : 0 ≤ x ∧ x < S.1 39 1 := by omega
        have eo := (cnt_all (v := fun r => owD r x) (t := o) h01).mpr hall
        rw [← hWx o kxx, ← hWa] at eo
        have uo : ∀ t : Int, ownW S p x t = ownW S p (-1) 0 → t = o := fun t ht => by
          rw [hWx t kxx, hWa] at ht
          have a := (cnt_all h01).mp ht u.toNat (by omega) (by rw [Int.toNat_of_nonneg u1.1]; exact u2)
          rw [Int.toNat_of_nonneg u1.1] at a
          rw [ev] at u3
          omega
        -- the owner is one of the travellers
        have hob : o < S.1 (p + 11) 1 := by
          have hh := hcz u.toNat
          rw [Int.toNat_of_nonneg u1.1, u2] at hh
          by_cases hlt : o < S.1 (p + 11) 1
          · exact hlt
          · exfalso
            have e5 : ownW S p x o = 0 ∨ True := Or.inr trivial
            have hcO : ∀ (n : Nat) (i tk : Int), 0 ≤ i → i ≤ x → x < i + n → cO (S.1 40) (S.1 (p + 12)) (S.1 39 1) (S.1 (p + 11) 1) x o n i tk = 0 := by
              intro n
              induction n with
              | zero => intro i tk h1 h2 h3; omega
              | succ n ih =>
                intro i tk h1 h2 h3
                rw [cO_s _ _ _ _ _ _ _ _ (by omega)]
                refine sumI_zero (fun t t1 t2 => ?_)
                by_cases hix : i = x
                · exact oG_n (by omega)
                · unfold oG
                  rw [ih (i + 1) _ (by omega) (by omega) (by omega)]
                  split <;> rfl
            have : ownW S p x o = 0 := hcO 6 0 0 (by omega) (by omega) (by omega)
            omega
        rcases hP with ⟨k, _⟩ | ⟨k, _⟩ | ⟨kx, k⟩
        · omega
        · omega
        · rcases k with ⟨kr, k | k⟩ | ⟨kr, k4, k5, k6⟩
          · omega
          · exact absurd eo (k o (by omega) hob)
          · have := uo r k5
            omega
