/-! a set of measures that hangs together and is as cheap as can be -/
def krF (fr to am w : Int → Int) : Nat → (Int → Int) × (Int → Int)
  | 0 => (fun _ => 0, fun l => l)
  | k + 1 => if dv fr to am w k = 0 ∧ (krF fr to am w k).2 (fr k) ≠ (krF fr to am w k).2 (to k) then (hgL (krF fr to am w k).1 (krF fr to am w k).2 ((krF fr to am w k).2 (fr k)) ((krF fr to am w k).2 (to k)) ((krF fr to am w k).1 (fr k) + am k - (krF fr to am w k).1 (to k)), hgG (krF fr to am w k).2 ((krF fr to am w k).2 (fr k)) ((krF fr to am w k).2 (to k))) else krF fr to am w k
def krC (fr to am w : Int → Int) (k : Nat) : Int := if dv fr to am w k = 0 ∧ (krF fr to am w k).2 (fr k) ≠ (krF fr to am w k).2 (to k) then 1 else 0
def bsF (f : Nat → Int) : Nat → Int
  | 0 => 0
  | n + 1 => bsF f n + f n * 2 ^ n
theorem bs_bd {f : Nat → Int} (h : ∀ k, f k = 0 ∨ f k = 1) : ∀ n : Nat, 0 ≤ bsF f n ∧ bsF f n < 2 ^ n
  | 0 => by show (0 : Int) ≤ 0 ∧ (0 : Int) < 1; omega
  | n + 1 => by
    have ih := bs_bd h n
    show 0 ≤ bsF f n + f n * 2 ^ n ∧ bsF f n + f n * 2 ^ n < 2 ^ (n + 1)
    rw [Int.pow_succ]
    rcases h n with e | e <;> rw [e] <;> omega
theorem bs_bit {f : Nat → Int} (h : ∀ k, f k = 0 ∨ f k = 1) : ∀ n j : Nat, j < n → bitI (bsF f n) (j : Int) = f j
  | n + 1, j, hj => by
    have hb := bs_bd h n
    have hp : (0 : Int) < 2 ^ j := Int.pow_pos (by decide)
    by_cases e : j = n
    · subst e
      show (bsF f j + f j * 2 ^ j) / 2 ^ ((j : Int).toNat) % 2 = f j
      rw [Int.toNat_natCast, Int.add_mul_ediv_right _ _ (by omega), Int.ediv_eq_zero_of_lt hb.1 hb.2]
      rcases h j with e | e <;> rw [e] <;> rfl
    · have ih := bs_bit h n j (by omega)
      unfold bitI at ih ⊢
      rw [Int.toNat_natCast] at ih ⊢
      have e2 : f n * 2 ^ n = 2 * (f n * 2 ^ (n - 1 - j)) * 2 ^ j := by
        have e3 : (2 : Int) ^ n = 2 ^ (n - 1 - j) * 2 * 2 ^ j := by
          rw [← Int.pow_succ, ← Int.pow_add]
          congr 1
          omega
        rw [e3, Int.mul_comm 2 (f n * _), Int.mul_assoc, Int.mul_assoc, Int.mul_assoc]
      show (bsF f n + f n * 2 ^ n) / 2 ^ j % 2 = f j
      rw [e2, Int.add_mul_ediv_right _ _ (by omega)]
      omega
theorem krC01 (fr to am w : Int → Int) (k : Nat) : krC fr to am w k = 0 ∨ krC fr to am w k = 1 := by
  unfold krC
  split <;> omega
theorem hg_kr (fr to am w : Int → Int) {s : Int} {n : Nat} (hs : ∀ j : Nat, j < n → bitI s (j : Int) = krC fr to am w j) : ∀ k : Nat, k ≤ n → hgF fr to am s k = ((krF fr to am w k).1, (krF fr to am w k).2, 1)
  | 0, _ => rfl
  | k + 1, hk => by
    have ih := hg_kr fr to am w hs k (by omega)
    rw [hgF, hs k (by omega), ih, krF]
    unfold krC
    by_cases hc : dv fr to am w k = 0 ∧ (krF fr to am w k).2 (fr k) ≠ (krF fr to am w k).2 (to k)
    · rw [if_pos hc, if_pos rfl, if_pos hc]
      dsimp only
      rw [if_pos ⟨rfl, hc.2⟩]
    · rw [if_neg hc, if_neg (by decide), if_neg hc]
theorem kr_pot (fr to am w : Int → Int) : ∀ (k : Nat) (l m : Int), (krF fr to am w k).2 l = (krF fr to am w k).2 m → (krF fr to am w k).1 l - (krF fr to am w k).1 m = w l - w m
  | 0, l, m, h => by
    have h : l = m := h
    rw [h]; show (0 : Int) - 0 = _; omega
  | k + 1, l, m, h => by
    have ih := kr_pot fr to am w k
    rw [krF] at h ⊢
    by_cases hc : dv fr to am w k = 0 ∧ (krF fr to am w k).2 (fr k) ≠ (krF fr to am w k).2 (to k)
    · rw [if_pos hc] at h ⊢
      generalize krF fr to am w k = P at h hc ih ⊢
      obtain ⟨f, g⟩ := P
      change ∀ l m : Int, g l = g m → f l - f m = w l - w m at ih
      have hd : w (to k) - w (fr k) - am k = 0 := hc.1
      change hgG g (g (fr k)) (g (to k)) l = hgG g (g (fr k)) (g (to k)) m at h
      show hgL f g (g (fr k)) (g (to k)) (f (fr k) + am k - f (to k)) l - hgL f g (g (fr k)) (g (to k)) (f (fr k) + am k - f (to k)) m = w l - w m
      unfold hgL
      unfold hgG at h
      by_cases hl : g l = g (to k) ∧ g (fr k) ≠ g (to k)
      · rw [if_pos hl] at h ⊢
        have h1 := ih l _ hl.1
        by_cases hm : g m = g (to k) ∧ g (fr k) ≠ g (to k)
        · rw [if_pos hm]
          have := ih m _ hm.1
          omega
        · rw [if_neg hm] at h ⊢
          have := ih _ m h
          omega
      · rw [if_neg hl] at h ⊢
        by_cases hm : g m = g (to k) ∧ g (fr k) ≠ g (to k)
        · rw [if_pos hm] at h ⊢
          have h1 := ih m _ hm.1
          have := ih l _ h
          omega
        · rw [if_neg hm] at h ⊢
          exact ih l m h
    · rw [if_neg hc] at h ⊢
      exact ih l m h
theorem hgG_c {g : Int → Int} (a b : Int) {l m : Int} (h : g l = g m) : hgG g a b l = hgG g a b m := by
  unfold hgG
  rw [h]
theorem kr_tight (fr to am w : Int → Int) : ∀ k j : Nat, j < k → dv fr to am w j = 0 → (krF fr to am w k).2 (fr j) = (krF fr to am w k).2 (to j)
  | k + 1, j, hj, hd => by
    rw [krF]
    by_cases e : j = k
    · subst e
      by_cases hc : dv fr to am w j = 0 ∧ (krF fr to am w j).2 (fr j) ≠ (krF fr to am w j).2 (to j)
      · rw [if_pos hc]
        show hgG _ _ _ (fr j) = hgG _ _ _ (to j)
        unfold hgG
        rw [if_neg (fun hh => hc.2 hh.1), if_pos ⟨rfl, hc.2⟩]
      · rw [if_neg hc]
        by_cases hh : (krF fr to am w j).2 (fr j) = (krF fr to am w j).2 (to j)
        · exact hh
        · exact absurd ⟨hd, hh⟩ hc
    · have ih := kr_tight fr to am w k j (by omega) hd
      split
      · exact hgG_c _ _ ih
      · exact ih
def ta (fr to am w : Int → Int) (n : Nat) : Int := sumF (fun k => if dv fr to am w k = 0 then 1 else 0) n
theorem best {fr to am : Int → Int} (n : Nat) : ∃ w : Int → Int, (∀ w', cst fr to am w n ≤ cst fr to am w' n) ∧ ∀ k : Nat, k < n → (krF fr to am w n).2 (fr k) = (krF fr to am w n).2 (to k) := by
  have hnn : ∀ w, 0 ≤ cst fr to am w n := fun w => sF_nn n (fun k _ => (absI_le _).2.2)
  obtain ⟨w0, _, h0⟩ := min_ex (fun _ : Int → Int => True) (fun w => (cst fr to am w n).toNat) _ (fun _ => 0) trivial (Nat.le_refl _)
  have h1 : ∀ w', cst fr to am w0 n ≤ cst fr to am w' n := fun w' => by
    have := h0 w' trivial
    have := hnn w0
    have := hnn w'
    omega
  obtain ⟨w, hw, h2⟩ := min_ex (fun w : Int → Int => ∀ w', cst fr to am w n ≤ cst fr to am w' n) (fun w => (n - ta fr to am w n).toNat) _ w0 h1 (Nat.le_refl _)
  have htn : ∀ w, ta fr to am w n ≤ n := fun w => by
    have := sF_le (f := fun k => if dv fr to am w k = 0 then 1 else 0) (g := fun _ => 1) n (fun k _ => by
      show (if _ then (1 : Int) else 0) ≤ 1
      split <;> omega)
    have e : ∀ m : Nat, sumF (fun _ => 1) m = m := by
      intro m
      induction m with
      | zero => rfl
      | succ m ih => show sumF (fun _ => 1) m + 1 = ((m + 1 : Nat) : Int); omega
    rw [e n] at this
    exact this
  refine ⟨w, hw, fun k0 hk0 => ?_⟩
  by_cases hg : (krF fr to am w n).2 (fr k0) = (krF fr to am w n).2 (to k0)
  · exact hg
  exfalso
  have ht := kr_tight fr to am w n
  generalize (krF fr to am w n).2 = g at hg ht
  have hx : ∃ x : Int → Int, x = fun l => if g l = g (fr k0) then 1 else 0 := ⟨_, rfl⟩
  obtain ⟨x, hx⟩ := hx
  have hx1 : ∀ l, x l = 0 ∨ x l = 1 := fun l => by rw [hx]; dsimp only; split <;> omega
  have htx : ∀ k : Nat, k < n → dv fr to am w k = 0 → x (to k) - x (fr k) = 0 := fun k hk hd => by
    rw [hx]
    dsimp only
    rw [ht k hk hd]; omega
  have hc0 : x (to k0) - x (fr k0) ≠ 0 := by
    rw [hx]
    dsimp only
    rw [if_neg (Ne.symm hg), if_pos rfl]
    decide
  obtain ⟨k1, ⟨hk1, hc1⟩, hm⟩ := min_ex (fun k : Nat => k < n ∧ x (to k) - x (fr k) ≠ 0) (fun k => (absI (dv fr to am w k)).toNat) _ k0 ⟨hk0, hc0⟩ (Nat.le_refl _)
  have hd1 : dv fr to am w k1 ≠ 0 := fun e => hc1 (htx k1 hk1 e)
  have htt : ∃ t : Int, (t = -dv fr to am w k1 ∧ x (to k1) - x (fr k1) = 1) ∨ (t = dv fr to am w k1 ∧ x (to k1) - x (fr k1) = -1) := by
    have a := hx1 (to k1)
    have b := hx1 (fr k1)
    rcases (show x (to k1) - x (fr k1) = 1 ∨ x (to k1) - x (fr k1) = -1 by omega) with e | e
    · exact ⟨_, Or.inl ⟨rfl, e⟩⟩
    · exact ⟨_, Or.inr ⟨rfl, e⟩⟩
  obtain ⟨t, htt⟩ := htt
  have eD : ∀ (s : Int) (k : Int), dv fr to am (fun l => w l + s * x l) k = dv fr to am w k + s * (x (to k) - x (fr k)) := fun s k => by
    show w (to k) + s * x (to k) - (w (fr k) + s * x (fr k)) - am k = w (to k) - w (fr k) - am k + s * (x (to k) - x (fr k))
    rw [Int.mul_sub]
    omega
  have hin : ∀ k : Nat, k < n → -absI (dv fr to am w k) ≤ t * (x (to k) - x (fr k)) ∧ t * (x (to k) - x (fr k)) ≤ absI (dv fr to am w k) := fun k hk => by
    have a := hx1 (to k)
    have b := hx1 (fr k)
    have ab := absI_le (dv fr to am w k)
    by_cases hz : x (to k) - x (fr k) = 0
    · rw [hz]; omega
    · have h3 := hm k ⟨hk, hz⟩
      have e1 := absI_c (dv fr to am w k1)
      rcases (show x (to k) - x (fr k) = 1 ∨ x (to k) - x (fr k) = -1 by omega) with e | e <;> rw [e] <;> omega
  have hsum : cst fr to am (fun l => w l + t * x l) n + cst fr to am (fun l => w l + (-t) * x l) n = 2 * cst fr to am w n := by
    unfold cst
    rw [← sF_add, ← sF_mul]
    refine sF_c n (fun k hk => ?_)
    have h3 := hin k hk
    rw [eD, eD]
    have e1 := absI_c (dv fr to am w k)
    have e2 := absI_c (dv fr to am w k + t * (x (to k) - x (fr k)))
    have e3 := absI_c (dv fr to am w k + (-t) * (x (to k) - x (fr k)))
    rw [Int.neg_mul] at e3 ⊢
    omega
  have ha := hw (fun l => w l + t * x l)
  have hb := hw (fun l => w l + (-t) * x l)
  have hopt : ∀ w', cst fr to am (fun l => w l + t * x l) n ≤ cst fr to am w' n := fun w' => by
    have := hw w'
    omega
  have h4 := h2 _ hopt
  have h5 : ta fr to am w n < ta fr to am (fun l => w l + t * x l) n := by
    refine sF_lt n (fun k hk => ?_) k1 hk1 ?_
    · rw [eD]
      by_cases hd : dv fr to am w k = 0
      · rw [if_pos hd, htx k hk hd, hd, if_pos (by omega)]
        exact Int.le_refl _
      · rw [if_neg hd]
        split <;> omega
    · rw [eD, if_neg hd1]
      rcases htt with ⟨e, e2⟩ | ⟨e, e2⟩
      · rw [e2, if_pos (by omega)]; omega
      · rw [e2, if_pos (by omega)]; omega
  have h6 := htn (fun l => w l + t * x l)
  omega
