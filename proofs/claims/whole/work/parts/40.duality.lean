/-! round trips against altitudes: sums -/
theorem sF_c {f g : Int → Int} : ∀ n : Nat, (∀ k : Nat, k < n → f k = g k) → sumF f n = sumF g n
  | 0, _ => rfl
  | n + 1, h => by
    show sumF f n + f n = sumF g n + g n
    rw [sF_c n (fun k hk => h k (by omega)), h n (by omega)]
theorem sF_le {f g : Int → Int} : ∀ n : Nat, (∀ k : Nat, k < n → f k ≤ g k) → sumF f n ≤ sumF g n
  | 0, _ => Int.le_refl _
  | n + 1, h => by
    have h1 := sF_le n (fun k hk => h k (by omega))
    have h2 := h n (by omega)
    show sumF f n + f n ≤ sumF g n + g n
    omega
theorem sF_lt {f g : Int → Int} : ∀ n : Nat, (∀ k : Nat, k < n → f k ≤ g k) → ∀ k0 : Nat, k0 < n → f k0 < g k0 → sumF f n < sumF g n
  | n + 1, h, k0, hk, hl => by
    show sumF f n + f n < sumF g n + g n
    by_cases e : k0 = n
    · subst e
      have h1 := sF_le k0 (fun k hk => h k (by omega))
      omega
    · have h1 := sF_lt n (fun k hk => h k (by omega)) k0 (by omega) hl
      have h2 := h n (by omega)
      omega
theorem sF_add (f g : Int → Int) : ∀ n : Nat, sumF (fun k => f k + g k) n = sumF f n + sumF g n
  | 0 => rfl
  | n + 1 => by
    show sumF (fun k => f k + g k) n + (f n + g n) = sumF f n + f n + (sumF g n + g n)
    rw [sF_add f g n]; omega
theorem sF_sub (f g : Int → Int) : ∀ n : Nat, sumF (fun k => f k - g k) n = sumF f n - sumF g n
  | 0 => rfl
  | n + 1 => by
    show sumF (fun k => f k - g k) n + (f n - g n) = sumF f n + f n - (sumF g n + g n)
    rw [sF_sub f g n]; omega
theorem sF_mul (c : Int) (f : Int → Int) : ∀ n : Nat, sumF (fun k => c * f k) n = c * sumF f n
  | 0 => by show (0 : Int) = c * 0; omega
  | n + 1 => by
    show sumF (fun k => c * f k) n + c * f n = c * (sumF f n + f n)
    rw [sF_mul c f n, Int.mul_add]
theorem sF_0 {f : Int → Int} (n : Nat) (h : ∀ k : Nat, k < n → f k = 0) : sumF f n = 0 := by
  rw [sF_c (g := fun _ => 0) n h]
  have : ∀ m : Nat, sumF (fun _ => 0) m = 0 := by
    intro m
    induction m with
    | zero => rfl
    | succ m ih => show sumF (fun _ => 0) m + 0 = 0; omega
  exact this n
theorem sF_nn {f : Int → Int} (n : Nat) (h : ∀ k : Nat, k < n → 0 ≤ f k) : 0 ≤ sumF f n := by
  have := sF_le (f := fun _ => 0) (g := f) n h
  rw [sF_0 n (fun _ _ => rfl)] at this
  exact this
def dv (fr to am w : Int → Int) (k : Int) : Int := w (to k) - w (fr k) - am k
def cst (fr to am w : Int → Int) (n : Nat) : Int := sumF (fun k => absI (dv fr to am w k)) n
def iv (t l : Int) : Int := if t = l then 1 else 0
def bal (fr to y : Int → Int) (n : Nat) (l : Int) : Int := sumF (fun k => y k * (iv (to k) l - iv (fr k) l)) n
def grOk (fr to : Int → Int) (n : Nat) : Prop := ∀ k : Nat, k < n → (0 ≤ fr k ∧ fr k ≤ 5) ∧ (0 ≤ to k ∧ to k ≤ 5) ∧ fr k ≠ to k
theorem iv_sum (w : Int → Int) {t : Int} (ht : 0 ≤ t ∧ t ≤ 5) : sumF (fun l => w l * iv t l) 6 = w t := by
  have h := fun (a : Int) (h : a ≠ t) => show w a * iv t a = 0 by unfold iv; rw [if_neg (Ne.symm h), Int.mul_zero]
  have h1 : w t * iv t t = w t := by unfold iv; rw [if_pos rfl, Int.mul_one]
  show 0 + w 0 * iv t 0 + w 1 * iv t 1 + w 2 * iv t 2 + w 3 * iv t 3 + w 4 * iv t 4 + w 5 * iv t 5 = w t
  rcases (show t = 0 ∨ t = 1 ∨ t = 2 ∨ t = 3 ∨ t = 4 ∨ t = 5 by omega) with rfl | rfl | rfl | rfl | rfl | rfl
  · rw [h1, h 1 (by decide), h 2 (by decide), h 3 (by decide), h 4 (by decide), h 5 (by decide)]; omega
  · rw [h1, h 0 (by decide), h 2 (by decide), h 3 (by decide), h 4 (by decide), h 5 (by decide)]; omega
  · rw [h1, h 0 (by decide), h 1 (by decide), h 3 (by decide), h 4 (by decide), h 5 (by decide)]; omega
  · rw [h1, h 0 (by decide), h 1 (by decide), h 2 (by decide), h 4 (by decide), h 5 (by decide)]; omega
  · rw [h1, h 0 (by decide), h 1 (by decide), h 2 (by decide), h 3 (by decide), h 5 (by decide)]; omega
  · rw [h1, h 0 (by decide), h 1 (by decide), h 2 (by decide), h 3 (by decide), h 4 (by decide)]; omega
theorem pot_bal {fr to : Int → Int} (w y : Int → Int) : ∀ n : Nat, grOk fr to n → sumF (fun l => w l * bal fr to y n l) 6 = sumF (fun k => y k * (w (to k) - w (fr k))) n
  | 0, _ => sF_0 6 (fun k _ => by show w k * 0 = 0; omega)
  | n + 1, h => by
    have ih := pot_bal (fr := fr) (to := to) w y n (fun k hk => h k (by omega))
    have hn := h n (by omega)
    have e : ∀ l : Int, w l * bal fr to y (n + 1) l = w l * bal fr to y n l + y n * (w l * iv (to n) l - w l * iv (fr n) l) := fun l => by
      show w l * (bal fr to y n l + y n * (iv (to n) l - iv (fr n) l)) = _
      rw [Int.mul_add, Int.mul_left_comm, Int.mul_sub]
    rw [sF_c (g := fun l => w l * bal fr to y n l + y n * (w l * iv (to n) l - w l * iv (fr n) l)) 6 (fun k _ => e k), sF_add, ih, sF_mul, sF_sub, iv_sum w hn.2.1, iv_sum w hn.1]
    rfl
theorem absI_le (x : Int) : x ≤ absI x ∧ -x ≤ absI x ∧ 0 ≤ absI x := by have := absI_c x; omega
theorem weak {fr to am y w : Int → Int} {n : Nat} (hg : grOk fr to n) (hy : ∀ k : Nat, k < n → y k = -1 ∨ y k = 0 ∨ y k = 1) (hc : ∀ l : Int, 0 ≤ l → l ≤ 5 → bal fr to y n l = 0) : sumF (fun k => y k * am k) n ≤ cst fr to am w n := by
  have e0 : sumF (fun k => y k * (w (to k) - w (fr k))) n = 0 := by
    rw [← pot_bal w y n hg]
    exact sF_0 6 (fun k hk => by rw [hc k (by omega) (by omega)]; omega)
  have e1 : sumF (fun k => y k * am k) n = sumF (fun k => y k * (w (to k) - w (fr k)) - y k * dv fr to am w k) n := sF_c n (fun k _ => by
    rw [← Int.mul_sub]
    unfold dv
    rw [show w (to k) - w (fr k) - (w (to k) - w (fr k) - am k) = am k by omega])
  rw [e1, sF_sub, e0]
  have h2 : sumF (fun k => -1 * (y k * dv fr to am w k)) n ≤ cst fr to am w n := sF_le n (fun k hk => by
    have ha := absI_le (dv fr to am w k)
    rcases hy k hk with e | e | e <;> rw [e] <;> omega)
  rw [sF_mul] at h2
  omega
/-- a smallest one -/
theorem min_ex {α : Type} (P : α → Prop) (f : α → Nat) : ∀ (n : Nat) (a : α), P a → f a ≤ n → ∃ b, P b ∧ ∀ c, P c → f b ≤ f c
  | 0, a, ha, hn => ⟨a, ha, fun c _ => by omega⟩
  | n + 1, a, ha, hn => by
    by_cases h : ∃ c, P c ∧ f c < f a
    · obtain ⟨c, hc, hl⟩ := h
      exact min_ex P f n c hc (by omega)
    · exact ⟨a, ha, fun c hc => by
        by_cases hl : f c < f a
        · exact absurd ⟨c, hc, hl⟩ h
        · omega⟩
/-! altitudes that can't be bettered have a round trip as dear as they -/
section REACH
variable (fr to am w y : Int → Int) (n : Nat)
def stp (u v : Int) : Prop := ∃ k : Nat, k < n ∧ dv fr to am w k = 0 ∧ ((to k = u ∧ fr k = v ∧ -1 < y k) ∨ (fr k = u ∧ to k = v ∧ y k < 1))
def Rc (l0 : Int) : Nat → Int → Prop
  | 0, u => u = l0
  | i + 1, u => Rc l0 i u ∨ ∃ v, Rc l0 i v ∧ stp fr to am w y n v u
def fe : Prop := ∀ k : Nat, k < n → (-1 ≤ y k ∧ y k ≤ 1) ∧ (0 < dv fr to am w k → y k = -1) ∧ (dv fr to am w k < 0 → y k = 1)
end REACH
theorem bal_upd {fr to y : Int → Int} (k : Nat) (e : Int) : ∀ n : Nat, ∀ l : Int, bal fr to (uF y k (y k + e)) n l = bal fr to y n l + (if k < n then e * (iv (to k) l - iv (fr k) l) else 0)
  | 0, l => by rw [if_neg (by omega)]; rfl
  | n + 1, l => by
    have ih := bal_upd (fr := fr) (to := to) (y := y) k e n l
    show bal fr to (uF y k (y k + e)) n l + uF y k (y k + e) n * (iv (to n) l - iv (fr n) l) = bal fr to y n l + y n * (iv (to n) l - iv (fr n) l) + _
    rw [ih]
    by_cases h1 : n = k
    · subst h1
      rw [uF_eq, if_neg (by omega), if_pos (by omega), Int.add_mul]
      omega
    · rw [uF_ne _ _ (by omega)]
      by_cases h2 : k < n
      · rw [if_pos h2, if_pos (by omega)]; omega
      · rw [if_neg h2, if_neg (by omega)]; omega
theorem reach {fr to am w y : Int → Int} {n : Nat} (hf : fe fr to am w y n) (l0 : Int) : ∀ (i : Nat) (u : Int), Rc fr to am w y n l0 i u → ∃ y' : Int → Int, fe fr to am w y' n ∧ (∀ l : Int, bal fr to y' n l = bal fr to y n l - iv l0 l + iv u l) ∧ ∀ k : Nat, k < n → ¬ (Rc fr to am w y n l0 i (fr k) ∧ Rc fr to am w y n l0 i (to k)) → y' k = y k
  | 0, u, hu => ⟨y, hf, fun l => by rw [show u = l0 from hu]; omega, fun _ _ _ => rfl⟩
  | i + 1, u, hu => by
    by_cases h0 : Rc fr to am w y n l0 i u
    · obtain ⟨y', a, b, c⟩ := reach hf l0 i u h0
      exact ⟨y', a, b, fun k hk hn => c k hk (fun hh => hn ⟨Or.inl hh.1, Or.inl hh.2⟩)⟩
    · rcases hu with hu | ⟨v, hv, k, hk, hd, hs⟩
      · exact absurd hu h0
      · obtain ⟨y', a, b, c⟩ := reach hf l0 i v hv
        have hvk : Rc fr to am w y n l0 (i + 1) v := Or.inl hv
        have huk : Rc fr to am w y n l0 (i + 1) u := Or.inr ⟨v, hv, k, hk, hd, hs⟩
        rcases hs with ⟨s1, s2, s3⟩ | ⟨s1, s2, s3⟩
        · have ey : y' k = y k := c k hk (fun hh => h0 (by rw [← s2]; exact hh.1))
          refine ⟨uF y' k (y' k + (-1)), fun j hj => ?_, fun l => ?_, fun j hj hn => ?_⟩
          · by_cases e : (j : Int) = k
            · rw [e, uF_eq, hd]
              have := (a k hk).1
              exact ⟨by omega, fun h => by omega, fun h => by omega⟩
            · rw [uF_ne _ _ e]; exact a j hj
          · rw [bal_upd, if_pos hk, b l, s1, s2]; omega
          · have hjk : (j : Int) ≠ k := fun e => by
              have e : j = k := by omega
              subst e
              exact hn ⟨by rw [s2]; exact huk, by rw [s1]; exact hvk⟩
            rw [uF_ne _ _ hjk]
            exact c j hj (fun hh => hn ⟨Or.inl hh.1, Or.inl hh.2⟩)
        · have ey : y' k = y k := c k hk (fun hh => h0 (by rw [← s2]; exact hh.2))
          refine ⟨uF y' k (y' k + 1), fun j hj => ?_, fun l => ?_, fun j hj hn => ?_⟩
          · by_cases e : (j : Int) = k
            · rw [e, uF_eq, hd]
              have := (a k hk).1
              exact ⟨by omega, fun h => by omega, fun h => by omega⟩
            · rw [uF_ne _ _ e]; exact a j hj
          · rw [bal_upd, if_pos hk, b l, s1, s2]; omega
          · have hjk : (j : Int) ≠ k := fun e => by
              have e : j = k := by omega
              subst e
              exact hn ⟨by rw [s1]; exact hvk, by rw [s2]; exact huk⟩
            rw [uF_ne _ _ hjk]
            exact c j hj (fun hh => hn ⟨Or.inl hh.1, Or.inl hh.2⟩)
theorem Rc_in {fr to am w y : Int → Int} {n : Nat} (hg : grOk fr to n) {l0 : Int} (h0 : 0 ≤ l0 ∧ l0 ≤ 5) : ∀ (i : Nat) (u : Int), Rc fr to am w y n l0 i u → 0 ≤ u ∧ u ≤ 5
  | 0, u, h => by rw [show u = l0 from h]; exact h0
  | i + 1, u, h => by
    rcases h with h | ⟨v, _, k, hk, _, hs⟩
    · exact Rc_in hg h0 i u h
    · have := hg k hk
      rcases hs with ⟨_, s2, _⟩ | ⟨_, s2, _⟩ <;> omega
theorem bal_sum {fr to : Int → Int} (y : Int → Int) {n : Nat} (hg : grOk fr to n) : sumF (fun l => bal fr to y n l) 6 = 0 := by
  have h := pot_bal (fr := fr) (to := to) (fun _ => 1) y n hg
  rw [sF_c (g := fun l => 1 * bal fr to y n l) 6 (fun k _ => by omega), h]
  exact sF_0 n (fun k _ => by show y k * (1 - 1) = 0; omega)
theorem strong {fr to am w : Int → Int} {n : Nat} (hg : grOk fr to n) (hw : ∀ w' : Int → Int, cst fr to am w n ≤ cst fr to am w' n) : ∃ y : Int → Int, (∀ k : Nat, k < n → y k = -1 ∨ y k = 0 ∨ y k = 1) ∧ (∀ l : Int, 0 ≤ l → l ≤ 5 → bal fr to y n l = 0) ∧ sumF (fun k => y k * am k) n = cst fr to am w n := by
  have h0 : fe fr to am w (fun k => if 0 < dv fr to am w k then -1 else if dv fr to am w k < 0 then 1 else 0) n := by
    intro k hk
    dsimp only
    refine ⟨by split; omega; split <;> omega, fun h => if_pos h, fun h => ?_⟩
    rw [if_neg (by omega), if_pos h]
  obtain ⟨y, hf, hmin⟩ := min_ex (fe fr to am w · n) (fun y => (sumF (fun l => absI (bal fr to y n l)) 6).toNat) _ _ h0 (Nat.le_refl _)
  have hE : ∀ y', fe fr to am w y' n → sumF (fun l => absI (bal fr to y n l)) 6 ≤ sumF (fun l => absI (bal fr to y' n l)) 6 := fun y' h' => by
    have h1 := hmin y' h'
    have h2 := sF_nn (f := fun l => absI (bal fr to y n l)) 6 (fun k _ => (absI_le _).2.2)
    have h3 := sF_nn (f := fun l => absI (bal fr to y' n l)) 6 (fun k _ => (absI_le _).2.2)
    omega
  have hno : ∀ l0 : Nat, l0 < 6 → ¬ 0 < bal fr to y n l0 := by
    intro l0 hl hpos
    by_cases hneg : ∃ (i : Nat) (u : Int), Rc fr to am w y n l0 i u ∧ bal fr to y n u < 0
    · obtain ⟨i, u, hu, hb⟩ := hneg
      obtain ⟨y', a, b, _⟩ := reach hf l0 i u hu
      have hne : u ≠ (l0 : Int) := fun e => by rw [e] at hb; omega
      have h1 := hE y' a
      have h2 : sumF (fun l => absI (bal fr to y' n l)) 6 < sumF (fun l => absI (bal fr to y n l)) 6 := by
        refine sF_lt 6 (fun k _ => ?_) l0 hl ?_
        · rw [b k]
          have e1 := absI_c (bal fr to y n k)
          have e2 := absI_c (bal fr to y n k - iv l0 k + iv u k)
          unfold iv at e2 ⊢
          by_cases c1 : (l0 : Int) = k
          · rw [if_pos c1, if_neg (show ¬ u = (k : Int) by omega)] at e2 ⊢
            rw [← c1] at e1 e2 ⊢
            omega
          · rw [if_neg c1] at e2 ⊢
            by_cases c2 : u = (k : Int)
            · rw [if_pos c2] at e2 ⊢
              rw [← c2] at e1 e2 ⊢
              omega
            · rw [if_neg c2] at e2 ⊢
              omega
        · rw [b l0]
          have e1 := absI_c (bal fr to y n l0)
          have e2 := absI_c (bal fr to y n l0 - iv l0 l0 + iv u l0)
          unfold iv at e2 ⊢
          rw [if_pos rfl, if_neg hne] at e2 ⊢
          omega
      omega
    · have hR0 : ∀ (i : Nat) (u : Int), Rc fr to am w y n l0 i u → 0 ≤ bal fr to y n u := fun i u hu => by
        by_cases hb : bal fr to y n u < 0
        · exact absurd ⟨i, u, hu, hb⟩ hneg
        · omega
      have hx : ∃ x : Int → Int, ∀ u, (x u = 1 ∧ ∃ i, Rc fr to am w y n l0 i u) ∨ (x u = 0 ∧ ¬ ∃ i, Rc fr to am w y n l0 i u) := by
        refine ⟨fun u => @ite _ (∃ i, Rc fr to am w y n l0 i u) (Classical.propDecidable _) 1 0, fun u => ?_⟩
        dsimp only
        by_cases h : ∃ i, Rc fr to am w y n l0 i u
        · rw [if_pos h]; exact Or.inl ⟨rfl, h⟩
        · rw [if_neg h]; exact Or.inr ⟨rfl, h⟩
      obtain ⟨x, hx⟩ := hx
      have hs : 0 < sumF (fun l => x l * bal fr to y n l) 6 := by
        have := sF_lt (f := fun _ => 0) (g := fun l => x l * bal fr to y n l) 6 (fun k _ => by
          rcases hx k with ⟨e, i, hi⟩ | ⟨e, _⟩
          · rw [e]; have := hR0 i k hi; omega
          · rw [e]; omega) l0 hl (by
          rcases hx l0 with ⟨e, _⟩ | ⟨_, e⟩
          · rw [e]; omega
          · exact absurd ⟨0, rfl⟩ e)
        rw [sF_0 6 (fun _ _ => rfl)] at this
        exact this
      rw [pot_bal x y n hg] at hs
      have hc := hw (fun l => w l + x l)
      have e : cst fr to am (fun l => w l + x l) n = cst fr to am w n - sumF (fun k => y k * (x (to k) - x (fr k))) n := by
        unfold cst
        rw [← sF_sub]
        refine sF_c n (fun k hk => ?_)
        have ed : dv fr to am (fun l => w l + x l) k = dv fr to am w k + (x (to k) - x (fr k)) := by
          show w (to k) + x (to k) - (w (fr k) + x (fr k)) - am k = w (to k) - w (fr k) - am k + (x (to k) - x (fr k))
          omega
        rw [ed]
        have hk1 := hf k hk
        have e1 := absI_c (dv fr to am w k)
        have e2 := absI_c (dv fr to am w k + (x (to k) - x (fr k)))
        have xt := hx (to k)
        have xf := hx (fr k)
        by_cases hd : dv fr to am w k = 0
        · rcases xt with ⟨xt, i, hi⟩ | ⟨xt, hi⟩
          · rcases xf with ⟨xf, j, hj⟩ | ⟨xf, hj⟩
            · rw [xt, xf] at e2 ⊢; omega
            · have : y k = -1 := by
                by_cases hy : -1 < y k
                · exact absurd ⟨i + 1, Or.inr ⟨to k, hi, k, hk, hd, Or.inl ⟨rfl, rfl, hy⟩⟩⟩ hj
                · omega
              rw [xt, xf] at e2 ⊢; rw [this]; omega
          · rcases xf with ⟨xf, j, hj⟩ | ⟨xf, hj⟩
            · have : y k = 1 := by
                by_cases hy : y k < 1
                · exact absurd ⟨j + 1, Or.inr ⟨fr k, hj, k, hk, hd, Or.inr ⟨rfl, rfl, hy⟩⟩⟩ hi
                · omega
              rw [xt, xf] at e2 ⊢; rw [this]; omega
            · rw [xt, xf] at e2 ⊢; omega
        · have hxx : -1 ≤ x (to k) - x (fr k) ∧ x (to k) - x (fr k) ≤ 1 := by omega
          by_cases hp : 0 < dv fr to am w k
          · rw [hk1.2.1 hp]; omega
          · rw [hk1.2.2 (by omega)]; omega
      omega
  have hz : ∀ l : Nat, l < 6 → bal fr to y n l = 0 := by
    intro l hl
    by_cases hb : bal fr to y n l < 0
    · exfalso
      have h1 := sF_lt (f := fun l => bal fr to y n l) (g := fun _ => 0) 6 (fun k hk => by have := hno k hk; omega) l hl hb
      rw [bal_sum y hg, sF_0 6 (fun _ _ => rfl)] at h1
      omega
    · have := hno l hl
      omega
  refine ⟨y, fun k hk => by have := (hf k hk).1; omega, fun l l1 l2 => ?_, ?_⟩
  · have := hz l.toNat (by omega)
    rwa [Int.toNat_of_nonneg l1] at this
  · have e0 : sumF (fun k => y k * (w (to k) - w (fr k))) n = 0 := by
      rw [← pot_bal w y n hg]
      exact sF_0 6 (fun k hk => by rw [hz k hk]; omega)
    have e1 : sumF (fun k => y k * am k) n = sumF (fun k => y k * (w (to k) - w (fr k)) - y k * dv fr to am w k) n := sF_c n (fun k _ => by
      rw [← Int.mul_sub]
      unfold dv
      rw [show w (to k) - w (fr k) - (w (to k) - w (fr k) - am k) = am k by omega])
    have e2 : sumF (fun k => -1 * (y k * dv fr to am w k)) n = cst fr to am w n := sF_c n (fun k hk => by
      have hk1 := hf k hk
      have ea := absI_c (dv fr to am w k)
      by_cases hp : 0 < dv fr to am w k
      · rw [hk1.2.1 hp]; omega
      · by_cases hq : dv fr to am w k < 0
        · rw [hk1.2.2 hq]; omega
        · have e3 : dv fr to am w k = 0 := by omega
          rw [e3]; rw [e3] at ea; omega)
    rw [e1, sF_sub, e0]
    rw [sF_mul] at e2
    omega
