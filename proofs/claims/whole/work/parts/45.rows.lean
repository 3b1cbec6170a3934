/-! rows of goings: figures, one put -/
noncomputable def ind (P : Prop) : Int := @ite _ P (Classical.propDecidable P) 1 0
theorem ind1 {P : Prop} (h : P) : ind P = 1 := by unfold ind; rw [if_pos h]
theorem ind0 {P : Prop} (h : ¬ P) : ind P = 0 := by unfold ind; rw [if_neg h]
theorem ind01 (P : Prop) : ind P = 0 ∨ ind P = 1 := by
  by_cases h : P
  · exact Or.inr (ind1 h)
  · exact Or.inl (ind0 h)
theorem indc {P Q : Prop} (h : P ↔ Q) : ind P = ind Q := by
  by_cases hp : P
  · rw [ind1 hp, ind1 (h.mp hp)]
  · rw [ind0 hp, ind0 (fun hq => hp (h.mpr hq))]
theorem sF_bij {N : Nat} {P Q : Int → Prop} {f g : Int → Int} (F : Int → Int) (h1 : ∀ r : Nat, r < N → Q r → (0 ≤ f r ∧ f r < N) ∧ P (f r) ∧ g (f r) = r) (h2 : ∀ r : Nat, r < N → P r → (0 ≤ g r ∧ g r < N) ∧ Q (g r) ∧ f (g r) = r) : sumF (fun r => ind (P r) * F r) N = sumF (fun r => ind (Q r) * F (f r)) N := by
  have e1 : sumF (fun r => ind (Q r) * F (f r)) N = sumF (fun r => sumF (fun s => ind (Q r ∧ s = f r) * F s) N) N := sF_c N (fun r hr => by
    by_cases hq : Q r
    · have h := h1 r hr hq
      rw [sF_atI (f := fun s => ind (Q r ∧ s = f r) * F s) h.1 (fun i _ hne => by rw [ind0 (fun hh => hne hh.2), Int.zero_mul]), ind1 hq, ind1 ⟨hq, rfl⟩]
    · rw [ind0 hq, Int.zero_mul, sF_0 N (fun i _ => by rw [ind0 (fun hh => hq hh.1), Int.zero_mul])])
  rw [e1, sF_swap (fun r s => ind (Q r ∧ s = f r) * F s)]
  refine sF_c N (fun s hs => ?_)
  by_cases hp : P s
  · have h := h2 s hs hp
    rw [sF_atI (f := fun r => ind (Q r ∧ (s : Int) = f r) * F s) h.1 (fun i hi hne => by
      rw [ind0 (fun hh => hne (by
        have := (h1 i hi hh.1).2.2
        rw [← hh.2] at this
        exact this.symm)), Int.zero_mul]), ind1 hp, ind1 ⟨h.2.1, h.2.2.symm⟩]
  · rw [ind0 hp, Int.zero_mul, sF_0 N (fun i hi => by
      rw [ind0 (fun hh => hp (by rw [hh.2]; exact (h1 i hi hh.1).2.1)), Int.zero_mul])]
theorem dg0 (r : Int) : dgZ r 0 = r % 10 := by show r / 1 % 10 = _; rw [Int.ediv_one]
theorem dg1 (r : Int) : dgZ r 1 = r / 10 % 10 := rfl
theorem dg2 (r : Int) : dgZ r 2 = r / 100 % 10 := rfl
theorem dg3 (r : Int) : dgZ r 3 = r / 1000 % 10 := rfl
theorem tn0 : (10 : Int) ^ (0 : Int).toNat = 1 := rfl
theorem tn1 : (10 : Int) ^ (1 : Int).toNat = 10 := rfl
theorem tn2 : (10 : Int) ^ (2 : Int).toNat = 100 := rfl
theorem tn3 : (10 : Int) ^ (3 : Int).toNat = 1000 := rfl
theorem dg_add' {r t t' v : Int} (hr : 0 ≤ r) (ht : 0 ≤ t ∧ t ≤ 3) (ht' : 0 ≤ t' ∧ t' ≤ 3) (hd : dgZ r t = 0) (hv : 0 ≤ v ∧ v < 10) : (t' = t → dgZ (r + v * 10 ^ t.toNat) t' = v) ∧ (t' ≠ t → dgZ (r + v * 10 ^ t.toNat) t' = dgZ r t') := by
  rcases (show t = 0 ∨ t = 1 ∨ t = 2 ∨ t = 3 by omega) with rfl | rfl | rfl | rfl <;> rcases (show t' = 0 ∨ t' = 1 ∨ t' = 2 ∨ t' = 3 by omega) with rfl | rfl | rfl | rfl <;> simp only [dg0, dg1, dg2, dg3, tn0, tn1, tn2, tn3] at hd ⊢ <;> refine ⟨fun e => ?_, fun e => ?_⟩ <;> omega
theorem dg_add {r t t' v : Int} (hr : 0 ≤ r) (ht : 0 ≤ t ∧ t ≤ 3) (ht' : 0 ≤ t' ∧ t' ≤ 3) (hd : dgZ r t = 0) (hv : 0 ≤ v ∧ v < 10) : dgZ (r + v * 10 ^ t.toNat) t' = if t' = t then v else dgZ r t' := by
  have h := dg_add' hr ht ht' hd hv
  by_cases e : t' = t
  · rw [if_pos e]; exact h.1 e
  · rw [if_neg e]; exact h.2 e
theorem dg_put {T : Nat} (hT : T ≤ 4) {r t v : Int} (ht : 0 ≤ t ∧ t < T) (hr : 0 ≤ r ∧ r < ((10 ^ T : Nat) : Int)) (hd : dgZ r t = 0) (hv : 0 ≤ v ∧ v < 10) : 0 ≤ r + v * 10 ^ t.toNat ∧ r + v * 10 ^ t.toNat < ((10 ^ T : Nat) : Int) := by
  rcases (show T = 0 ∨ T = 1 ∨ T = 2 ∨ T = 3 ∨ T = 4 by omega) with rfl | rfl | rfl | rfl | rfl <;> rcases (show t = 0 ∨ t = 1 ∨ t = 2 ∨ t = 3 by omega) with rfl | rfl | rfl | rfl <;> simp only [dg0, dg1, dg2, dg3, tn0, tn1, tn2, tn3] at hd ⊢ <;> omega
theorem dg_take {T : Nat} (hT : T ≤ 4) {r t v : Int} (ht : 0 ≤ t ∧ t < T) (hr : 0 ≤ r ∧ r < ((10 ^ T : Nat) : Int)) (hd : dgZ r t = v) : (0 ≤ r - v * 10 ^ t.toNat ∧ r - v * 10 ^ t.toNat < ((10 ^ T : Nat) : Int)) ∧ dgZ (r - v * 10 ^ t.toNat) t = 0 := by
  rcases (show t = 0 ∨ t = 1 ∨ t = 2 ∨ t = 3 by omega) with rfl | rfl | rfl | rfl <;> simp only [dg0, dg1, dg2, dg3, tn0, tn1, tn2, tn3] at hd ⊢ <;> omega
theorem dg_bd (r t : Int) : 0 ≤ dgZ r t ∧ dgZ r t < 10 := by unfold dgZ; omega
/-- rows by one of their figures -/
theorem sF_dg {T : Nat} (hT : T ≤ 4) {t : Int} (ht : 0 ≤ t ∧ t < T) (F : Int → Int) : sumF F (10 ^ T) = sumF (fun v => sumF (fun r => ind (dgZ r t = 0) * F (r + v * 10 ^ t.toNat)) (10 ^ T)) 10 := by
  have e1 : sumF F (10 ^ T) = sumF (fun r => sumF (fun v => ind (dgZ r t = v) * F r) 10) (10 ^ T) := sF_c _ (fun r _ => by
    rw [sF_atI (f := fun v => ind (dgZ r t = v) * F r) (dg_bd r t) (fun i _ hne => by rw [ind0 (fun hh => hne hh.symm), Int.zero_mul]), ind1 rfl, Int.one_mul])
  rw [e1, sF_swap (fun r v => ind (dgZ r t = v) * F r)]
  refine sF_c 10 (fun v hv => ?_)
  exact sF_bij (P := fun r => dgZ r t = v) (Q := fun r => dgZ r t = 0) (f := fun r => r + (v : Int) * 10 ^ t.toNat) (g := fun r => r - (v : Int) * 10 ^ t.toNat) F (fun r hr hq => ⟨dg_put hT ht ⟨by omega, by omega⟩ hq (by omega), by
    have := dg_add (r := (r : Int)) (t := t) (t' := t) (v := (v : Int)) (by omega) (by omega) (by omega) hq (by omega)
    rw [if_pos rfl] at this
    exact this, by omega⟩) (fun r hr hp => by
    have := dg_take hT ht (r := (r : Int)) (v := (v : Int)) ⟨by omega, by omega⟩ hp
    exact ⟨this.1, this.2, by omega⟩)
theorem row_0 {T : Nat} (hT : T ≤ 4) {r : Int} (hr : 0 ≤ r ∧ r < ((10 ^ T : Nat) : Int)) (h : ∀ t : Int, 0 ≤ t → t < T → dgZ r t = 0) : r = 0 := by
  have h0 := h 0 (by omega)
  have h1 := h 1 (by omega)
  have h2 := h 2 (by omega)
  have h3 := h 3 (by omega)
  rw [dg0] at h0
  rw [dg1] at h1
  rw [dg2] at h2
  rw [dg3] at h3
  rcases (show T = 0 ∨ T = 1 ∨ T = 2 ∨ T = 3 ∨ T = 4 by omega) with rfl | rfl | rfl | rfl | rfl <;> omega
theorem go_sum {T : Nat} (hT : T ≤ 4) {r : Int} (hr : 0 ≤ r ∧ r < ((10 ^ T : Nat) : Int)) : sumF (fun t => dgZ r t) T = goI r := by
  unfold goI
  rcases (show T = 0 ∨ T = 1 ∨ T = 2 ∨ T = 3 ∨ T = 4 by omega) with rfl | rfl | rfl | rfl | rfl
  · show 0 = _; omega
  · show 0 + dgZ r 0 = _; rw [dg0]; omega
  · show 0 + dgZ r 0 + dgZ r 1 = _; rw [dg0, dg1]; omega
  · show 0 + dgZ r 0 + dgZ r 1 + dgZ r 2 = _; rw [dg0, dg1, dg2]; omega
  · show 0 + dgZ r 0 + dgZ r 1 + dgZ r 2 + dgZ r 3 = _; rw [dg0, dg1, dg2, dg3]; omega
/-! the class's sums count rows -/
section ROWS
variable (cl we ro : Int → Int) (n T : Nat) (rank times : Int)
def sS (row : Int) (r : Nat) : Int := sumF (fun i => dgZ row (ro i)) r
def Pr (r : Nat) (row s : Int) : Prop := (∀ i : Nat, r ≤ i → i < T → dgZ row (ro i) = 0) ∧ sS ro row r = s ∧ (∀ k : Nat, k < n → cl k ≤ r → sS ro row (cl k).toNat = we k) ∧ (∀ i : Nat, i < r → (i : Int) = rank → dgZ row (ro i) = times)
noncomputable def cnt (r : Nat) (s : Int) : Int := sumF (fun row => ind (Pr cl we ro n T rank times r row s)) (10 ^ T)
end ROWS
theorem sS_nn (ro : Int → Int) (row : Int) (r : Nat) : 0 ≤ sS ro row r := sF_nn r (fun i _ => (dg_bd row (ro i)).1)
theorem cnt_step {cl we ro : Int → Int} {n T : Nat} {rank times : Int} (hT : T ≤ 4) (hro : ∀ i : Nat, i < T → 0 ≤ ro i ∧ ro i < T) (hinj : ∀ i j : Nat, i < T → j < T → ro i = ro j → i = j) (hcl : ∀ k : Nat, k < n → 0 ≤ cl k) {r : Nat} (hr : r < T) (s : Int) : cnt cl we ro n T rank times (r + 1) s = sumF (fun v => ind ((∀ k : Nat, k < n → cl k = (r : Int) + 1 → we k = s) ∧ ((r : Int) = rank → v = times)) * cnt cl we ro n T rank times r (s - v)) 10 := by
  have ht := hro r hr
  unfold cnt
  rw [sF_dg hT ht]
  refine sF_c 10 (fun v hv => ?_)
  rw [← sF_mul]
  refine sF_c _ (fun row hrow => ?_)
  by_cases hd : dgZ row (ro r) = 0
  · rw [ind1 hd, Int.one_mul]
    have hD : ∀ i : Nat, i < T → dgZ ((row : Int) + (v : Int) * 10 ^ (ro r).toNat) (ro i) = if i = r then (v : Int) else dgZ row (ro i) := by
      intro i hi
      have h1 := hro i hi
      rw [dg_add (by omega) (by omega) (by omega) hd (by omega)]
      by_cases e : i = r
      · rw [if_pos e, if_pos (by rw [e])]
      · rw [if_neg e, if_neg (fun e2 => e (hinj i r hi hr e2))]
    have hS : ∀ c : Nat, c ≤ r → sS ro ((row : Int) + (v : Int) * 10 ^ (ro r).toNat) c = sS ro row c := fun c hc => sF_c c (fun i hi => by rw [hD i (by omega), if_neg (by omega)])
    have hS1 : sS ro ((row : Int) + (v : Int) * 10 ^ (ro r).toNat) (r + 1) = sS ro row r + v := by
      show sS ro _ r + dgZ _ (ro r) = _
      rw [hS r (Nat.le_refl _), hD r hr, if_pos rfl]
    have key : Pr cl we ro n T rank times (r + 1) ((row : Int) + (v : Int) * 10 ^ (ro r).toNat) s ↔ (((∀ k : Nat, k < n → cl k = (r : Int) + 1 → we k = s) ∧ ((r : Int) = rank → (v : Int) = times)) ∧ Pr cl we ro n T rank times r row (s - v)) := by
      unfold Pr
      rw [hS1]
      constructor
      · intro ⟨p1, p2, p3, p4⟩
        refine ⟨⟨fun k hk e => ?_, fun e => ?_⟩, fun i i1 i2 => ?_, by omega, fun k hk e => ?_, fun i i1 e => ?_⟩
        · have := p3 k hk (by omega)
          rw [show (cl k).toNat = r + 1 by omega, hS1] at this
          omega
        · have := p4 r (by omega) e
          rw [hD r hr, if_pos rfl] at this
          exact this
        · by_cases e : i = r
          · rw [e]; exact hd
          · have := p1 i (by omega) i2
            rw [hD i i2, if_neg e] at this
            exact this
        · have := p3 k hk (by omega)
          rw [hS _ (by have := hcl k hk; omega)] at this
          exact this
        · have := p4 i (by omega) e
          rw [hD i (by omega), if_neg (by omega)] at this
          exact this
      · intro ⟨⟨q1, q2⟩, p1, p2, p3, p4⟩
        refine ⟨fun i i1 i2 => ?_, by omega, fun k hk e => ?_, fun i i1 e => ?_⟩
        · rw [hD i i2, if_neg (by omega)]
          exact p1 i (by omega) i2
        · by_cases e2 : cl k = (r : Int) + 1
          · rw [show (cl k).toNat = r + 1 by omega, hS1, q1 k hk e2]
            omega
          · rw [hS _ (by have := hcl k hk; omega)]
            exact p3 k hk (by omega)
        · by_cases e2 : i = r
          · rw [hD i (by omega), if_pos e2]
            exact q2 (by omega)
          · rw [hD i (by omega), if_neg e2]
            exact p4 i (by omega) e
    rw [indc key]
    by_cases hK : (∀ k : Nat, k < n → cl k = (r : Int) + 1 → we k = s) ∧ ((r : Int) = rank → (v : Int) = times)
    · rw [ind1 hK, Int.one_mul]
      exact indc ⟨fun h => h.2, fun h => ⟨hK, h⟩⟩
    · rw [ind0 hK, Int.zero_mul]
      exact ind0 (fun h => hK h.1)
  · rw [ind0 hd, Int.zero_mul, ind0 (P := Pr cl we ro n T rank times r row (s - v)) (fun h => hd (h.1 r (Nat.le_refl _) hr)), Int.mul_zero]
theorem cnt_neg {cl we ro : Int → Int} {n T : Nat} {rank times : Int} (r : Nat) {s : Int} (hs : s < 0) : cnt cl we ro n T rank times r s = 0 := sF_0 _ (fun row _ => ind0 (fun h => by have := sS_nn ro row r; have := h.2.1; omega))
theorem cw_cnt {cl we ro : Int → Int} {n T : Nat} {rank times : Int} (hT : T ≤ 4) (hro : ∀ i : Nat, i < T → 0 ≤ ro i ∧ ro i < T) (hinj : ∀ i j : Nat, i < T → j < T → ro i = ro j → i = j) (hsur : ∀ t : Int, 0 ≤ t → t < T → ∃ i : Nat, i < T ∧ ro i = t) (hcl : ∀ k : Nat, k < n → 0 ≤ cl k) (htm : 0 ≤ times ∧ times ≤ 9) : ∀ r : Nat, r ≤ T → ∀ s : Int, 0 ≤ s → s ≤ 40 → cwF cl we n rank times r s = cnt cl we ro n T rank times r s
  | 0, _, s, s1, s2 => by
    have e : cnt cl we ro n T rank times 0 s = ind (s = 0 ∧ ∀ k : Nat, k < n → cl k = 0 → we k = s) := by
      unfold cnt
      have hp : 0 < 10 ^ T := Nat.pow_pos (by decide)
      rw [sF_at (j := 0) _ hp (fun row hrow hne => ind0 (fun h => hne (by
        have := row_0 hT (r := (row : Int)) ⟨by omega, by omega⟩ (fun t t1 t2 => by
          obtain ⟨i, i1, i2⟩ := hsur t t1 t2
          rw [← i2]; exact h.1 i (by omega) i1)
        omega)))]
      refine indc ⟨fun h => ?_, fun h => ?_⟩
      · have h2 : (0 : Int) = s := h.2.1
        refine ⟨h2.symm, fun k hk e => ?_⟩
        have := h.2.2.1 k hk (by omega)
        rw [e] at this
        have h3 : (0 : Int) = we k := this
        omega
      · refine ⟨fun i _ _ => by show (0 : Int) / _ % 10 = 0; rw [Int.zero_ediv]; rfl, by show (0 : Int) = s; omega, fun k hk e => ?_, fun i i1 => by omega⟩
        have e0 : cl k = 0 := by have := hcl k hk; omega
        rw [e0]
        show (0 : Int) = we k
        rw [h.2 k hk e0]; omega
    rw [e]
    have hd := dF_eq cl we 0 (uF (fun _ => 0) 0 1) n s
    by_cases hk : ∀ k : Nat, k < n → cl k = 0 → we k = s
    · have := hd.1 hk
      show dF cl we 0 (uF (fun _ => 0) 0 1) n s = _
      rw [this]
      by_cases h0 : s = 0
      · rw [ind1 ⟨h0, hk⟩, h0, uF_eq]
      · rw [ind0 (fun h => h0 h.1), uF_ne _ _ h0]
    · have := hd.2 hk
      show dF cl we 0 (uF (fun _ => 0) 0 1) n s = _
      rw [this, ind0 (fun h => hk h.2)]
  | r + 1, hr, s, s1, s2 => by
    have ih := cw_cnt (rank := rank) hT hro hinj hsur hcl htm (we := we) r (by omega)
    rw [cnt_step hT hro hinj hcl (by omega) s, cwF]
    have hg : ∀ j : Int, j ≤ 40 → atV (cwF cl we n rank times r) 41 j = cnt cl we ro n T rank times r j := fun j hj => by
      by_cases h : 0 ≤ j
      · rw [atV_in (by omega)]; exact ih j h hj
      · rw [atV_out (by omega), cnt_neg r (by omega)]
    generalize cwF cl we n rank times r = g at hg
    have hd := dF_eq cl we ((r : Int) + 1) (aF g (if (r : Int) = rank then times else 0) (if (r : Int) = rank then times else 9) (-1)) n s
    by_cases hk : ∀ k : Nat, k < n → cl k = (r : Int) + 1 → we k = s
    · rw [hd.1 hk]
      unfold aF
      rw [if_pos (by omega)]
      unfold addv
      by_cases hrk : (r : Int) = rank
      · rw [if_pos hrk, if_pos hrk, show times + 1 - times = 1 by omega]
        show 0 + atV g 41 (s - (times + 0)) = _
        rw [hg _ (by omega), sF_atI (f := fun v => ind ((∀ k : Nat, k < n → cl k = (r : Int) + 1 → we k = s) ∧ ((r : Int) = rank → v = times)) * cnt cl we ro n T rank times r (s - v)) (j := times) (by omega) (fun i _ hne => by rw [ind0 (fun h => hne (h.2 hrk)), Int.zero_mul]), ind1 ⟨hk, fun _ => rfl⟩, show s - (times + 0) = s - times by omega]
        omega
      · rw [if_neg hrk, if_neg hrk]
        refine sF_c 10 (fun v hv => ?_)
        rw [hg _ (by omega), ind1 ⟨hk, fun e => absurd e hrk⟩, show s - (0 + (v : Int)) = s - v by omega]
        omega
    · rw [hd.2 hk]
      exact (sF_0 10 (fun v _ => by rw [ind0 (fun h => hk h.1), Int.zero_mul])).symm
