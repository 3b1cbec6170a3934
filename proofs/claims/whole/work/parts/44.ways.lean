/-! ways counted: sums swapped, at most one, ranks -/
theorem sF_swap (F : Int → Int → Int) (n : Nat) : ∀ m : Nat, sumF (fun i => sumF (fun t => F i t) n) m = sumF (fun t => sumF (fun i => F i t) m) n
  | 0 => (sF_0 n (fun _ _ => rfl)).symm
  | m + 1 => by
    show sumF (fun i => sumF (fun t => F i t) n) m + sumF (fun t => F m t) n = sumF (fun t => sumF (fun i => F i t) m + F m t) n
    rw [sF_swap F n m, sF_add]
theorem sF_at {f : Int → Int} {j : Nat} : ∀ n : Nat, j < n → (∀ i : Nat, i < n → i ≠ j → f i = 0) → sumF f n = f j
  | n + 1, hj, h => by
    show sumF f n + f n = f j
    by_cases e : j = n
    · subst e
      rw [sF_0 j (fun k hk => h k (by omega) (by omega))]; omega
    · rw [sF_at n (by omega) (fun i hi hne => h i (by omega) hne), h n (by omega) (by omega)]; omega
theorem sF_atI {f : Int → Int} {j : Int} {n : Nat} (h0 : 0 ≤ j ∧ j < n) (h : ∀ i : Nat, i < n → (i : Int) ≠ j → f i = 0) : sumF f n = f j := by
  have := sF_at (f := f) (j := j.toNat) n (by omega) (fun i hi hne => h i hi (by omega))
  rwa [Int.toNat_of_nonneg h0.1] at this
theorem sF_one {n : Nat} {j : Int} (h0 : 0 ≤ j ∧ j < n) : sumF (fun i => if i = j then 1 else 0) n = 1 := by
  rw [sF_atI (f := fun i => if i = j then (1 : Int) else 0) h0 (fun i _ hne => if_neg hne)]
  exact if_pos rfl
theorem sF_le1 {f : Int → Int} (n : Nat) (h01 : ∀ i : Nat, i < n → f i = 0 ∨ f i = 1) (h : ∀ i j : Nat, i < n → j < n → f i = 1 → f j = 1 → i = j) : sumF f n ≤ 1 := by
  by_cases hx : ∃ i : Nat, i < n ∧ f i = 1
  · obtain ⟨i, hi, h1⟩ := hx
    rw [sF_at n hi (fun j hj hne => by
      rcases h01 j hj with e | e
      · exact e
      · exact absurd (h j i hj hi e h1) hne), h1]
    exact Int.le_refl _
  · rw [sF_0 n (fun i hi => by
      rcases h01 i hi with e | e
      · exact e
      · exact absurd ⟨i, hi, e⟩ hx)]
    omega
theorem sF_1 : ∀ n : Nat, sumF (fun _ => 1) n = n
  | 0 => rfl
  | n + 1 => by show sumF (fun _ => 1) n + 1 = ((n + 1 : Nat) : Int); rw [sF_1 n]; omega
theorem sF_sgl {f : Int → Int} {n : Nat} (h : ∀ i : Nat, i < n → 0 ≤ f i) {j : Nat} (hj : j < n) : f j ≤ sumF f n := by
  have h1 := sF_le (f := fun i => if i = (j : Int) then f i else 0) (g := f) n (fun k hk => by
    show (if (k : Int) = j then f k else 0) ≤ f k
    have := h k hk
    split <;> omega)
  rw [sF_at (f := fun i => if i = (j : Int) then f i else 0) n hj (fun i _ hne => if_neg (by omega))] at h1
  rwa [if_pos rfl] at h1
/-! how the sums grow -/
theorem dF_eq (cl we : Int → Int) (x : Int) (f : Int → Int) : ∀ (n : Nat) (s : Int), ((∀ k : Nat, k < n → cl k = x → we k = s) → dF cl we x f n s = f s) ∧ ((¬ ∀ k : Nat, k < n → cl k = x → we k = s) → dF cl we x f n s = 0)
  | 0, s => ⟨fun _ => rfl, fun h => absurd (fun k hk => by omega) h⟩
  | n + 1, s => by
    have ih := dF_eq cl we x f n s
    rw [dF]
    by_cases hc : cl (n : Int) = x
    · rw [if_pos hc]
      unfold keepF
      by_cases hw : s = we (n : Int)
      · rw [hw, uF_eq, ← hw]
        refine ⟨fun h => ih.1 (fun k hk => h k (by omega)), fun h => ih.2 (fun h2 => h (fun k hk e => ?_))⟩
        by_cases e2 : k = n
        · rw [e2]; exact hw.symm
        · exact h2 k (by omega) e
      · rw [uF_ne _ _ hw]
        exact ⟨fun h => absurd (h n (by omega) hc).symm hw, fun _ => rfl⟩
    · rw [if_neg hc]
      refine ⟨fun h => ih.1 (fun k hk => h k (by omega)), fun h => ih.2 (fun h2 => h (fun k hk e => ?_))⟩
      by_cases e2 : k = n
      · rw [e2] at e; exact absurd e hc
      · exact h2 k (by omega) e
theorem dF_le (cl we : Int → Int) (x : Int) {f : Int → Int} (n : Nat) {s : Int} (h : 0 ≤ f s) : 0 ≤ dF cl we x f n s ∧ dF cl we x f n s ≤ f s := by
  have e := dF_eq cl we x f n s
  by_cases hc : ∀ k : Nat, k < n → cl k = x → we k = s
  · rw [e.1 hc]; omega
  · rw [e.2 hc]; omega
theorem shift_le {g : Int → Int} (hg : ∀ j : Nat, j < 41 → 0 ≤ g j) (c : Int) : sumF (fun j => atV g 41 (j - c)) 41 ≤ sumF g 41 := by
  have e : ∀ j : Nat, j < 41 → atV g 41 ((j : Int) - c) = sumF (fun i => if i = (j : Int) - c then g i else 0) 41 := fun j _ => by
    by_cases h : 0 ≤ (j : Int) - c ∧ (j : Int) - c < 41
    · rw [atV_in h, sF_atI (f := fun i => if i = (j : Int) - c then g i else 0) h (fun i _ hne => if_neg hne), if_pos rfl]
    · rw [atV_out h, sF_0 41 (fun i hi => if_neg (by omega))]
  rw [sF_c (g := fun j => sumF (fun i => if i = j - c then g i else 0) 41) 41 e, sF_swap (fun j i => if i = j - c then g i else 0)]
  refine sF_le 41 (fun i hi => ?_)
  have h0 := hg i hi
  have e2 : sumF (fun j => if (i : Int) = j - c then g i else 0) 41 = g i * sumF (fun j => if (i : Int) = j - c then 1 else 0) 41 := by
    rw [← sF_mul]
    refine sF_c 41 (fun j _ => ?_)
    split <;> omega
  rw [e2]
  have h1 := sF_le1 (f := fun j => if (i : Int) = j - c then (1 : Int) else 0) 41 (fun j _ => by
    by_cases h : (i : Int) = j - c
    · exact Or.inr (if_pos h)
    · exact Or.inl (if_neg h)) (fun a b _ _ ha hb => by
    by_cases h : (i : Int) = (a : Int) - c
    · by_cases h2 : (i : Int) = (b : Int) - c
      · omega
      · rw [if_neg h2] at hb; omega
    · rw [if_neg h] at ha; omega)
  have h2 := sF_nn (f := fun j => if (i : Int) = j - c then (1 : Int) else 0) 41 (fun j _ => by
    show 0 ≤ if (i : Int) = (j : Int) - c then (1 : Int) else 0
    split <;> omega)
  have h3 := Int.mul_le_mul_of_nonneg_left h1 h0
  omega
theorem cw_bd (cl we : Int → Int) (n : Nat) (rank times : Int) : ∀ r : Nat, (∀ j : Nat, j < 41 → 0 ≤ cwF cl we n rank times r j) ∧ sumF (cwF cl we n rank times r) 41 ≤ 10 ^ r
  | 0 => by
    have hb : ∀ j : Nat, j < 41 → 0 ≤ uF (fun _ => 0) 0 1 (j : Int) := fun j _ => by
      show 0 ≤ if (j : Int) = 0 then (1 : Int) else 0
      split <;> omega
    refine ⟨fun j hj => (dF_le cl we 0 n (hb j hj)).1, ?_⟩
    have h1 := sF_le (f := cwF cl we n rank times 0) (g := uF (fun _ => 0) 0 1) 41 (fun j hj => (dF_le cl we 0 n (hb j hj)).2)
    have h2 : sumF (uF (fun _ => 0) 0 1) 41 = 1 := by decide +kernel
    rw [h2] at h1
    exact h1
  | r + 1 => by
    have ih := cw_bd cl we n rank times r
    generalize hg : cwF cl we n rank times r = g at ih
    have hlm : ∃ l m : Int, l = (if (r : Int) = rank then times else 0) ∧ m = (if (r : Int) = rank then times else 9) ∧ (m + 1 - l = 1 ∨ m + 1 - l = 10) := by
      refine ⟨_, _, rfl, rfl, ?_⟩
      by_cases h : (r : Int) = rank
      · rw [if_pos h, if_pos h]; omega
      · rw [if_neg h, if_neg h]; omega
    obtain ⟨l, m, hl, hm, hlm⟩ := hlm
    have ea : ∀ j : Nat, j < 41 → aF g l m (-1) j = addv g l m j := fun j hj => by
      unfold aF
      rw [if_pos (by omega)]
    have hat : ∀ i : Int, 0 ≤ atV g 41 i := fun i => by
      by_cases h : 0 ≤ i ∧ i < 41
      · rw [atV_in h]
        have := ih.1 i.toNat (by omega)
        rwa [Int.toNat_of_nonneg h.1] at this
      · rw [atV_out h]; omega
    have h0 : ∀ j : Nat, j < 41 → 0 ≤ aF g l m (-1) j := fun j hj => by
      rw [ea j hj]
      exact sF_nn _ (fun _ _ => hat _)
    have ec : cwF cl we n rank times (r + 1) = dF cl we ((r : Int) + 1) (aF g l m (-1)) n := by rw [cwF, hg, hl, hm]
    rw [ec]
    refine ⟨fun j hj => (dF_le cl we _ n (h0 j hj)).1, ?_⟩
    have h1 := sF_le (f := dF cl we ((r : Int) + 1) (aF g l m (-1)) n) (g := aF g l m (-1)) 41 (fun j hj => (dF_le cl we _ n (h0 j hj)).2)
    rw [sF_c (f := aF g l m (-1)) (g := fun j => sumF (fun t => atV g 41 (j - (l + t))) (m + 1 - l).toNat) 41 ea] at h1
    rw [sF_swap (fun j t => atV g 41 (j - (l + t)))] at h1
    have h2 := sF_le (f := fun t => sumF (fun j => atV g 41 (j - (l + t))) 41) (g := fun _ => sumF g 41 * 1) (m + 1 - l).toNat (fun t _ => by
      have := shift_le ih.1 (l + t)
      omega)
    rw [sF_mul, sF_1] at h2
    have h4 := sF_nn 41 ih.1
    rw [Int.pow_succ]
    rcases hlm with e | e <;> rw [e] at h1 h2
    · have : ((1 : Int).toNat : Int) = 1 := rfl
      rw [this] at h2
      omega
    · have : ((10 : Int).toNat : Int) = 10 := rfl
      rw [this] at h2
      omega
/-! ranks -/
section RANK
variable (br : Int → Int) (T : Nat)
def ahd (u t : Int) : Int := if br t < br u ∨ (br u = br t ∧ u < t) then 1 else 0
def rkF (t : Int) : Int := sumF (fun u => ahd br u t) T
end RANK
theorem ahd01 (br : Int → Int) (u t : Int) : ahd br u t = 0 ∨ ahd br u t = 1 := by unfold ahd; split <;> omega
theorem rk_bd (br : Int → Int) {T : Nat} {t : Int} (h : 0 ≤ t ∧ t < T) : 0 ≤ rkF br T t ∧ rkF br T t < T := by
  refine ⟨sF_nn T (fun k _ => by have := ahd01 br k t; omega), ?_⟩
  have := sF_lt (f := fun u => ahd br u t) (g := fun _ => 1) T (fun k _ => by have := ahd01 br k t; omega) t.toNat (by omega) (by
    rw [Int.toNat_of_nonneg h.1]
    unfold ahd
    rw [if_neg (by omega)]
    omega)
  rw [sF_1] at this
  exact this
theorem rk_lt (br : Int → Int) {T : Nat} {t t' : Int} (h : 0 ≤ t ∧ t < T) (ha : ahd br t t' = 1) : rkF br T t < rkF br T t' := by
  have h1 : br t' < br t ∨ (br t = br t' ∧ t < t') := by
    unfold ahd at ha
    split at ha
    · assumption
    · omega
  refine sF_lt T (fun u _ => ?_) t.toNat (by omega) ?_
  · show ahd br u t ≤ ahd br u t'
    unfold ahd
    by_cases hu : br t < br u ∨ (br u = br t ∧ (u : Int) < t)
    · rw [if_pos hu, if_pos (by omega)]; omega
    · rw [if_neg hu]; split <;> omega
  · show ahd br t.toNat t < ahd br t.toNat t'
    rw [Int.toNat_of_nonneg h.1, ha]
    unfold ahd
    rw [if_neg (by omega)]
    omega
theorem rk_inj (br : Int → Int) {T : Nat} {t t' : Int} (h : 0 ≤ t ∧ t < T) (h' : 0 ≤ t' ∧ t' < T) (e : rkF br T t = rkF br T t') : t = t' := by
  by_cases h1 : ahd br t t' = 1
  · have := rk_lt br h h1; omega
  · by_cases h2 : ahd br t' t = 1
    · have := rk_lt br h' h2; omega
    · unfold ahd at h1 h2
      by_cases c1 : br t' < br t ∨ (br t = br t' ∧ t < t')
      · rw [if_pos c1] at h1; omega
      · by_cases c2 : br t < br t' ∨ (br t' = br t ∧ t' < t)
        · rw [if_pos c2] at h2; omega
        · omega
/-- who has a rank -/
theorem rk_ex (br : Int → Int) (T : Nat) : ∃ ro : Int → Int, ∀ i : Nat, i < T → (0 ≤ ro i ∧ ro i < T) ∧ rkF br T (ro i) = i := by
  have hc : ∀ i : Nat, i < T → sumF (fun t => if rkF br T t = (i : Int) then 1 else 0) T = 1 := by
    have h1 : ∀ i : Nat, i < T → sumF (fun t => if rkF br T t = (i : Int) then 1 else 0) T ≤ 1 := fun i _ => sF_le1 T (fun t _ => by
      by_cases h : rkF br T t = (i : Int)
      · exact Or.inr (if_pos h)
      · exact Or.inl (if_neg h)) (fun a b ha hb ea eb => by
      by_cases h : rkF br T a = (i : Int)
      · by_cases h' : rkF br T b = (i : Int)
        · have := rk_inj br (T := T) (t := (a : Int)) (t' := (b : Int)) (by omega) (by omega) (by rw [h, h'])
          omega
        · rw [if_neg h'] at eb; omega
      · rw [if_neg h] at ea; omega)
    have h2 : sumF (fun i => sumF (fun t => if rkF br T t = i then 1 else 0) T) T = sumF (fun _ => 1) T := by
      rw [sF_swap (fun i t => if rkF br T t = i then 1 else 0)]
      refine sF_c T (fun t ht => ?_)
      have hb := rk_bd br (T := T) (t := (t : Int)) (by omega)
      rw [sF_c (g := fun i => if i = rkF br T t then 1 else 0) T (fun i _ => by
        by_cases h : rkF br T t = (i : Int)
        · rw [if_pos h, if_pos h.symm]
        · rw [if_neg h, if_neg (Ne.symm h)])]
      exact sF_one hb
    exact fun i hi => sF_cut (f := fun i => sumF (fun t => if rkF br T t = i then 1 else 0) T) (g := fun _ => 1) h1 h2 i hi
  have hx : ∀ i : Nat, i < T → ∃ t : Int, (0 ≤ t ∧ t < T) ∧ rkF br T t = i := by
    intro i hi
    by_cases h : ∃ t : Nat, t < T ∧ rkF br T t = (i : Int)
    · obtain ⟨t, h1, h2⟩ := h
      exact ⟨t, by omega, h2⟩
    · have h1 := hc i hi
      rw [sF_0 T (fun t ht => if_neg (fun e => h ⟨t, ht, e⟩))] at h1
      omega
  refine ⟨fun i => @dite _ (∃ t : Int, (0 ≤ t ∧ t < T) ∧ rkF br T t = i) (Classical.propDecidable _) (fun h => Classical.choose h) (fun _ => 0), fun i hi => ?_⟩
  dsimp only
  rw [dif_pos (hx i hi)]
  exact Classical.choose_spec (hx i hi)
theorem ro_rk {br : Int → Int} {T : Nat} {ro : Int → Int} (hro : ∀ i : Nat, i < T → (0 ≤ ro i ∧ ro i < T) ∧ rkF br T (ro i) = i) {t : Int} (ht : 0 ≤ t ∧ t < T) : ro (rkF br T t) = t := by
  have hb := rk_bd br ht
  have h1 := hro (rkF br T t).toNat (by omega)
  rw [Int.toNat_of_nonneg hb.1] at h1
  exact rk_inj br h1.1 ht h1.2
/-- a sum by ranks -/
theorem ro_sum {br : Int → Int} {T : Nat} {ro : Int → Int} (hro : ∀ i : Nat, i < T → (0 ≤ ro i ∧ ro i < T) ∧ rkF br T (ro i) = i) (h : Int → Int) : sumF (fun i => h (ro i)) T = sumF h T := by
  have e1 : sumF (fun i => h (ro i)) T = sumF (fun i => sumF (fun t => if t = ro i then h t else 0) T) T := sF_c T (fun i hi => by
    rw [sF_atI (f := fun t => if t = ro i then h t else 0) (hro i hi).1 (fun t _ hne => if_neg hne), if_pos rfl])
  rw [e1, sF_swap (fun i t => if t = ro i then h t else 0)]
  refine sF_c T (fun t ht => ?_)
  have hb := rk_bd br (T := T) (t := (t : Int)) (by omega)
  have hr := ro_rk hro (t := (t : Int)) (by omega)
  rw [sF_atI (f := fun i => if (t : Int) = ro i then h t else 0) hb (fun i hi hne => if_neg (fun e => hne (by
    have := (hro i hi).2
    rw [← e] at this
    exact this.symm)))]
  rw [if_pos hr.symm]
theorem ro_cl {br : Int → Int} {T : Nat} {ro : Int → Int} (hro : ∀ i : Nat, i < T → (0 ≤ ro i ∧ ro i < T) ∧ rkF br T (ro i) = i) (mk0 : Int) {i : Nat} (hi : i < T) : mk0 < br (ro i) ↔ (i : Int) < sumF (fun u => if mk0 < br u then 1 else 0) T := by
  have h1 := hro i hi
  suffices key : mk0 < br (ro i) ↔ rkF br T (ro i) < sumF (fun u => if mk0 < br u then 1 else 0) T by
    rw [h1.2] at key; exact key
  constructor
  · intro hb
    refine sF_lt T (fun u _ => ?_) (ro i).toNat (by omega) ?_
    · show ahd br u (ro i) ≤ if mk0 < br u then 1 else 0
      unfold ahd
      by_cases hu : br (ro i) < br u ∨ (br u = br (ro i) ∧ (u : Int) < ro i)
      · rw [if_pos hu, if_pos (by omega)]; omega
      · rw [if_neg hu]; split <;> omega
    · show ahd br (ro i).toNat (ro i) < if mk0 < br (ro i).toNat then 1 else 0
      rw [Int.toNat_of_nonneg h1.1.1, if_pos hb]
      unfold ahd
      rw [if_neg (by omega)]
      omega
  · intro hl
    by_cases hb : mk0 < br (ro i)
    · exact hb
    · exfalso
      have := sF_le (f := fun u => if mk0 < br u then (1 : Int) else 0) (g := fun u => ahd br u (ro i)) T (fun u _ => by
        show (if mk0 < br u then (1 : Int) else 0) ≤ ahd br u (ro i)
        unfold ahd
        by_cases hu : mk0 < br u
        · rw [if_pos hu, if_pos (by omega)]; omega
        · rw [if_neg hu]; split <;> omega)
      unfold rkF at hl
      omega
