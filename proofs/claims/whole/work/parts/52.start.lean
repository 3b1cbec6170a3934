/-! the first of all: both empty -/
theorem pd_0 : PD S00 (zBeg S00) 4 := by
  refine ⟨⟨⟨?_, ?_⟩, ⟨?_, ?_⟩, ?_, ?_⟩, ⟨rfl, rfl, rfl, rfl⟩, ⟨rfl, ⟨rfl, ?_, ?_⟩, ⟨rfl, ?_, ?_⟩, rfl, rfl⟩, fun k k1 k2 => ?_, fun t t1 t2 => ?_, ?_, fun k k1 k2 => ?_, fun k k1 k2 => rfl, fun k j k1 k2 => ?_⟩
  · show (0 : Int) ≤ 0; omega
  · show (0 : Int) ≤ 5; omega
  · show (0 : Int) ≤ 0; omega
  · show (0 : Int) ≤ 4; omega
  · show (0 : Int) ≤ 0; omega
  · show (0 : Int) ≤ 3; omega
  · show (1 : Int) ≤ 3; omega
  · show (3 : Int) ≤ 9; omega
  · show (2 : Int) ≤ 3; omega
  · show (3 : Int) ≤ 9; omega
  · change k < 0 at k2; omega
  · change t < 0 at t2; omega
  · show (0 : Int) = sumI _ 0; rw [sumI_0]
  · change k < 0 at k2; omega
  · change k < 0 at k2; omega
theorem ri_0 : RI 0 S0 := by
  obtain ⟨s1, s2, s3, s4, s5, s6, s7, s8, s9, s10⟩ := zSet_at (zBeg S00)
  have zb : ∀ a : Nat, a ≠ 88 → a ≠ 90 → (zBeg S00).1 a = S00.1 a := fun a h1 h2 => by
    unfold zBeg
    rw [pt_ne _ _ _ h2, pt_ne _ _ _ h2, pt_ne _ _ _ h2, pt_ne _ _ _ h2, pt_ne _ _ _ h1]
  have z0 : ∀ a : Nat, a ≠ 4 → a ≠ 17 → S00.1 a = fun _ => 0 := fun a h1 h2 => by
    funext i
    show (if (a = 4 ∨ a = 17) ∧ (i = 6 ∨ i = 7) then 3 else 0 : Int) = 0
    rw [if_neg (by omega)]
  have fr : ∀ a : Nat, a ≠ 4 → a ≠ 17 → a < 88 → S0.1 a = fun _ => 0 := fun a h1 h2 h3 => by
    show (zSet (zBeg S00)).1 a = _
    rw [s2 a (by omega), zb a (by omega) (by omega), z0 a h1 h2]
  have kk : ∀ k b : Nat, kd k = 3 → kd b ≠ 3 → k ≠ b := fun k b h1 h2 e => h2 (e ▸ h1)
  have k3 : ∀ k, kd k = 3 → k < 88 := fun k hk => by
    by_cases h : k < 106
    · revert hk
      revert k
      decide +kernel
    · rw [kd_out (by omega)] at hk; omega
  refine ⟨4, 17, Rp.new ⟨rfl, by omega⟩ ⟨by omega, by omega⟩ (fun k hk => ?_) (PLN.new pd_0 (fun a a1 a2 => ?_) s5 s6 s7) (by rw [fr 2 (by omega) (by omega) (by omega)]) ⟨fr 32 (by omega) (by omega) (by omega), fr 34 (by omega) (by omega) (by omega), fr 36 (by omega) (by omega) (by omega), fr 38 (by omega) (by omega) (by omega), by rw [fr 39 (by omega) (by omega) (by omega)]⟩ (fr 64 (by omega) (by omega) (by omega)) ⟨by rw [fr 66 (by omega) (by omega) (by omega)], by rw [fr 68 (by omega) (by omega) (by omega)], by rw [fr 70 (by omega) (by omega) (by omega)]⟩ ⟨by rw [fr 73 (by omega) (by omega) (by omega)], by rw [fr 75 (by omega) (by omega) (by omega)]⟩ ⟨by rw [fr 80 (by omega) (by omega) (by omega)], by rw [fr 82 (by omega) (by omega) (by omega)], by rw [fr 84 (by omega) (by omega) (by omega)]⟩ s4 s8 ⟨s9, s10⟩ rfl ?_⟩
  · unfold rw1
    rw [fr k (kk k 4 hk (by decide)) (kk k 17 hk (by decide)) (k3 k hk)]
    exact ⟨Int.le_refl _, Int.natCast_nonneg _⟩
  · show (zSet (zBeg S00)).1 a = _
    rw [s2 a (by omega), zb a (by omega) (by omega)]
  · have e : ∀ j : Int, (j = 0 ∨ j = 5 ∨ j = 6 ∨ j = 7) → S0.1 88 j = 0 := fun j hj => by
      show (zSet (zBeg S00)).1 88 j = 0
      rw [s3 j (by omega)]
      rcases hj with rfl | rfl | rfl | rfl <;> rfl
    unfold MSC
    rw [e 0 (by omega), e 5 (by omega), e 6 (by omega), e 7 (by omega)]
    omega
