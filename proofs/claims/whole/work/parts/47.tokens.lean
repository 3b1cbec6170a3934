/-! the two readers see the same tokens -/
section LX
variable {f g : Int → Int} {z : Int}
theorem skF_c (H : ∀ j : Int, 0 ≤ j → j < z → f j = g j) : ∀ (n : Nat) (i : Int), 0 ≤ i → skF f z n i = skF g z n i
  | 0, _, _ => rfl
  | n + 1, i, hi => by
    rw [skF, skF]
    by_cases h : i < z
    · rw [H i hi h, skF_c H n (i + 1) (by omega)]
    · rw [if_neg (fun hh => h hh.1), if_neg (fun hh => h hh.1)]
theorem dgF_c (H : ∀ j : Int, 0 ≤ j → j < z → f j = g j) : ∀ (n : Nat) (i : Int), 0 ≤ i → dgF f z n i = dgF g z n i
  | 0, _, _ => rfl
  | n + 1, i, hi => by
    rw [dgF, dgF]
    by_cases h : i < z
    · rw [H i hi h, dgF_c H n (i + 1) (by omega)]
    · rw [if_neg (fun hh => h hh.1), if_neg (fun hh => h hh.1)]
theorem nvF_c (H : ∀ j : Int, 0 ≤ j → j < z → f j = g j) : ∀ (n : Nat) (i v : Int), 0 ≤ i → nvF f z n i v = nvF g z n i v
  | 0, _, _, _ => rfl
  | n + 1, i, v, hi => by
    rw [nvF, nvF]
    by_cases h : i < z
    · rw [H i hi h, nvF_c H n (i + 1) _ (by omega)]
    · rw [if_neg (fun hh => h hh.1), if_neg (fun hh => h hh.1)]
theorem zvF_c (H : ∀ j : Int, 0 ≤ j → j < z → f j = g j) : ∀ (n : Nat) (i v : Int), 0 ≤ i → zvF f z n i v = zvF g z n i v
  | 0, _, _, _ => rfl
  | n + 1, i, v, hi => by
    rw [zvF, zvF]
    by_cases h : i < z
    · rw [H i hi h, zvF_c H n (i + 1) _ (by omega)]
    · rw [if_neg (fun hh => h hh.1), if_neg (fun hh => h hh.1)]
theorem lS_c (H : ∀ j : Int, 0 ≤ j → j < z → f j = g j) {i : Int} (hi : 0 ≤ i) : lS f z i = lS g z i := skF_c H 121 i hi
theorem lS_bd (f : Int → Int) {z i : Int} (h : i ≤ z) : i ≤ lS f z i ∧ lS f z i ≤ z := skF_bd f z 121 i h
theorem lK_c (H : ∀ j : Int, 0 ≤ j → j < z → f j = g j) {i : Int} (hi : 0 ≤ i ∧ i ≤ z) : lK f z i = lK g z i := by
  have h1 := lS_bd f hi.2
  unfold lK
  rw [lS_c H hi.1]
  by_cases h : z ≤ lS g z i
  · rw [if_pos h, if_pos h]
  · rw [if_neg h, if_neg h, H _ (by rw [← lS_c H hi.1]; omega) (by omega)]
theorem lE_c (H : ∀ j : Int, 0 ≤ j → j < z → f j = g j) {i : Int} (hi : 0 ≤ i ∧ i ≤ z) : lE f z i = lE g z i := by
  have h1 := lS_bd f hi.2
  unfold lE
  rw [lS_c H hi.1]
  by_cases h : z ≤ lS g z i
  · rw [if_pos h, if_pos h]
  · rw [if_neg h, if_neg h, H _ (by rw [← lS_c H hi.1]; omega) (by omega), dgF_c H 121 _ (by rw [← lS_c H hi.1]; omega)]
theorem lV_c (H : ∀ j : Int, 0 ≤ j → j < z → f j = g j) {i : Int} (hi : 0 ≤ i ∧ i ≤ z) (hk : lK f z i ≠ 0) : lV f z i = lV g z i := by
  have h1 := lS_bd f hi.2
  have h2 : ¬ z ≤ lS f z i := fun h => hk (by unfold lK; rw [if_pos h])
  have e := lS_c H hi.1
  unfold lV
  rw [← e, ← H _ (by omega) (by omega), ← dgF_c H 121 _ (by omega), ← nvF_c H 121 _ 0 (by omega)]
theorem zTok_c (H : ∀ j : Int, 0 ≤ j → j < z → f j = g j) {i : Int} (hi : 0 ≤ i ∧ i ≤ z) : zTok f z i = zTok g z i := by
  have h1 := lS_bd f hi.2
  have e := lS_c H hi.1
  unfold zTok
  rw [← lK_c H hi]
  by_cases hk : lK f z i = 0
  · rw [if_pos hk, if_pos hk]
  · have h2 : ¬ z ≤ lS f z i := fun h => hk (by unfold lK; rw [if_pos h])
    rw [if_neg hk, if_neg hk, ← lV_c H hi hk, ← e, ← H _ (by omega) (by omega)]
theorem zVal_c (H : ∀ j : Int, 0 ≤ j → j < z → f j = g j) {i : Int} (hi : 0 ≤ i ∧ i ≤ z) (hk : lK f z i ≠ 0) (w w' : Int) : zVal g z i w = zVal f z i w' := by
  have h1 := lS_bd f hi.2
  have h2 : ¬ z ≤ lS f z i := fun h => hk (by unfold lK; rw [if_pos h])
  have e := lS_c H hi.1
  unfold zVal
  rw [← lK_c H hi, if_neg hk, if_neg hk, ← e, ← H _ (by omega) (by omega), ← zvF_c H 121 _ 0 (by omega)]
theorem lK_3 (f : Int → Int) (z i : Int) : lK f z i = 0 ∨ lK f z i = 1 ∨ lK f z i = 2 := by
  unfold lK
  split
  · omega
  · split <;> omega
theorem lV_1 {i : Int} (hk : lK f z i = 1) : lV f z i = f (lS f z i) ∧ ¬ isD (f (lS f z i)) := by
  have h2 : ¬ z ≤ lS f z i := fun h => by unfold lK at hk; rw [if_pos h] at hk; omega
  have h3 : ¬ isD (f (lS f z i)) := fun h => by unfold lK at hk; rw [if_neg h2, if_pos h] at hk; omega
  unfold lV
  rw [if_neg h3]
  exact ⟨rfl, h3⟩
theorem num_v {i : Int} (hk : lK f z i = 2) (hv : lV f z i ≠ -1) (w : Int) : zVal f z i w = lV f z i := by
  have h2 : ¬ z ≤ lS f z i := fun h => by unfold lK at hk; rw [if_pos h] at hk; omega
  have h3 : isD (f (lS f z i)) := by
    by_cases h : isD (f (lS f z i))
    · exact h
    · unfold lK at hk; rw [if_neg h2, if_neg h] at hk; omega
  have hr := zv_nv f z 121 (lS f z i) 0 0 (Or.inl (by omega))
  unfold zVal
  rw [if_neg (by omega), if_pos hk]
  unfold lV at hv ⊢
  rw [if_pos h3] at hv ⊢
  by_cases hb : (f (lS f z i) = 48 ∧ lS f z i + 1 < dgF f z 121 (lS f z i)) ∨ 99 < nvF f z 121 (lS f z i) 0
  · rw [if_pos hb] at hv; omega
  · rw [if_neg hb] at hv ⊢
    unfold zvR at hr
    omega
end LX
/-- same texts -/
def ST (U V : Sg) : Prop := ltOk U ∧ V.1 88 3 = U.1 2 1 ∧ ∀ j : Int, 0 ≤ j → j < U.1 2 1 → U.1 3 j = V.1 89 j
abbrev tkS (U : Sg) (i : Int) : Int := lS (U.1 3) (U.1 2 1) i
abbrev tkE (U : Sg) (i : Int) : Int := lE (U.1 3) (U.1 2 1) i
abbrev tkK (U : Sg) (i : Int) : Int := lK (U.1 3) (U.1 2 1) i
abbrev tkV (U : Sg) (i : Int) : Int := lV (U.1 3) (U.1 2 1) i
/-- the reference holds the token that begins behind i, no fault yet -/
def Zt (U V : Sg) (i : Int) : Prop := (0 ≤ i ∧ i ≤ U.1 2 1) ∧ V.1 88 4 = tkE U i ∧ V.1 88 5 = zTok (U.1 3) (U.1 2 1) i ∧ V.1 88 6 = tkS U i ∧ (tkK U i ≠ 0 → V.1 88 7 = zVal (U.1 3) (U.1 2 1) i 0) ∧ V.1 88 8 < 0
def Hs (U V : Sg) (i : Int) : Prop := ST U V ∧ Zt U V i ∧ U.1 1 1 = i
def Sy (U V : Sg) (i : Int) : Prop := ST U V ∧ Zt U V i ∧ U.1 1 1 = tkE U i ∧ U.1 1 2 = tkF (U.1 3) (U.1 2 1) i ∧ U.1 1 3 = tkS U i
theorem ST.cg {U V U' V' : Sg} (h : ST U V) (e2 : U'.1 2 = U.1 2) (e3 : U'.1 3 = U.1 3) (f3 : V'.1 88 3 = V.1 88 3) (f9 : V'.1 89 = V.1 89) : ST U' V' := by
  unfold ST ltOk at *
  rw [e2, e3, f3, f9]
  exact h
theorem Zt.av {U V : Sg} {i : Int} (hs : ST U V) (h : Zt U V i) : Zt U (avS V) (tkE U i) := by
  obtain ⟨hl, h3, H⟩ := hs
  obtain ⟨hi, h4, h5, h6, h7, h8⟩ := h
  have hb := lE_bd (U.1 3) hi.2
  have hE : 0 ≤ tkE U i ∧ tkE U i ≤ U.1 2 1 := by show 0 ≤ lE _ _ _ ∧ lE _ _ _ ≤ _; omega
  refine ⟨hE, ?_, ?_, ?_, fun hk => ?_, ?_⟩
  · rw [avS_4, h3, h4]; exact (lE_c H hE).symm
  · rw [avS_5, h3, h4]; exact (zTok_c H hE).symm
  · rw [avS_6, h3, h4]; exact (lS_c H hE.1).symm
  · rw [avS_7, h3, h4]; exact zVal_c H hE hk _ _
  · rw [avS_hi _ (by omega)]; exact h8
theorem ST.av {U V : Sg} (h : ST U V) : ST U (avS V) := h.cg rfl rfl (avS_hi _ (by omega)) (avS_ne _ (by decide))
theorem Zt.cgU {U U' V : Sg} {i : Int} (h : Zt U V i) (e2 : U'.1 2 = U.1 2) (e3 : U'.1 3 = U.1 3) : Zt U' V i := by
  unfold Zt tkE tkS tkK at *
  rw [e2, e3]
  exact h
theorem Zt.cgV {U V V' : Sg} {i : Int} (h : Zt U V i) (e : V'.1 88 = V.1 88) : Zt U V' i := by
  unfold Zt at *
  rw [e]
  exact h
theorem nx_23 (U : Sg) : (nxS U).1 2 = U.1 2 ∧ (nxS U).1 3 = U.1 3 := ⟨nxS_ne U (by decide), nxS_ne U (by decide)⟩
/-- both go on by one token -/
theorem Hs.go {U V : Sg} {i : Int} (h : Hs U V i) : Hs (nxS U) (avS V) (tkE U i) := by
  obtain ⟨h1, h2, h3⟩ := h
  have e := nx_23 U
  exact ⟨h1.av.cg e.1 e.2 rfl rfl, (h2.av h1).cgU e.1 e.2, by rw [nxS_place, h3]⟩
theorem Sy.go {U V : Sg} {i : Int} (h : Sy U V i) : Hs U (avS V) (tkE U i) := ⟨h.1.av, h.2.1.av h.1, h.2.2.1⟩
theorem Hs.sy {U V : Sg} {i : Int} (h : Hs U V i) : Sy (nxS U) V i := by
  obtain ⟨h1, h2, h3⟩ := h
  have e := nx_23 U
  refine ⟨h1.cg e.1 e.2 rfl rfl, h2.cgU e.1 e.2, ?_, ?_, ?_⟩
  · rw [nxS_place, h3]; show _ = lE ((nxS U).1 3) ((nxS U).1 2 1) i; rw [e.1, e.2]
  · rw [nxS_tok, h3, e.1, e.2]
  · rw [nxS_at, h3]; show _ = lS ((nxS U).1 3) ((nxS U).1 2 1) i; rw [e.1, e.2]
theorem Hs.cg {U V U' V' : Sg} {i : Int} (h : Hs U V i) (e1 : U'.1 1 1 = U.1 1 1) (e2 : U'.1 2 = U.1 2) (e3 : U'.1 3 = U.1 3) (f8 : V'.1 88 = V.1 88) (f9 : V'.1 89 = V.1 89) : Hs U' V' i := ⟨h.1.cg e2 e3 (by rw [f8]) f9, (h.2.1.cgU e2 e3).cgV f8, e1.trans h.2.2⟩
/-- a number may stand for both or for none -/
theorem Hs.num {U V : Sg} {i lo hi : Int} (h : Hs U V i) (hlo : 0 ≤ lo) : (numS U lo hi → nmZ V lo hi = (vS U, avS V)) ∧ (¬ numS U lo hi → nmZ V lo hi = (0, pt V 88 8 (tkS U i))) := by
  obtain ⟨⟨hl, h3, H⟩, ⟨hi', h4, h5, h6, h7, h8⟩, h9⟩ := h
  have ek : kS U = tkK U i := by unfold kS; rw [h9]
  have ev : vS U = tkV U i := by unfold vS; rw [h9]
  have tk1 : tkZ V 1 = (V.1 88 7, avS V) := by unfold tkZ; rw [if_neg (by omega), if_neg (by decide)]
  have tk0 : tkZ V 0 = (0, pt V 88 8 (V.1 88 6)) := by unfold tkZ; rw [if_neg (by omega), if_pos rfl]
  constructor
  · intro hn
    have hk : tkK U i = 2 := by rw [← ek]; exact hn.1
    have hv : tkV U i ≠ -1 := by rw [← ev]; omega
    have e7 : V.1 88 7 = vS U := by rw [h7 (by omega), ev]; exact num_v hk hv 0
    have e5 : V.1 88 5 = 2 := by
      rw [h5]
      unfold zTok
      rw [if_neg (by show ¬ tkK U i = 0; omega), if_pos hk, if_neg hv]
    unfold nmZ
    rw [if_pos ⟨e5, by rw [e7]; exact hn.2⟩, tk1, e7]
  · intro hn
    unfold nmZ
    rw [if_neg, tk0, h6]
    intro hc
    have h5' := hc.1
    rw [h5] at h5'
    unfold zTok at h5'
    by_cases k0 : tkK U i = 0
    · rw [if_pos k0] at h5'; omega
    · rw [if_neg k0] at h5'
      by_cases k2 : tkK U i = 2
      · rw [if_pos k2] at h5'
        by_cases kv : tkV U i = -1
        · rw [if_pos kv] at h5'; omega
        · have e7 : V.1 88 7 = vS U := by rw [h7 k0, ev]; exact num_v k2 kv 0
          exact hn ⟨by rw [ek]; exact k2, by rw [← e7]; exact hc.2⟩
      · rw [if_neg k2] at h5'
        split at h5'
        · omega
        · split at h5' <;> omega
theorem Hs.stop {U V : Sg} {i : Int} (h : Hs U V i) : V.1 88 5 = 3 ↔ stopS U := by
  obtain ⟨⟨hl, h3, H⟩, ⟨hi', h4, h5, h6, h7, h8⟩, h9⟩ := h
  have ek : kS U = tkK U i := by unfold kS; rw [h9]
  have ev : vS U = tkV U i := by unfold vS; rw [h9]
  rw [h5]
  unfold stopS
  rw [ek, ev]
  rcases lK_3 (U.1 3) (U.1 2 1) i with k | k | k
  · have e : zTok (U.1 3) (U.1 2 1) i = 0 := by unfold zTok; rw [if_pos k]
    constructor
    · intro hh; omega
    · intro hh; have := hh.1; change lK (U.1 3) (U.1 2 1) i = 1 at this; omega
  · have e1 := lV_1 k
    have e : zTok (U.1 3) (U.1 2 1) i = if U.1 3 (tkS U i) = 59 then 3 else if isK (U.1 3 (tkS U i)) then 1 else 4 := by unfold zTok; rw [if_neg (by omega), if_neg (by omega)]
    rw [e]
    constructor
    · intro hh
      refine ⟨k, ?_⟩
      show lV (U.1 3) (U.1 2 1) i = 59
      rw [e1.1]
      by_cases c : U.1 3 (tkS U i) = 59
      · exact c
      · rw [if_neg c] at hh
        split at hh <;> omega
    · intro hh
      have c : U.1 3 (tkS U i) = 59 := by rw [← e1.1]; exact hh.2
      rw [if_pos c]
  · have e : zTok (U.1 3) (U.1 2 1) i ≠ 3 := by
      unfold zTok
      rw [if_neg (by omega), if_pos k]
      split <;> omega
    constructor
    · intro hh; exact absurd hh e
    · intro hh; have := hh.1; change lK (U.1 3) (U.1 2 1) i = 1 at this; omega
/-- an item's first letter -/
theorem Sy.first {U V : Sg} {i : Int} (h : Sy U V i) (hk : tkK U i ≠ 0) : (V.1 88 5 = 1 ↔ isK (U.1 1 2)) ∧ (V.1 88 5 = 1 → V.1 88 7 = U.1 1 2) ∧ U.1 1 2 ≠ 257 := by
  obtain ⟨⟨hl, h3, H⟩, ⟨hi', h4, h5, h6, h7, h8⟩, h9, h10, h11⟩ := h
  have h7 := h7 hk
  have hbs := lS_bd (U.1 3) hi'.2
  have hns : ¬ U.1 2 1 ≤ lS (U.1 3) (U.1 2 1) i := fun hh => hk (by show lK _ _ _ = 0; unfold lK; rw [if_pos hh])
  have hlet := hl.2 (lS (U.1 3) (U.1 2 1) i) (by omega) (by omega)
  rcases lK_3 (U.1 3) (U.1 2 1) i with k | k | k
  · exact absurd k hk
  · have e1 := lV_1 k
    have et : U.1 1 2 = U.1 3 (tkS U i) := by
      rw [h10]; unfold tkF; rw [if_neg (by omega), if_neg (by omega), e1.1]
    have ez : zVal (U.1 3) (U.1 2 1) i 0 = U.1 3 (tkS U i) := by unfold zVal; rw [if_neg (by omega), if_neg (by omega)]
    have e : zTok (U.1 3) (U.1 2 1) i = if U.1 3 (tkS U i) = 59 then 3 else if isK (U.1 3 (tkS U i)) then 1 else 4 := by unfold zTok; rw [if_neg (by omega), if_neg (by omega)]
    rw [h5, et, h7, ez, e]
    refine ⟨⟨fun hh => ?_, fun hh => ?_⟩, fun _ => rfl, by show U.1 3 (lS _ _ _) ≠ _; omega⟩
    · by_cases c : U.1 3 (tkS U i) = 59
      · rw [if_pos c] at hh; omega
      · rw [if_neg c] at hh
        by_cases c2 : isK (U.1 3 (tkS U i))
        · exact c2
        · rw [if_neg c2] at hh; omega
    · rw [if_neg (by unfold isK at hh; omega), if_pos hh]
  · have et : U.1 1 2 = 256 := by
      rw [h10]; unfold tkF; rw [if_neg (by omega), if_pos k]
    have e : zTok (U.1 3) (U.1 2 1) i = if lV (U.1 3) (U.1 2 1) i = -1 then 4 else 2 := by unfold zTok; rw [if_neg (by omega), if_pos k]
    rw [h5, et, e]
    refine ⟨⟨fun hh => ?_, fun hh => by unfold isK at hh; omega⟩, fun hh => ?_, by omega⟩
    · split at hh <;> omega
    · split at hh <;> omega
