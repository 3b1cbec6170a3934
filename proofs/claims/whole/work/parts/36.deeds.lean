/-! what is done, and how it is taken back -/
theorem dOk.eq {k t x : Int} {s u : SC} (h : dOk k t x s) (e : eqS s u) : dOk k t x u := by
  unfold dOk at *
  rw [← e.2.2.1]
  exact h
theorem UNQ.push {m : Int} {dk dt dx W V : Int → Int} {T c c' : Int} (h : UNQ m dk dt dx W V T c) (hm : m ≤ 9) (hc : c ≤ c') {dk' dt' dx' W' V' : Int → Int} (hd : ∀ j : Int, 0 ≤ j → j < m → dk' j = dk j ∧ dt' j = dt j ∧ dx' j = dx j) (hw : ∀ i : Int, 0 ≤ i → i < 212 * m → W' i = W i) (hv : ∀ i : Int, 0 ≤ i → i < 212 → W' (212 * m + i) = V i) (ho : okV V' T c') (hdo : dOk (dk' m) (dt' m) (dx' m) (scV V')) (he : eqS (bk (dk' m) (dt' m) (dx' m) (scV V')) (scV V)) : UNQ (m + 1) dk' dt' dx' W' V' T c' := by
  obtain ⟨h1, h2, h3⟩ := h
  have E : ∀ j : Int, 0 ≤ j → j ≤ m → ∀ k : Int, 0 ≤ k → k < 212 → vv m W V j k = vv (m + 1) W' V' j k := by
    intro j j1 j2 k k1 k2
    unfold vv
    by_cases hj : j < m
    · rw [if_pos hj, if_pos (by omega)]
      exact (hw (212 * j + k) (by omega) (by omega)).symm
    · rw [if_neg hj, if_pos (by omega), show j = m by omega]
      exact (hv k k1 k2).symm
  have n6 : ∀ j : Int, 0 ≤ j → j ≤ m → vv m W V j 5 ≤ 6 := fun j j1 j2 => (h2 j j1 j2).1.2.2.1.2
  have eV : vv (m + 1) W' V' (m + 1) = V' := if_neg (by omega)
  refine ⟨by omega, fun j j1 j2 => ?_, fun j j1 j2 => ?_⟩
  · by_cases hj : j = m + 1
    · rw [hj, eV]; exact ho
    · exact ((h2 j j1 (by omega)).eq (E j j1 (by omega))).mono hc
  · by_cases hj : j = m
    · subst hj
      rw [eV]
      refine ⟨hdo, he.tr ?_⟩
      have e1 : vv j W V j = V := if_neg (by omega)
      have := scV_eq (E j j1 (by omega)) (n6 j j1 (by omega))
      rw [e1] at this
      exact this
    · have d := hd j j1 (by omega)
      rw [d.1, d.2.1, d.2.2]
      have h4 := h3 j j1 (by omega)
      have e1 := scV_eq (E (j + 1) (by omega) (by omega)) (n6 (j + 1) (by omega) (by omega))
      have e2 := scV_eq (E j j1 (by omega)) (n6 j j1 (by omega))
      exact ⟨h4.1.eq e1, ((e1.takes h4.1).sy.tr h4.2).tr e2⟩
theorem UNQ.drop {dk dt dx W V : Int → Int} {T c : Int} (h : UNQ 10 dk dt dx W V T c) : UNQ 9 (fun j => dk (j + 1)) (fun j => dt (j + 1)) (fun j => dx (j + 1)) (fun i => W (212 + i)) V T c := by
  obtain ⟨h1, h2, h3⟩ := h
  have E : ∀ j : Int, vv 9 (fun i => W (212 + i)) V j = vv 10 W V (j + 1) := by
    intro j
    unfold vv
    by_cases hj : j < 9
    · rw [if_pos hj, if_pos (by omega)]
      funext k
      show W (212 + (212 * j + k)) = W (212 * (j + 1) + k)
      rw [show 212 + (212 * j + k) = 212 * (j + 1) + k by omega]
    · rw [if_neg hj, if_neg (by omega)]
  refine ⟨by omega, fun j j1 j2 => ?_, fun j j1 j2 => ?_⟩
  · rw [E]; exact h2 (j + 1) (by omega) (by omega)
  · rw [E, E]; exact h3 (j + 1) (by omega) (by omega)
theorem UNQ.pop {m : Int} {dk dt dx W V : Int → Int} {T c : Int} (h : UNQ m dk dt dx W V T c) (hm : 1 ≤ m) : UNQ (m - 1) dk dt dx W (vv m W V (m - 1)) T c := by
  obtain ⟨h1, h2, h3⟩ := h
  have E : ∀ j : Int, j ≤ m - 1 → vv (m - 1) W (vv m W V (m - 1)) j = vv m W V j := by
    intro j hj
    by_cases hj2 : j < m - 1
    · unfold vv
      rw [if_pos hj2, if_pos (by omega)]
    · have : j = m - 1 := by omega
      subst this
      exact if_neg (by omega)
  refine ⟨by omega, fun j j1 j2 => ?_, fun j j1 j2 => ?_⟩
  · rw [E j j2]; exact h2 j j1 (by omega)
  · rw [E j (by omega), E (j + 1) (by omega)]; exact h3 j j1 (by omega)
theorem UNQ.cg {m : Int} {dk dt dx W V : Int → Int} {T c : Int} (h : UNQ m dk dt dx W V T c) {dk' dt' dx' W' V' : Int → Int} (hd : ∀ j : Int, 0 ≤ j → j < m → dk' j = dk j ∧ dt' j = dt j ∧ dx' j = dx j) (hw : ∀ i : Int, 0 ≤ i → i < 212 * m → W' i = W i) (hv : ∀ i : Int, 0 ≤ i → i < 212 → V' i = V i) : UNQ m dk' dt' dx' W' V' T c := by
  obtain ⟨h1, h2, h3⟩ := h
  have E : ∀ j : Int, 0 ≤ j → j ≤ m → ∀ k : Int, 0 ≤ k → k < 212 → vv m W V j k = vv m W' V' j k := by
    intro j j1 j2 k k1 k2
    unfold vv
    by_cases hj : j < m
    · rw [if_pos hj, if_pos hj]
      exact (hw (212 * j + k) (by omega) (by omega)).symm
    · rw [if_neg hj, if_neg hj]
      exact (hv k k1 k2).symm
  have n6 : ∀ j : Int, 0 ≤ j → j ≤ m → vv m W V j 5 ≤ 6 := fun j j1 j2 => (h2 j j1 j2).1.2.2.1.2
  refine ⟨h1, fun j j1 j2 => (h2 j j1 j2).eq (E j j1 j2), fun j j1 j2 => ?_⟩
  have d := hd j j1 j2
  rw [d.1, d.2.1, d.2.2]
  have h4 := h3 j j1 j2
  have e1 := scV_eq (E (j + 1) (by omega) (by omega)) (n6 (j + 1) (by omega) (by omega))
  have e2 := scV_eq (E j j1 (by omega)) (n6 j j1 (by omega))
  exact ⟨h4.1.eq e1, ((e1.takes h4.1).sy.tr h4.2).tr e2⟩
/-- how many deeds stay known as one more comes; by how many they move -/
def mmS (S : Sg) : Int := if S.1 66 1 = 10 then 9 else S.1 66 1
def shS1 (S : Sg) : Int := if S.1 66 1 = 10 then 1 else 0
theorem UND.act {S S2 : Sg} {T c c' : Int} (h : UND S T c) (hc : c ≤ c') (hsz : (S2.1 68 1 = S2.1 66 1 ∧ S2.1 70 1 = S2.1 66 1 ∧ S2.1 88 19 = S2.1 66 1) ∧ S2.1 66 1 = mmS S + 1) (hd : ∀ j : Int, 0 ≤ j → j < mmS S → S2.1 67 j = S.1 67 (j + shS1 S) ∧ S2.1 69 j = S.1 69 (j + shS1 S) ∧ S2.1 71 j = S.1 71 (j + shS1 S)) {k t x : Int} (hk : S2.1 67 (mmS S) = k ∧ S2.1 69 (mmS S) = t ∧ S2.1 71 (mmS S) = x) (hw : ∀ i : Int, 0 ≤ i → i < 212 * mmS S → S2.1 98 i = S.1 98 (212 * shS1 S + i)) (hv : ∀ i : Int, 0 ≤ i → i < 212 → S2.1 98 (212 * mmS S + i) = S.1 95 i) (ho : okV (S2.1 95) T c') (hdo : dOk k t x (scV (S2.1 95))) (he : eqS (bk k t x (scV (S2.1 95))) (scV (S.1 95))) : UND S2 T c' := by
  obtain ⟨h1, h2⟩ := h
  refine ⟨hsz.1, ?_⟩
  rw [hsz.2]
  obtain ⟨rfl, rfl, rfl⟩ := hk
  unfold mmS shS1 at *
  by_cases hf : S.1 66 1 = 10
  · rw [if_pos hf, if_pos hf] at *
    rw [hf] at h2
    refine h2.drop.push (by omega) hc (fun j j1 j2 => ?_) (fun i i1 i2 => ?_) hv ho hdo he
    · exact hd j j1 j2
    · rw [hw i i1 i2]
      rfl
  · rw [if_neg hf, if_neg hf] at *
    have hb := h2.1
    refine h2.push (by omega) hc (fun j j1 j2 => ?_) (fun i i1 i2 => ?_) hv ho hdo he
    · have := hd j j1 j2
      rw [show j + 0 = j by omega] at this
      exact this
    · rw [hw i i1 i2, show 212 * 0 + i = i by omega]
theorem rrem0 {S : Sg} {k : Nat} (h : 0 < S.1 k 1) : (rremove S k 0).1 k 1 = S.1 k 1 - 1 ∧ ∀ j : Int, 0 ≤ j → j < S.1 k 1 - 1 → (rremove S k 0).1 (k + 1) j = S.1 (k + 1) (j + 1) := by
  unfold rremove
  rw [if_pos (by omega)]
  refine ⟨pt_at _ _ _ _, fun j j1 j2 => ?_⟩
  rw [pt_ne _ _ _ (by omega), aset_eq]
  unfold cutF
  rw [if_neg (by omega), if_pos (by omega)]
theorem rpush_at {S : Sg} {k : Nat} (x : Int) (h : S.1 k 1 < (ln (k + 1) : Int)) : (rpush S k x).1 k 1 = S.1 k 1 + 1 ∧ (rpush S k x).1 (k + 1) (S.1 k 1) = x ∧ ∀ j : Int, j ≠ S.1 k 1 → (rpush S k x).1 (k + 1) j = S.1 (k + 1) j := by
  rw [rpush_in x h]
  refine ⟨pt_at _ _ _ _, ?_, fun j hj => ?_⟩
  · rw [pt_ne _ _ _ (by omega), pt_at]
  · rw [pt_ne _ _ _ (by omega), pt_eq, uF_ne _ _ hj]
theorem ddrop_ne (S : Sg) (i : Int) {a : Nat} (h : a < 66 ∨ 71 < a) : (ddrop S i).1 a = S.1 a := by
  unfold ddrop
  rw [rremove_ne _ _ (by omega) (by omega), rremove_ne _ _ (by omega) (by omega), rremove_ne _ _ (by omega) (by omega)]
theorem dpush_ne (S : Sg) (k t x : Int) {a : Nat} (h : a < 66 ∨ 71 < a) : (dpush S k t x).1 a = S.1 a := by
  unfold dpush
  rw [rpush_ne _ _ (by omega) (by omega), rpush_ne _ _ (by omega) (by omega), rpush_ne _ _ (by omega) (by omega)]
theorem dadd_ne (S : Sg) (k t x : Int) {a : Nat} (h : a < 66 ∨ 71 < a) : (dadd S k t x).1 a = S.1 a := by
  unfold dadd
  split
  · rw [dpush_ne _ _ _ _ h, ddrop_ne _ _ h]
  · rw [dpush_ne _ _ _ _ h]
theorem dadd_2 (S : Sg) (k t x : Int) : (dadd S k t x).2 = S.2 := by
  unfold dadd dpush ddrop
  split
  · rw [rpush_2, rpush_2, rpush_2, rremove_2, rremove_2, rremove_2]
  · rw [rpush_2, rpush_2, rpush_2]
theorem Wr.adds {S : Sg} (h : Wr S) (k t x : Int) : Wr (dadd S k t x) := by
  unfold dadd
  split
  · exact (((h.ddrop 0).push rfl _).push rfl _).push rfl _
  · exact ((h.push rfl _).push rfl _).push rfl _
theorem dpush_at {S : Sg} (k t x : Int) {m : Int} (h : S.1 66 1 = m ∧ S.1 68 1 = m ∧ S.1 70 1 = m) (hm : m ≤ 9) : ((dpush S k t x).1 66 1 = m + 1 ∧ (dpush S k t x).1 68 1 = m + 1 ∧ (dpush S k t x).1 70 1 = m + 1) ∧ ((dpush S k t x).1 67 m = k ∧ (dpush S k t x).1 69 m = t ∧ (dpush S k t x).1 71 m = x) ∧ ∀ j : Int, j ≠ m → (dpush S k t x).1 67 j = S.1 67 j ∧ (dpush S k t x).1 69 j = S.1 69 j ∧ (dpush S k t x).1 71 j = S.1 71 j := by
  obtain ⟨h1, h2, h3⟩ := h
  have hl : (ln (66 + 1) : Int) = 10 := rfl
  have hl2 : (ln (68 + 1) : Int) = 10 := rfl
  have hl3 : (ln (70 + 1) : Int) = 10 := rfl
  have a1 := rpush_at (S := S) (k := 66) k (by omega)
  have e2 : (rpush S 66 k).1 68 = S.1 68 := rpush_ne _ _ (by decide) (by decide)
  have a2 := rpush_at (S := rpush S 66 k) (k := 68) t (by rw [e2]; omega)
  have e3 : (rpush (rpush S 66 k) 68 t).1 70 = S.1 70 := by rw [rpush_ne _ _ (by decide) (by decide), rpush_ne _ _ (by decide) (by decide)]
  have a3 := rpush_at (S := rpush (rpush S 66 k) 68 t) (k := 70) x (by rw [e3]; omega)
  rw [e2] at a2
  rw [e3] at a3
  unfold dpush
  have f66 : (rpush (rpush (rpush S 66 k) 68 t) 70 x).1 66 = (rpush S 66 k).1 66 := by rw [rpush_ne _ _ (by decide) (by decide), rpush_ne _ _ (by decide) (by decide)]
  have f67 : (rpush (rpush (rpush S 66 k) 68 t) 70 x).1 67 = (rpush S 66 k).1 67 := by rw [rpush_ne _ _ (by decide) (by decide), rpush_ne _ _ (by decide) (by decide)]
  have f68 : (rpush (rpush (rpush S 66 k) 68 t) 70 x).1 68 = (rpush (rpush S 66 k) 68 t).1 68 := rpush_ne _ _ (by decide) (by decide)
  have f69 : (rpush (rpush (rpush S 66 k) 68 t) 70 x).1 69 = (rpush (rpush S 66 k) 68 t).1 69 := rpush_ne _ _ (by decide) (by decide)
  have g69 : (rpush S 66 k).1 69 = S.1 69 := rpush_ne _ _ (by decide) (by decide)
  have g71 : (rpush (rpush S 66 k) 68 t).1 71 = S.1 71 := by rw [rpush_ne _ _ (by decide) (by decide), rpush_ne _ _ (by decide) (by decide)]
  rw [f66, f67, f68, f69]
  rw [h1] at a1
  rw [h2] at a2
  rw [h3] at a3
  refine ⟨⟨a1.1, a2.1, a3.1⟩, ⟨a1.2.1, a2.2.1, a3.2.1⟩, fun j hj => ⟨a1.2.2 j hj, ?_, ?_⟩⟩
  · rw [← g69]; exact a2.2.2 j hj
  · rw [← g71]; exact a3.2.2 j hj
theorem dadd_at {S : Sg} (k t x : Int) (h : S.1 68 1 = S.1 66 1 ∧ S.1 70 1 = S.1 66 1) (hb : 0 ≤ S.1 66 1 ∧ S.1 66 1 ≤ 10) : ((dadd S k t x).1 66 1 = mmS S + 1 ∧ (dadd S k t x).1 68 1 = mmS S + 1 ∧ (dadd S k t x).1 70 1 = mmS S + 1) ∧ ((dadd S k t x).1 67 (mmS S) = k ∧ (dadd S k t x).1 69 (mmS S) = t ∧ (dadd S k t x).1 71 (mmS S) = x) ∧ ∀ j : Int, 0 ≤ j → j < mmS S → (dadd S k t x).1 67 j = S.1 67 (j + shS1 S) ∧ (dadd S k t x).1 69 j = S.1 69 (j + shS1 S) ∧ (dadd S k t x).1 71 j = S.1 71 (j + shS1 S) := by
  obtain ⟨h2, h3⟩ := h
  unfold dadd mmS shS1
  by_cases hf : S.1 66 1 = 10
  · rw [if_pos (by omega), if_pos hf, if_pos hf]
    have b1 := rrem0 (S := S) (k := 66) (by omega)
    have e2 : (rremove S 66 0).1 68 = S.1 68 := rremove_ne _ _ (by decide) (by decide)
    have b2 := rrem0 (S := rremove S 66 0) (k := 68) (by rw [e2]; omega)
    have e3 : (rremove (rremove S 66 0) 68 0).1 70 = S.1 70 := by rw [rremove_ne _ _ (by decide) (by decide), rremove_ne _ _ (by decide) (by decide)]
    have b3 := rrem0 (S := rremove (rremove S 66 0) 68 0) (k := 70) (by rw [e3]; omega)
    have f66 : (ddrop S 0).1 66 = (rremove S 66 0).1 66 := by unfold ddrop; rw [rremove_ne _ _ (by decide) (by decide), rremove_ne _ _ (by decide) (by decide)]
    have f67 : (ddrop S 0).1 67 = (rremove S 66 0).1 67 := by unfold ddrop; rw [rremove_ne _ _ (by decide) (by decide), rremove_ne _ _ (by decide) (by decide)]
    have f68 : (ddrop S 0).1 68 = (rremove (rremove S 66 0) 68 0).1 68 := by unfold ddrop; rw [rremove_ne _ _ (by decide) (by decide)]
    have f69 : (ddrop S 0).1 69 = (rremove (rremove S 66 0) 68 0).1 69 := by unfold ddrop; rw [rremove_ne _ _ (by decide) (by decide)]
    have g69 : (rremove S 66 0).1 69 = S.1 69 := rremove_ne _ _ (by decide) (by decide)
    have g71 : (rremove (rremove S 66 0) 68 0).1 71 = S.1 71 := by rw [rremove_ne _ _ (by decide) (by decide), rremove_ne _ _ (by decide) (by decide)]
    have d := dpush_at (S := ddrop S 0) k t x (m := 9) ⟨by rw [f66, b1.1]; omega, by rw [f68, b2.1, e2]; omega, by show (rremove (rremove (rremove S 66 0) 68 0) 70 0).1 70 1 = 9; rw [b3.1, e3]; omega⟩ (by omega)
    refine ⟨d.1, d.2.1, fun j j1 j2 => ?_⟩
    have dj := d.2.2 j (by omega)
    rw [dj.1, dj.2.1, dj.2.2, f67, f69]
    refine ⟨b1.2 j j1 (by omega), ?_, ?_⟩
    · rw [← g69]; exact b2.2 j j1 (by rw [e2]; omega)
    · rw [← g71]; exact b3.2 j j1 (by rw [e3]; omega)
  · rw [if_neg (by omega), if_neg hf, if_neg hf]
    have d := dpush_at (S := S) k t x (m := S.1 66 1) ⟨rfl, h2, h3⟩ (by omega)
    refine ⟨d.1, d.2.1, fun j j1 j2 => ?_⟩
    rw [show j + 0 = j by omega]
    exact d.2.2 j (by omega)
theorem note_at {U S : Sg} (h : U.1 88 19 = S.1 66 1) : (zNote U).1 88 19 = mmS S + 1 ∧ (∀ i : Int, 0 ≤ i → i < 212 * mmS S → (zNote U).1 98 i = U.1 98 (212 * shS1 S + i)) ∧ (∀ i : Int, 0 ≤ i → i < 212 → (zNote U).1 98 (212 * mmS S + i) = U.1 95 i) ∧ ∀ j : Int, j ≠ 19 → (zNote U).1 88 j = U.1 88 j := by
  have e19 : (zN1 U).1 88 19 = mmS S := by
    unfold zN1 mmS
    rw [h]
    by_cases hf : S.1 66 1 = 10
    · rw [if_pos hf, if_pos hf, pt_at]
    · rw [if_neg hf, if_neg hf, h]
  have e95 : (zN1 U).1 95 = U.1 95 := zN1_ne U (by decide) (by decide)
  have e98 : ∀ i : Int, 0 ≤ i → i < 212 * mmS S → (zN1 U).1 98 i = U.1 98 (212 * shS1 S + i) := by
    intro i i1 i2
    unfold zN1 shS1
    unfold mmS at i2
    rw [h]
    by_cases hf : S.1 66 1 = 10
    · rw [if_pos hf] at i2
      rw [if_pos hf, if_pos hf, pt_ne _ _ _ (by decide)]
      unfold sft
      rw [aset_eq]
      unfold sftF
      rw [if_pos (by omega)]
      rfl
    · rw [if_neg hf, if_neg hf, show 212 * 0 + i = i by omega]
  unfold zNote
  rw [e19]
  refine ⟨pt_at _ _ _ _, fun i i1 i2 => ?_, fun i i1 i2 => ?_, fun j hj => ?_⟩
  · rw [pt_ne _ _ _ (by decide)]
    unfold cpy
    rw [aset_eq]
    show (if 212 * mmS S ≤ i ∧ i < 212 * mmS S + 212 then _ else _) = _
    rw [if_neg (by omega)]
    exact e98 i i1 i2
  · rw [pt_ne _ _ _ (by decide)]
    unfold cpy
    rw [aset_eq]
    show (if 212 * mmS S ≤ 212 * mmS S + i ∧ 212 * mmS S + i < 212 * mmS S + 212 then _ else _) = _
    rw [if_pos (by omega), e95, show 212 * mmS S + i - 212 * mmS S = i by omega]
  · rw [pt_eq, uF_ne _ _ hj, cpy_ne _ _ _ (by decide)]
    unfold zN1
    split
    · rw [pt_eq, uF_ne _ _ hj, sft_ne _ _ _ (by decide)]
    · rfl
