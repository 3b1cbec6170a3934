/-! how the two halves stand to each other -/
abbrev SC : Type := (Int → Int) × (Int → Int) × (Int → Int) × (Int → Int) × Int × (Int → Int)
def sc6 (S : Sg) (b : Nat) : SC := (S.1 (b + 2), S.1 (b + 4), S.1 (b + 6), S.1 (b + 8), S.1 (b + 9) 1, S.1 (b + 10))
def scV (V : Int → Int) : SC := (V, fun t => bitI (V 4) t, fun m => V (12 + m), fun m => V (112 + m), V 5, fun i => V (6 + i))
def eqS (s u : SC) : Prop := (∀ t : Int, 0 ≤ t → t < 4 → s.1 t = u.1 t ∧ s.2.1 t = u.2.1 t) ∧ (∀ m : Int, 0 ≤ m → m < 100 → s.2.2.1 m = u.2.2.1 m ∧ s.2.2.2.1 m = u.2.2.2.1 m) ∧ s.2.2.2.2.1 = u.2.2.2.2.1 ∧ ∀ i : Int, 0 ≤ i → i < s.2.2.2.2.1 → s.2.2.2.2.2 i = u.2.2.2.2.2 i
def okS (s : SC) (T c : Int) : Prop := (∀ t : Int, 0 ≤ t → t < 4 → (0 ≤ s.1 t ∧ s.1 t ≤ 100) ∧ (s.2.1 t = 0 ∨ s.2.1 t = 1) ∧ (T ≤ t → s.2.1 t = 0)) ∧ (∀ m : Int, 0 ≤ m → m < 100 → (0 ≤ s.2.2.1 m ∧ s.2.2.1 m ≤ c) ∧ (0 ≤ s.2.2.2.1 m ∧ s.2.2.2.1 m ≤ c)) ∧ (0 ≤ s.2.2.2.2.1 ∧ s.2.2.2.2.1 ≤ 6) ∧ ∀ i : Int, 0 ≤ i → i < s.2.2.2.2.1 → 0 ≤ s.2.2.2.2.2 i ∧ s.2.2.2.2.2 i ≤ 100
def okV (V : Int → Int) (T c : Int) : Prop := okS (scV V) T c ∧ (0 ≤ V 4 ∧ V 4 ≤ 15)
theorem eqS.rf (s : SC) : eqS s s := ⟨fun _ _ _ => ⟨rfl, rfl⟩, fun _ _ _ => ⟨rfl, rfl⟩, rfl, fun _ _ _ => rfl⟩
theorem eqS.sy {s u : SC} (h : eqS s u) : eqS u s := ⟨fun t h1 h2 => ⟨(h.1 t h1 h2).1.symm, (h.1 t h1 h2).2.symm⟩, fun m h1 h2 => ⟨(h.2.1 m h1 h2).1.symm, (h.2.1 m h1 h2).2.symm⟩, h.2.2.1.symm, fun i h1 h2 => (h.2.2.2 i h1 (by rw [h.2.2.1]; exact h2)).symm⟩
theorem eqS.tr {s u v : SC} (h : eqS s u) (k : eqS u v) : eqS s v := ⟨fun t h1 h2 => ⟨(h.1 t h1 h2).1.trans (k.1 t h1 h2).1, (h.1 t h1 h2).2.trans (k.1 t h1 h2).2⟩, fun m h1 h2 => ⟨(h.2.1 m h1 h2).1.trans (k.2.1 m h1 h2).1, (h.2.1 m h1 h2).2.trans (k.2.1 m h1 h2).2⟩, h.2.2.1.trans k.2.2.1, fun i h1 h2 => (h.2.2.2 i h1 h2).trans (k.2.2.2 i h1 (by rw [← h.2.2.1]; exact h2))⟩
theorem okS.eq {s u : SC} {T c : Int} (h : okS s T c) (e : eqS s u) : okS u T c := by
  refine ⟨fun t h1 h2 => ?_, fun m h1 h2 => ?_, ?_, fun i h1 h2 => ?_⟩
  · rw [← (e.1 t h1 h2).1, ← (e.1 t h1 h2).2]; exact h.1 t h1 h2
  · rw [← (e.2.1 m h1 h2).1, ← (e.2.1 m h1 h2).2]; exact h.2.1 m h1 h2
  · rw [← e.2.2.1]; exact h.2.2.1
  · rw [← e.2.2.1] at h2
    rw [← e.2.2.2 i h1 h2]; exact h.2.2.2 i h1 h2
theorem okS.mono {s : SC} {T c c' : Int} (h : okS s T c) (hc : c ≤ c') : okS s T c' := ⟨h.1, fun m h1 h2 => by have := h.2.1 m h1 h2; omega, h.2.2.1, h.2.2.2⟩
theorem okV.mono {V : Int → Int} {T c c' : Int} (h : okV V T c) (hc : c ≤ c') : okV V T c' := ⟨h.1.mono hc, h.2⟩
theorem scV_eq {V W : Int → Int} (h : ∀ k : Int, 0 ≤ k → k < 212 → V k = W k) (hn : V 5 ≤ 6) : eqS (scV V) (scV W) := by
  refine ⟨fun t h1 h2 => ⟨h t h1 (by omega), ?_⟩, fun m h1 h2 => ⟨h (12 + m) (by omega) (by omega), h (112 + m) (by omega) (by omega)⟩, h 5 (by omega) (by omega), fun i h1 h2 => ?_⟩
  · show bitI (V 4) t = bitI (W 4) t
    rw [h 4 (by omega) (by omega)]
  · change i < V 5 at h2
    exact h (6 + i) (by omega) (by omega)
theorem okV.eq {V W : Int → Int} {T c : Int} (h : okV V T c) (e : ∀ k : Int, 0 ≤ k → k < 212 → V k = W k) : okV W T c := by
  have hn : V 5 ≤ 6 := h.1.2.2.1.2
  exact ⟨h.1.eq (scV_eq e hn), by rw [← e 4 (by omega) (by omega)]; exact h.2⟩
/-- a deed taken back -/
def bk (k t x : Int) (s : SC) : SC :=
  if k = 0 then (uF s.1 t x, s.2.1, if x < s.1 t then wF s.2.2.1 x (s.1 t) (-1) else s.2.2.1, if x < s.1 t then s.2.2.2.1 else wF s.2.2.2.1 (s.1 t) x (-1), s.2.2.2.2)
  else if k = 1 then (s.1, uF s.2.1 t 0, s.2.2)
  else if k = 2 then (s.1, s.2.1, s.2.2.1, s.2.2.2.1, s.2.2.2.2.1 - 1, s.2.2.2.2.2)
  else (s.1, s.2.1, s.2.2.1, s.2.2.2.1, s.2.2.2.2.1 + 1, insF s.2.2.2.2.2 x s.2.2.2.2.1 (s.1 t))
def dOk (k t x : Int) (s : SC) : Prop := (0 ≤ k ∧ k ≤ 3) ∧ (0 ≤ t ∧ t ≤ 3) ∧ (0 ≤ x ∧ x ≤ 100) ∧ (k = 2 → 1 ≤ s.2.2.2.2.1) ∧ (k = 3 → x ≤ s.2.2.2.2.1 ∧ s.2.2.2.2.1 < 6)
theorem uF_c (f g : Int → Int) (i x j : Int) (h : f j = g j) : uF f i x j = uF g i x j := by
  unfold uF
  split
  · rfl
  · exact h
theorem wF_c (f g : Int → Int) (a b y m : Int) (h : f m = g m) : wF f a b y m = wF g a b y m := by
  unfold wF
  split
  · rw [h]
  · exact h
theorem insF_c {f g : Int → Int} {i z x j : Int} (hz : 0 ≤ i ∧ i ≤ z) (hj : 0 ≤ j ∧ j < z + 1) (h : ∀ q : Int, 0 ≤ q → q < z → f q = g q) : insF f i z x j = insF g i z x j := by
  unfold insF
  by_cases h1 : j < i
  · rw [if_pos h1, if_pos h1]; exact h j hj.1 (by omega)
  · rw [if_neg h1, if_neg h1]
    by_cases h2 : j = i
    · rw [if_pos h2, if_pos h2]
    · rw [if_neg h2, if_neg h2, if_pos (by omega), if_pos (by omega)]
      exact h (j - 1) (by omega) (by omega)
theorem eqS.takes {s u : SC} {k t x : Int} (e : eqS s u) (d : dOk k t x s) : eqS (bk k t x s) (bk k t x u) := by
  have et := e.1 t d.2.1.1 (by have := d.2.1.2; omega)
  unfold bk
  by_cases h0 : k = 0
  · rw [if_pos h0, if_pos h0, et.1]
    refine ⟨fun q h1 h2 => ⟨uF_c _ _ _ _ _ (e.1 q h1 h2).1, (e.1 q h1 h2).2⟩, fun m h1 h2 => ?_, e.2.2.1, e.2.2.2⟩
    show (if x < u.1 t then wF s.2.2.1 x (u.1 t) (-1) else s.2.2.1) m = (if x < u.1 t then wF u.2.2.1 x (u.1 t) (-1) else u.2.2.1) m ∧ (if x < u.1 t then s.2.2.2.1 else wF s.2.2.2.1 (u.1 t) x (-1)) m = (if x < u.1 t then u.2.2.2.1 else wF u.2.2.2.1 (u.1 t) x (-1)) m
    have em := e.2.1 m h1 h2
    by_cases hx : x < u.1 t
    · rw [if_pos hx, if_pos hx, if_pos hx, if_pos hx]; exact ⟨wF_c _ _ _ _ _ _ em.1, em.2⟩
    · rw [if_neg hx, if_neg hx, if_neg hx, if_neg hx]; exact ⟨em.1, wF_c _ _ _ _ _ _ em.2⟩
  · rw [if_neg h0, if_neg h0]
    by_cases h1 : k = 1
    · rw [if_pos h1, if_pos h1]
      exact ⟨fun q h1 h2 => ⟨(e.1 q h1 h2).1, uF_c _ _ _ _ _ (e.1 q h1 h2).2⟩, e.2.1, e.2.2.1, e.2.2.2⟩
    · rw [if_neg h1, if_neg h1]
      by_cases h2 : k = 2
      · rw [if_pos h2, if_pos h2]
        exact ⟨e.1, e.2.1, by show s.2.2.2.2.1 - 1 = u.2.2.2.2.1 - 1; rw [e.2.2.1], fun i i1 i2 => e.2.2.2 i i1 (by change i < s.2.2.2.2.1 - 1 at i2; omega)⟩
      · rw [if_neg h2, if_neg h2]
        have h3 := d.2.2.2.2 (by have := d.1; omega)
        refine ⟨e.1, e.2.1, by show s.2.2.2.2.1 + 1 = u.2.2.2.2.1 + 1; rw [e.2.2.1], fun i i1 i2 => ?_⟩
        show insF s.2.2.2.2.2 x s.2.2.2.2.1 (s.1 t) i = insF u.2.2.2.2.2 x u.2.2.2.2.1 (u.1 t) i
        rw [et.1, ← e.2.2.1]
        exact insF_c ⟨d.2.2.1.1, h3.1⟩ ⟨i1, i2⟩ e.2.2.2
/-! the parts of the relation -/
def PLN (S : Sg) (p : Nat) : Prop := planOk S p ∧ (2 ≤ S.1 p 7 ∧ S.1 p 7 ≤ 9) ∧ (∀ l : Int, 0 ≤ l → l ≤ 5 → 0 ≤ markP S p l ∧ markP S p l ≤ 100) ∧ (S.1 90 0 = S.1 (p + 1) 1 ∧ S.1 90 1 = S.1 (p + 11) 1 ∧ S.1 90 2 = S.1 p 6 ∧ S.1 90 3 = S.1 p 7) ∧ (∀ k : Int, 0 ≤ k → k < S.1 90 0 → (S.1 91 k = S.1 (p + 2) k ∧ S.1 92 k = S.1 (p + 4) k ∧ S.1 93 k = S.1 (p + 6) k) ∧ (1 ≤ S.1 92 k ∧ S.1 92 k ≤ 20) ∧ (-3 ≤ S.1 93 k ∧ S.1 93 k ≤ 3)) ∧ (∀ t : Int, 0 ≤ t → t < S.1 90 1 → S.1 94 t = S.1 (p + 12) t) ∧ tpZ S = S.1 (p + 9) 1 ∧ (∀ l : Int, 0 ≤ l → l ≤ S.1 90 0 → markP S p l = mkZ S l) ∧ (∀ m : Int, 0 ≤ m → m < tpZ S → htZ S m = S.1 (p + 10) m)
def TXT (S : Sg) : Prop := ltOk S ∧ S.1 88 3 = S.1 2 1 ∧ ∀ j : Int, 0 ≤ j → j < S.1 2 1 → S.1 89 j = S.1 3 j
def NOW (S : Sg) (T c : Int) : Prop := eqS (sc6 S 30) (scV (S.1 95)) ∧ okV (S.1 95) T c
/-- the j-th of the windows: the snapshots, and behind them what is now -/
def vv (m : Int) (W V : Int → Int) (j : Int) : Int → Int := if j < m then (fun k => W (212 * j + k)) else V
def UNQ (m : Int) (dk dt dx W V : Int → Int) (T c : Int) : Prop := (0 ≤ m ∧ m ≤ 10) ∧ (∀ j : Int, 0 ≤ j → j ≤ m → okV (vv m W V j) T c) ∧ ∀ j : Int, 0 ≤ j → j < m → dOk (dk j) (dt j) (dx j) (scV (vv m W V (j + 1))) ∧ eqS (bk (dk j) (dt j) (dx j) (scV (vv m W V (j + 1)))) (scV (vv m W V j))
def UND (S : Sg) (T c : Int) : Prop := (S.1 68 1 = S.1 66 1 ∧ S.1 70 1 = S.1 66 1 ∧ S.1 88 19 = S.1 66 1) ∧ UNQ (S.1 66 1) (S.1 67) (S.1 69) (S.1 71) (S.1 98) (S.1 95) T c
def IMG (S : Sg) (T c : Int) : Prop := ∀ x : Int, 0 ≤ x → x < 2 → (S.1 64 x = 0 ∨ S.1 64 x = 1) ∧ S.1 97 x = S.1 64 x ∧ (S.1 64 x = 1 → eqS (sc6 S (imA x)) (scV (fun k => S.1 96 (212 * x + k))) ∧ okV (fun k => S.1 96 (212 * x + k)) T c)
def SEE (S : Sg) (p : Nat) : Prop := seenOk S ∧ S.1 73 1 = S.1 75 1 ∧ S.1 88 22 = S.1 75 1 ∧ ∀ i : Int, 0 ≤ i → i < S.1 75 1 → S.1 100 i = S.1 76 i ∧ (0 ≤ S.1 99 i ∧ S.1 99 i ≤ 99) ∧ S.1 74 i = sumI (fun t => if S.1 99 i < S.1 (p + 12) t then 1 else 0) (S.1 (p + 11) 1)
def MEA (S : Sg) (p : Nat) : Prop := measOk S ∧ S.1 80 1 = S.1 84 1 ∧ S.1 82 1 = S.1 84 1 ∧ S.1 88 26 = S.1 84 1 ∧ ∀ i : Int, 0 ≤ i → i < S.1 84 1 → S.1 101 i = S.1 81 i ∧ S.1 102 i = S.1 83 i ∧ S.1 103 i = S.1 85 i ∧ S.1 83 i ≤ S.1 (p + 1) 1
def MSC (S : Sg) : Prop := S.1 88 0 = 0 ∧ (0 ≤ S.1 88 5 ∧ S.1 88 5 ≤ 4) ∧ (0 ≤ S.1 88 6 ∧ S.1 88 6 ≤ 120) ∧ (-1 ≤ S.1 88 7 ∧ S.1 88 7 ≤ 999)
def Rp (c : Int) (S : Sg) (p q : Nat) : Prop := (S.2.2 = (p, q) ∧ ((p = 4 ∧ q = 17) ∨ (p = 17 ∧ q = 4))) ∧ (0 ≤ c ∧ c ≤ 5000) ∧ Wr S ∧ PLN S p ∧ TXT S ∧ NOW S (S.1 90 1) c ∧ UND S (S.1 90 1) c ∧ IMG S (S.1 90 1) c ∧ SEE S p ∧ MEA S p ∧ S.2.1 88 = S.2.1 0 ∧ MSC S
def RI (c : Int) (S : Sg) : Prop := ∃ p q, Rp c S p q
theorem NOW.mono {S : Sg} {T c c' : Int} (h : NOW S T c) (hc : c ≤ c') : NOW S T c' := ⟨h.1, h.2.mono hc⟩
theorem UND.mono {S : Sg} {T c c' : Int} (h : UND S T c) (hc : c ≤ c') : UND S T c' := ⟨h.1, h.2.1, fun j h1 h2 => (h.2.2.1 j h1 h2).mono hc, h.2.2.2⟩
theorem IMG.mono {S : Sg} {T c c' : Int} (h : IMG S T c) (hc : c ≤ c') : IMG S T c' := fun x h1 h2 => ⟨(h x h1 h2).1, (h x h1 h2).2.1, fun h3 => ⟨((h x h1 h2).2.2 h3).1, ((h x h1 h2).2.2 h3).2.mono hc⟩⟩
theorem Rp.next {c : Int} {S : Sg} {p q : Nat} (h : Rp c S p q) (hc : c + 1 ≤ 5000) : Rp (c + 1) S p q := by
  obtain ⟨h1, h2, h3, h4, h5, h6, h7, h8, h9⟩ := h
  exact ⟨h1, ⟨by omega, hc⟩, h3, h4, h5, h6.mono (by omega), h7.mono (by omega), h8.mono (by omega), h9⟩
theorem Rp.pq {c : Int} {S : Sg} {p q : Nat} (h : Rp c S p q) : p = 4 ∨ p = 17 := by have := h.1.2; omega
theorem Rp.ci {c : Int} {S : Sg} {p q : Nat} (h : Rp c S p q) : CI S p q := by
  obtain ⟨h1, h2, h3, h4, h5, h6, h7, h8, h9, h10, h11, h12⟩ := h
  refine ⟨h1.1, h1.2, h3, h4.1, h4.2.1, h5.1, h4.2.2.1, fun t t1 t2 => ?_, fun m m1 m2 => ?_, fun m m1 m2 => ?_, fun i i1 i2 => ?_, fun i i1 i2 => ?_, h9.1, h10.1, fun i i1 i2 => (h8 i i1 i2).1⟩
  · have e := h6.1.1 t t1 t2
    have o := h6.2.1.1 t t1 t2
    change S.1 32 t = _ ∧ S.1 34 t = _ at e
    rw [e.1, e.2]
    exact ⟨o.1, o.2.1⟩
  · have e := (h6.1.2.1 m m1 m2).1
    have o := (h6.2.1.2.1 m m1 m2).1
    change S.1 36 m = _ at e
    rw [e]
    exact ⟨o.1, by have := o.2; omega⟩
  · have e := (h6.1.2.1 m m1 m2).2
    have o := (h6.2.1.2.1 m m1 m2).2
    change S.1 38 m = _ at e
    rw [e]
    exact ⟨o.1, by have := o.2; omega⟩
  · have e := h6.1.2.2.2 i i1 i2
    have e2 : S.1 39 1 = S.1 95 5 := h6.1.2.2.1
    change S.1 40 i = _ at e
    rw [e]
    exact h6.2.1.2.2.2 i i1 (by show i < S.1 95 5; omega)
  · have d := (h7.2.2.2 i i1 i2).1
    exact ⟨d.1, d.2.1, d.2.2.1⟩
theorem Rp.zi {c : Int} {S : Sg} {p q : Nat} (h : Rp c S p q) : ZI S := by
  obtain ⟨h1, h2, h3, h4, h5, h6, h7, h8, h9, h10, h11, h12⟩ := h
  obtain ⟨⟨o1, o2, o3, o4, o5, o6, o7⟩, a2, a3, ⟨b0, b1, b2, b3⟩, a5, a6, a7, a8, a9⟩ := h4
  have hn := h6.2.1.2.2.1
  change 0 ≤ S.1 95 5 ∧ S.1 95 5 ≤ 6 at hn
  refine ⟨h12.1, by rw [h5.2.1]; exact h5.1.1, fun j j1 j2 => ?_, by omega, by omega, by omega, by omega, fun k k1 k2 => ?_, fun t t1 t2 => ?_, fun t t1 t2 => (h6.2.1.1 t t1 t2).1, h6.2.2, hn, fun i i1 i2 => ?_, fun k k1 k2 => ?_, ?_, fun k k1 k2 => ?_, ?_, fun k k1 k2 => ?_, ?_, fun k k1 k2 => ?_, h12.2.1, h12.2.2.1, h12.2.2.2⟩
  · rw [h5.2.1] at j2
    rw [h5.2.2 j j1 j2]
    exact h5.1.2 j j1 j2
  · have h := a5 k k1 k2
    have h2 := o4 k k1 (by omega)
    rw [h.1.1]
    exact ⟨h2, h.2⟩
  · rw [a6 t t1 t2]
    exact o6 t t1 (by omega)
  · have := h6.2.1.2.2.2 (i - 6) (by omega) (by show i - 6 < S.1 95 5; omega)
    change 0 ≤ S.1 95 (6 + (i - 6)) ∧ S.1 95 (6 + (i - 6)) ≤ 100 at this
    rw [show 6 + (i - 6) = i by omega] at this
    exact this
  · by_cases hk : k < 112
    · have := (h6.2.1.2.1 (k - 12) (by omega) (by omega)).1
      change 0 ≤ S.1 95 (12 + (k - 12)) ∧ S.1 95 (12 + (k - 12)) ≤ c at this
      rw [show 12 + (k - 12) = k by omega] at this
      omega
    · have := (h6.2.1.2.1 (k - 112) (by omega) (by omega)).2
      change 0 ≤ S.1 95 (112 + (k - 112)) ∧ S.1 95 (112 + (k - 112)) ≤ c at this
      rw [show 112 + (k - 112) = k by omega] at this
      omega
  · rw [h7.1.2.2]; exact h7.2.1
  · have := h8 k k1 k2
    rw [this.2.1]; exact this.1
  · rw [h9.2.2.1]; exact h9.1.1
  · rw [h9.2.2.1] at k2
    have h := h9.2.2.2 k k1 k2
    rw [h.1]
    exact ⟨h.2.1, h9.1.2.2 k k1 k2⟩
  · rw [h10.2.2.2.1]; exact h10.1.1
  · rw [h10.2.2.2.1] at k2
    have h := h10.2.2.2.2 k k1 k2
    have h' := h10.1.2 k k1 k2
    rw [h.1, h.2.1, h.2.2.1]
    exact h'
/-! parts that other cells don't touch -/
theorem TXT.cg {S S' : Sg} (h : TXT S) (e2 : S'.1 2 = S.1 2) (e3 : S'.1 3 = S.1 3) (e4 : S'.1 88 3 = S.1 88 3) (e5 : S'.1 89 = S.1 89) : TXT S' := by
  unfold TXT ltOk at *
  rw [e2, e3, e4, e5]
  exact h
theorem NOW.cg {S S' : Sg} {T c : Int} (h : NOW S T c) (e : ∀ a : Nat, 31 ≤ a → a ≤ 40 → S'.1 a = S.1 a) (e5 : S'.1 95 = S.1 95) : NOW S' T c := by
  unfold NOW sc6 at *
  rw [e 32 (by omega) (by omega), e 34 (by omega) (by omega), e 36 (by omega) (by omega), e 38 (by omega) (by omega), e 39 (by omega) (by omega), e 40 (by omega) (by omega), e5]
  exact h
theorem UND.cg {S S' : Sg} {T c : Int} (h : UND S T c) (e : ∀ a : Nat, 66 ≤ a → a ≤ 71 → S'.1 a = S.1 a) (e4 : S'.1 88 19 = S.1 88 19) (e5 : S'.1 95 = S.1 95) (e6 : S'.1 98 = S.1 98) : UND S' T c := by
  unfold UND at *
  rw [e 66 (by omega) (by omega), e 67 (by omega) (by omega), e 68 (by omega) (by omega), e 69 (by omega) (by omega), e 70 (by omega) (by omega), e 71 (by omega) (by omega), e4, e5, e6]
  exact h
theorem IMG.cg {S S' : Sg} {T c : Int} (h : IMG S T c) (e : ∀ a : Nat, 42 ≤ a → a ≤ 64 → S'.1 a = S.1 a) (e4 : S'.1 96 = S.1 96) (e5 : S'.1 97 = S.1 97) : IMG S' T c := by
  intro x h1 h2
  have h3 := h x h1 h2
  have ei : sc6 S' (imA x) = sc6 S (imA x) := by
    unfold sc6
    rcases im_or x with hi | hi <;> rw [hi] <;> rw [e _ (by omega) (by omega), e _ (by omega) (by omega), e _ (by omega) (by omega), e _ (by omega) (by omega), e _ (by omega) (by omega), e _ (by omega) (by omega)]
  rw [ei, e 64 (by omega) (by omega), e4, e5]
  exact h3
theorem SEE.cg {S S' : Sg} {p : Nat} (h : SEE S p) (e : ∀ a : Nat, 73 ≤ a → a ≤ 76 → S'.1 a = S.1 a) (e4 : S'.1 88 22 = S.1 88 22) (e5 : S'.1 99 = S.1 99) (e6 : S'.1 100 = S.1 100) (e7 : S'.1 (p + 11) = S.1 (p + 11)) (e8 : S'.1 (p + 12) = S.1 (p + 12)) : SEE S' p := by
  unfold SEE seenOk at *
  rw [e 73 (by omega) (by omega), e 74 (by omega) (by omega), e 75 (by omega) (by omega), e 76 (by omega) (by omega), e4, e5, e6, e7, e8]
  exact h
theorem MEA.cg {S S' : Sg} {p : Nat} (h : MEA S p) (e : ∀ a : Nat, 80 ≤ a → a ≤ 85 → S'.1 a = S.1 a) (e4 : S'.1 88 26 = S.1 88 26) (e5 : S'.1 101 = S.1 101) (e6 : S'.1 102 = S.1 102) (e7 : S'.1 103 = S.1 103) (e8 : S'.1 (p + 1) = S.1 (p + 1)) : MEA S' p := by
  unfold MEA measOk at *
  rw [e 80 (by omega) (by omega), e 81 (by omega) (by omega), e 82 (by omega) (by omega), e 83 (by omega) (by omega), e 84 (by omega) (by omega), e 85 (by omega) (by omega), e4, e5, e6, e7, e8]
  exact h
theorem mkZ_cg {S S' : Sg} (e1 : S'.1 91 = S.1 91) (l : Int) : mkZ S' l = mkZ S l := by unfold mkZ; rw [e1]
theorem tpZ_cg {S S' : Sg} (e0 : S'.1 90 = S.1 90) (e1 : S'.1 91 = S.1 91) : tpZ S' = tpZ S := by unfold tpZ; rw [e0, mkZ_cg e1]
theorem htZ_cg {S S' : Sg} (e1 : S'.1 91 = S.1 91) (e2 : S'.1 92 = S.1 92) (e3 : S'.1 93 = S.1 93) (m : Int) : htZ S' m = htZ S m := by unfold htZ; rw [e1, e2, e3]
theorem PLN.cg {S S' : Sg} {p : Nat} (h : PLN S p) (e : ∀ a : Nat, p ≤ a → a ≤ p + 12 → S'.1 a = S.1 a) (f : ∀ a : Nat, 90 ≤ a → a ≤ 94 → S'.1 a = S.1 a) : PLN S' p := by
  have m1 := mkZ_cg (f 91 (by omega) (by omega))
  have m2 := tpZ_cg (f 90 (by omega) (by omega)) (f 91 (by omega) (by omega))
  have m3 := htZ_cg (f 91 (by omega) (by omega)) (f 92 (by omega) (by omega)) (f 93 (by omega) (by omega))
  unfold PLN planOk markP at *
  rw [e p (by omega) (by omega), e (p + 1) (by omega) (by omega), e (p + 2) (by omega) (by omega), e (p + 4) (by omega) (by omega), e (p + 6) (by omega) (by omega), e (p + 8) (by omega) (by omega), e (p + 9) (by omega) (by omega), e (p + 10) (by omega) (by omega), e (p + 11) (by omega) (by omega), e (p + 12) (by omega) (by omega), f 90 (by omega) (by omega), f 91 (by omega) (by omega), f 92 (by omega) (by omega), f 93 (by omega) (by omega), f 94 (by omega) (by omega), m2]
  simp only [m1, m3]
  exact h
theorem MSC.cg {S S' : Sg} (h : MSC S) (e : ∀ j : Int, (j = 0 ∨ j = 5 ∨ j = 6 ∨ j = 7) → S'.1 88 j = S.1 88 j) : MSC S' := by
  unfold MSC at *
  rw [e 0 (by omega), e 5 (by omega), e 6 (by omega), e 7 (by omega)]
  exact h
