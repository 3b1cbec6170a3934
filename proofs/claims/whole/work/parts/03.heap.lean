/-! the heap: fields, arrays, new cells -/
theorem Hold.set {b : Nat} {D : va_G} {cy : ClassId × ClassId} {M : Mem} {H H1 : Heap} {k : Nat} {c0 c : Ce} (h : Hold b D cy M H) (hk : gt M k = some c0) (z : H1.size = H.size) (oq : ∀ q, q ≠ b + k → H1[q]? = H[q]?) (hc : va_at D cl9 (b + k, toE b cy c) H1) : Hold b D cy (up M k c) H1 := by
  refine ⟨by rw [z]; exact h.1, fun j x hj => ?_⟩
  change (if j = k then some c else M.2 j) = some x at hj
  by_cases hjk : j = k
  · rw [if_pos hjk] at hj
    cases hj; subst hjk
    exact hc
  · rw [if_neg hjk] at hj
    exact (h.2 j x hj).kept (oq _ (show b + j ≠ b + k by omega))
theorem Hold.push {b : Nat} {D : va_G} {cy : ClassId × ClassId} {M : Mem} {H H1 : Heap} {c : Ce} (h : Hold b D cy M H) (z : H1.size = H.size + 1) (oq : ∀ q, q < H.size → H1[q]? = H[q]?) (hc : va_at D cl9 (b + M.1, toE b cy c) H1) : Hold b D cy (nw M c) H1 := by
  refine ⟨by rw [z, h.1]; show _ = b + (M.1 + 1); omega, fun j x hj => ?_⟩
  change (if j = M.1 then some c else M.2 j) = some x at hj
  by_cases hjk : j = M.1
  · rw [if_pos hjk] at hj
    cases hj; subst hjk
    exact hc
  · rw [if_neg hjk] at hj
    exact (h.2 j x hj).kept (oq _ (h.2 j x hj).lt)
def FL (own : String) (idx ci k : Nat) : Prop := ∃ (C : String) (T : u_T) (N : Nat), cl9[ci]? = some (C, T, N) ∧ k < N ∧ (∀ w ∈ u_ws C T N, w ∈ lw_ws) ∧ Cond.fieldLink own idx (T k).1 (T k).2.1 (T k).2.2.1 ∈ lw_ws
def FP (own : String) (idx ci k : Nat) (fin : Bool) (ty : FieldType) : Prop := ∃ (C : String) (T : u_T) (N : Nat) (Y : Nat → FieldType), cl9[ci]? = some (C, T, N) ∧ k < N ∧ (∀ w ∈ u_ws C T N, w ∈ lw_ws) ∧ Cond.fieldLink own idx (T k).1 (T k).2.1 (T k).2.2.1 ∈ lw_ws ∧ (∀ k, k < N → parseFieldDescriptor (T k).2.2.1 = some (Y k)) ∧ (∀ a, a < N → ∀ b, b < N → a ≠ b → (T a).2.1 ≠ (T b).2.1) ∧ (T k).2.2.2 = fin ∧ Y k = ty ∧ (fin = true → (T k).1 = own)
def inInit (F : FT) : Prop := match F with
  | (p, l, e, R, s, m, args, below, meth, c, Q, b, D, cy) => meth.name = "<init>"
section HEAP
variable {F : FT} {cc : ByteArray} {nL : Nat} {own : String} {ret : Option FieldType} {M : Mem} {cs sl pc pc' : Nat} {L st : List Value}
theorem go_get (h : Fok F cc nL own ret) {idx ci k a : Nat} {fs : List Value} {v : Value} (hd : Dc cc pc (.getfield idx) 3 pc') (lk : FL own idx ci k) (hg : gt M a = some (ob ci fs)) (hv : fs[k]? = some v) (kk : Go F nL M cs sl pc' L (v :: st)) : Go F nL M cs sl pc L (.ref a :: st) := by
  obtain ⟨p, l, e, R, s, m, args, below, meth, c, Q, b, D, cy⟩ := F
  obtain ⟨hx, hb, hml, hown, hts, hK, hr, hlk, hbs⟩ := h
  obtain ⟨hd, rfl⟩ := hd
  obtain ⟨C, T, N, hc, hk, hin, hl1⟩ := lk
  intro H locs ls hH hS hl
  exact va_get hx hb hts hin hown hK (hH.one hg) 0 rfl hc k hk (hts _ hl1) (fun _ h => h) (v := shV b v) (by rw [List.getElem?_map, hv]; rfl) hd (kk H locs ls hH hS hl)
theorem go_put (h : Fok F cc nL own ret) {idx ci k a : Nat} {fs fs' : List Value} {v : Value} {ty : FieldType} (hd : Dc cc pc (.putfield idx) 3 pc') (lk : FP own idx ci k false ty) (hg : gt M a = some (ob ci fs)) (hn : ∀ b, narrow ty (shV b v) = shV b v) (hfit : ∀ b, fits ty (shV b v) = true) (hl0 : k < fs.length) (hs : fs.set k v = fs') (kk : Go F nL (up M a (ob ci fs')) cs sl pc' L st) : Go F nL M cs sl pc L (v :: .ref a :: st) := by
  obtain ⟨p, l, e, R, s, m, args, below, meth, c, Q, b, D, cy⟩ := F
  obtain ⟨hx, hb, hml, hown, hts, hK, hr, hlk, hbs⟩ := h
  obtain ⟨hd, rfl⟩ := hd
  obtain ⟨C, T, N, Y, hc, hk, hin, hl1, hty, hnm, hfin, hY, -⟩ := lk
  subst hY
  intro H locs ls hH hS hl
  have hap := va_apart (own := own) hts hin Y hty hnm hK hc
  obtain ⟨r, h1, cell, q1, q2, q3, q4⟩ := hH.2 a _ hg
  have hr : r = (C, T, N) := Option.some.inj (h1.symm.trans hc)
  subst hr
  obtain ⟨hSl, hfc, kC, hkC, hkind⟩ := hK.1 ci _ hc
  obtain ⟨cf, kf, fi, f, hi, hsl⟩ := hSl k hk
  have hlay := hts _ (hin _ (u_in_lay hk))
  unfold u_lay at hlay
  rw [if_neg (by rw [hfin]; decide)] at hlay
  have hst := (u_facts hfc hkC (u_lays hts hin hk) hi).1
  have h6 := u_store hfc hkC hkind hlay hi (hty k hk) (hn b) (hfit b)
  refine W.putK hx hb (f := f) ⟨hown, hts _ hl1, ⟨_, _, _, hi⟩, hst⟩ (by rw [q2]; exact h6) q1 q3 (by rw [hsl]; exact k2_hasslot (q4 k hk)) rfl rfl hd fun H' e1 e2 e3 => ?_
  rw [hsl] at e1 ⊢
  refine kk H' _ ls (hH.set hg e2 e3 ?_) (hS.put e2 e3 (Nat.le_add_right b a)) hl
  refine ⟨_, hc, t_OB.to (V := updV (vp_V (fs.map (shV b))) k (shV b v)) ⟨_, e1, q2, q3, t_set q4 hap hk _⟩ (fun j _ => ?_)⟩
  rw [vp_updV_set (by simpa using hl0), ← hs, List.map_set]
theorem go_putF (h : Fok F cc nL own ret) (hini : inInit F) {idx ci k a : Nat} {fs fs' : List Value} {v : Value} {ty : FieldType} (hd : Dc cc pc (.putfield idx) 3 pc') (lk : FP own idx ci k true ty) (hg : gt M a = some (ob ci fs)) (hn : ∀ b, narrow ty (shV b v) = shV b v) (hfit : ∀ b, fits ty (shV b v) = true) (hl0 : k < fs.length) (hs : fs.set k v = fs') (kk : Go F nL (up M a (ob ci fs')) cs sl pc' L st) : Go F nL M cs sl pc L (v :: .ref a :: st) := by
  obtain ⟨p, l, e, R, s, m, args, below, meth, c, Q, b, D, cy⟩ := F
  obtain ⟨hx, hb, hml, hown, hts, hK, hr, hlk, hbs⟩ := h
  obtain ⟨hd, rfl⟩ := hd
  obtain ⟨C, T, N, Y, hc, hk, hin, hl1, hty, hnm, hfin, hY, hdecl⟩ := lk
  subst hY
  intro H locs ls hH hS hl
  have hap := va_apart (own := own) hts hin Y hty hnm hK hc
  obtain ⟨r, h1, cell, q1, q2, q3, q4⟩ := hH.2 a _ hg
  have hr : r = (C, T, N) := Option.some.inj (h1.symm.trans hc)
  subst hr
  obtain ⟨hSl, hfc, kC, hkC, hkind⟩ := hK.1 ci _ hc
  obtain ⟨cf, kf, fi, f, hi, hsl⟩ := hSl k hk
  have hlay := hts _ (hin _ (u_in_lay hk))
  unfold u_lay at hlay
  rw [if_pos hfin] at hlay
  have hst := (u_facts hfc hkC (u_lays hts hin hk) hi).1
  have hcf : m.cls = cf := by
    obtain ⟨_, _, c', _, _, _, -, -, hf', -, -, -, hown2, -⟩ := Cond.laysFinal_spec hlay
    have e1 : c' = cf := by have := hi.symm.trans hf'; simp at this; exact this.1.symm
    rw [hdecl rfl] at hown2
    rw [← e1]; exact Option.some.inj (hown.symm.trans hown2)
  have h6 := u_fits hfc hkC hkind (Or.inr hlay) hi (hty k hk) (hn b) (hfit b)
  refine W.putFinK hx hb hown (hts _ hl1) hi hst hcf hini (by rw [q2]; exact h6) q1 q3 (by rw [hsl]; exact k2_hasslot (q4 k hk)) rfl rfl hd fun H' e1 e2 e3 => ?_
  rw [hsl] at e1 ⊢
  refine kk H' _ ls (hH.set hg e2 e3 ?_) (hS.put e2 e3 (Nat.le_add_right b a)) hl
  refine ⟨_, hc, t_OB.to (V := updV (vp_V (fs.map (shV b))) k (shV b v)) ⟨_, e1, q2, q3, t_set q4 hap hk _⟩ (fun j _ => ?_)⟩
  rw [vp_updV_set (by simpa using hl0), ← hs, List.map_set]
theorem go_alen (h : Fok F cc nL own ret) {a n : Nat} {f : Nat → Int32} {v : Int32} (hd : Dc cc pc .arraylength 1 pc') (hg : gt M a = some (ar n f)) (hv : Int32.ofNat n = v) (kk : Go F nL M cs sl pc' L (.int v :: st)) : Go F nL M cs sl pc L (.ref a :: st) := by
  obtain ⟨p, l, e, R, s, m, args, below, meth, c, Q, b, D, cy⟩ := F
  obtain ⟨hx, hb, hml, hown, hts, hK, hr, hlk, hbs⟩ := h
  obtain ⟨hd, rfl⟩ := hd
  intro H locs ls hH hS hl
  exact va_alen hx hb hK (hH.one hg) 0 0 (x := (n, .inl f)) rfl rfl hv hd (kk H locs ls hH hS hl)
theorem go_iald (h : Fok F cc nL own ret) {a n : Nat} {f : Nat → Int32} {i : Int32} (hd : Dc cc pc .iaload 1 pc') (hg : gt M a = some (ar n f)) (hi : vp_in i n) {v : Int32} (hv : f i.toNatClampNeg = v) (kk : Go F nL M cs sl pc' L (.int v :: st)) : Go F nL M cs sl pc L (.int i :: .ref a :: st) := by
  obtain ⟨p, l, e, R, s, m, args, below, meth, c, Q, b, D, cy⟩ := F
  obtain ⟨hx, hb, hml, hown, hts, hK, hr, hlk, hbs⟩ := h
  obtain ⟨hd, rfl⟩ := hd
  subst hv
  intro H locs ls hH hS hl
  exact va_iald hx hb hK (hH.one hg) 0 0 rfl rfl hi hd (kk H locs ls hH hS hl)
theorem go_zald (h : Fok F cc nL own ret) {a n : Nat} {f : Nat → Int32} {i : Int32} (hd : Dc cc pc .baload 1 pc') (hg : gt M a = some (zr n f)) (hi : vp_in i n) {v : Int32} (hv : f i.toNatClampNeg = v) (kk : Go F nL M cs sl pc' L (.int v :: st)) : Go F nL M cs sl pc L (.int i :: .ref a :: st) := by
  obtain ⟨p, l, e, R, s, m, args, below, meth, c, Q, b, D, cy⟩ := F
  obtain ⟨hx, hb, hml, hown, hts, hK, hr, hlk, hbs⟩ := h
  obtain ⟨hd, rfl⟩ := hd
  subst hv
  intro H locs ls hH hS hl
  exact va_zald hx hb hK (hH.one hg) 0 1 rfl rfl hi hd (kk H locs ls hH hS hl)
theorem go_iast (h : Fok F cc nL own ret) {a n : Nat} {f : Nat → Int32} {i x : Int32} (hd : Dc cc pc .iastore 1 pc') (hg : gt M a = some (ar n f)) (hi : vp_in i n) (kk : Go F nL (up M a (ar n (upd f i.toNatClampNeg x))) cs sl pc' L st) : Go F nL M cs sl pc L (.int x :: .int i :: .ref a :: st) := by
  obtain ⟨p, l, e, R, s, m, args, below, meth, c, Q, b, D, cy⟩ := F
  obtain ⟨hx, hb, hml, hown, hts, hK, hr, hlk, hbs⟩ := h
  obtain ⟨hd, rfl⟩ := hd
  intro H locs ls hH hS hl
  have hat : H[b + a]? = some (vp_cell cy.1 (n, .inl f)) := hH.2 a _ hg
  refine W.iast hx hb hat ((hK.2 0 (cy.1, .int) rfl).1 n (fun j => .int (f j))) (fun q => by cases q) (by show ¬ (i < 0 ∨ (arrV _ _ _).slots.size ≤ _); rw [arrV_size]; exact hi) rfl rfl hd fun H1 e1 e2 e3 => ?_
  refine kk H1 _ ls (hH.set hg e2 e3 ?_) (hS.put e2 e3 (Nat.le_add_right b a)) hl
  show H1[b + a]? = some (vp_cell _ _)
  rw [e1]
  show some (Cell.setSlot (vp_cell _ _) _ _) = some (vp_cell _ _)
  rw [vp_cell_i, vp_cell_i, arrV_store]
  congr 2
  funext q
  by_cases hq : q = i.toNatClampNeg
  · subst hq
    simp [updV, upd]
  · simp [updV, upd, hq]
theorem go_zast (h : Fok F cc nL own ret) {a n : Nat} {f : Nat → Int32} {i x : Int32} (hd : Dc cc pc .bastore 1 pc') (hg : gt M a = some (zr n f)) (hi : vp_in i n) (hx1 : narrow .boolean (.int x) = .int x) (kk : Go F nL (up M a (zr n (upd f i.toNatClampNeg x))) cs sl pc' L st) : Go F nL M cs sl pc L (.int x :: .int i :: .ref a :: st) := by
  obtain ⟨p, l, e, R, s, m, args, below, meth, c, Q, b, D, cy⟩ := F
  obtain ⟨hx, hb, hml, hown, hts, hK, hr, hlk, hbs⟩ := h
  obtain ⟨hd, rfl⟩ := hd
  intro H locs ls hH hS hl
  have hat : H[b + a]? = some (vp_cell cy.2 (n, .inl f)) := hH.2 a _ hg
  refine W.zast hx hb hat ((hK.2 1 (cy.2, .boolean) rfl).1 n (fun j => .int (f j))) (fun q => by cases q) (by show ¬ (i < 0 ∨ (arrV _ _ _).slots.size ≤ _); rw [arrV_size]; exact hi) rfl rfl hd fun H1 e1 e2 e3 => ?_
  refine kk H1 _ ls (hH.set hg e2 e3 ?_) (hS.put e2 e3 (Nat.le_add_right b a)) hl
  show H1[b + a]? = some (vp_cell _ _)
  rw [e1, hx1]
  show some (Cell.setSlot (vp_cell _ _) _ _) = some (vp_cell _ _)
  rw [vp_cell_i, vp_cell_i, arrV_store]
  congr 2
  funext q
  by_cases hq : q = i.toNatClampNeg
  · subst hq
    simp [updV, upd]
  · simp [updV, upd, hq]
def Room3 (F : FT) (cs sl : Nat) : Prop := match F with
  | (p, l, e, R, s, m, args, below, meth, c, Q, b, D, cy) => cs ≤ R.cells ∧ sl ≤ R.slots
def NW (own : String) (idx ci : Nat) (fs : List Value) : Prop := ∃ (C : String) (T : u_T) (N : Nat) (Y : Nat → FieldType), cl9[ci]? = some (C, T, N) ∧ (∀ w ∈ u_ws C T N, w ∈ lw_ws) ∧ (∀ k, k < N → parseFieldDescriptor (T k).2.2.1 = some (Y k)) ∧ Cond.classLink own idx C ∈ lw_ws ∧ Cond.instantiable C N ∈ lw_ws ∧ Cond.initialized C ∈ lw_ws ∧ fs.length = N ∧ (∀ j, j < N → ∀ b, defaultValue (Y j) = vp_V (fs.map (shV b)) j)
theorem go_new (h : Fok F cc nL own ret) {idx ci n a : Nat} {fs : List Value} (hd : Dc cc pc (.new idx) 3 pc') (lk : NW own idx ci fs) (hn : fs.length = n) (hro : Room3 F (cs + 1) (sl + n)) (ha : M.1 = a) (kk : Go F nL (nw M (ob ci fs)) (cs + 1) (sl + n) pc' L (.ref a :: st)) : Go F nL M cs sl pc L st := by
  obtain ⟨p, l, e, R, s, m, args, below, meth, c, Q, b, D, cy⟩ := F
  obtain ⟨hx, hb, hml, hown, hts, hK, hr, hlk, hbs⟩ := h
  obtain ⟨hd, rfl⟩ := hd
  obtain ⟨C, T, N, Y, hc, hin, hty, w1, w2, w3, hlen, hdf⟩ := lk
  subst hn; subst ha; subst hlen
  intro H locs ls hH hS hl
  have hKn := hK.1 ci _ hc
  refine W.newcK hx hb hown (hts _ w1) (hts _ w2) (hts _ w3) rfl hd hro.1 hro.2 hKn.2.1 hH.1 fun H1 kC hkC e1 z1 o1 => ?_
  refine kk H1 locs ls (hH.push (by rw [z1, hH.1]) (fun q hq => o1 q (by rw [← hH.1]; exact hq)) ?_) ⟨Nat.le_trans hS.1 (by rw [z1, hH.1]; omega), fun x h1 h2 => (o1 x (by have := hS.1; rw [hH.1] at this; omega)).trans (hS.2.1 x h1 h2), hS.2.2⟩ hl
  exact ⟨_, hc, (u_born Y hts hin hKn hkC e1 hty).to (fun j hj => hdf j hj b)⟩
theorem find_one {s : State} {n : String} {a b : ClassId} (h1 : s.vm.findClass n = some a) (h2 : s.vm.findClass n = some b) : a = b := Option.some.inj (h1.symm.trans h2)
theorem go_newaI (h : Fok F cc nL own ret) {n : Int32} {N a : Nat} (hd : Dc cc pc (.newarray .int) 2 pc') (hw : Cond.arrayClass .int ∈ lw_ws) (h0 : ¬ n < 0) (hN : n.toNatClampNeg = N) (hby : N * 4 ≤ 536870912) (hro : Room3 F (cs + 1) (sl + N)) (ha : M.1 = a) (kk : Go F nL (nw M (ar N (fun _ => 0))) (cs + 1) (sl + N) pc' L (.ref a :: st)) : Go F nL M cs sl pc L (.int n :: st) := by
  obtain ⟨p, l, e, R, s, m, args, below, meth, c, Q, b, D, cy⟩ := F
  obtain ⟨hx, hb, hml, hown, hts, hK, hr, hlk, hbs⟩ := h
  obtain ⟨hd, rfl⟩ := hd
  subst ha
  intro H locs ls hH hS hl
  refine va_newaK hx hb (atype := .int) (hts _ hw) rfl hd rfl h0 hN hby hro.1 hro.2 hH.1 fun H1 cA e1 z1 o1 hAr hNm => ?_
  have hcA : cA = cy.1 := find_one hNm ((hK.2 0 (cy.1, .int) rfl).2)
  subst hcA
  refine kk H1 locs ls (hH.push (by rw [z1, hH.1]) (fun q hq => o1 q (by rw [← hH.1]; exact hq)) ?_) ⟨Nat.le_trans hS.1 (by rw [z1, hH.1]; omega), fun x h1 h2 => (o1 x (by have := hS.1; rw [hH.1] at this; omega)).trans (hS.2.1 x h1 h2), hS.2.2⟩ hl
  exact e1
theorem go_newaZ (h : Fok F cc nL own ret) {n : Int32} {N a : Nat} (hd : Dc cc pc (.newarray .boolean) 2 pc') (hw : Cond.arrayClass .boolean ∈ lw_ws) (h0 : ¬ n < 0) (hN : n.toNatClampNeg = N) (hby : N * 1 ≤ 536870912) (hro : Room3 F (cs + 1) (sl + N)) (ha : M.1 = a) (kk : Go F nL (nw M (zr N (fun _ => 0))) (cs + 1) (sl + N) pc' L (.ref a :: st)) : Go F nL M cs sl pc L (.int n :: st) := by
  obtain ⟨p, l, e, R, s, m, args, below, meth, c, Q, b, D, cy⟩ := F
  obtain ⟨hx, hb, hml, hown, hts, hK, hr, hlk, hbs⟩ := h
  obtain ⟨hd, rfl⟩ := hd
  subst ha
  intro H locs ls hH hS hl
  refine va_newaK hx hb (atype := .boolean) (hts _ hw) rfl hd rfl h0 hN hby hro.1 hro.2 hH.1 fun H1 cA e1 z1 o1 hAr hNm => ?_
  have hcA : cA = cy.2 := find_one hNm ((hK.2 1 (cy.2, .boolean) rfl).2)
  subst hcA
  refine kk H1 locs ls (hH.push (by rw [z1, hH.1]) (fun q hq => o1 q (by rw [← hH.1]; exact hq)) ?_) ⟨Nat.le_trans hS.1 (by rw [z1, hH.1]; omega), fun x h1 h2 => (o1 x (by have := hS.1; rw [hH.1] at this; omega)).trans (hS.2.1 x h1 h2), hS.2.2⟩ hl
  exact e1
def OI (own : String) (idx : Nat) : Prop := Cond.methodLink own idx Lib.objectInit ∈ lw_ws ∧ Cond.instanceMethod Lib.objectInit ∈ lw_ws ∧ Cond.code Lib.objectInit ⟨#[0xb1]⟩ 1 none ∈ lw_ws
def Rge (F : FT) (d : Nat) : Prop := match F with
  | (p, l, e, R, s, m, args, below, meth, c, Q, b, D, cy) => d ≤ R.frames ∧ 64 * d ≤ R.locals
theorem cat_map (b : Nat) (st : List Value) : ((st.map (shV b)).map fun v => v.category) = st.map fun v => v.category := by
  induction st with
  | nil => rfl
  | cons a t ih => simp only [List.map_cons, ih, shV_cat]
theorem go_obj (h : Fok F cc nL own ret) {idx a d : Nat} (hd : Dc cc pc (.invokespecial idx) 3 pc') (lk : OI own idx) (hR : Rge F d) (h1 : 1 ≤ d) (h8 : (st.map fun v => v.category).sum ≤ 8) (kk : Go F nL M cs sl pc' L st) : Go F nL M cs sl pc L (.ref a :: st) := by
  obtain ⟨p, l, e, R, s, m, args, below, meth, c, Q, b, D, cy⟩ := F
  obtain ⟨hx, hb, hml, hown, hts, hK, hr, hlk, hbs⟩ := h
  obtain ⟨hd, rfl⟩ := hd
  obtain ⟨w1, w2, w3⟩ := lk
  intro H locs ls hH hS hl
  obtain ⟨hR1, hR2⟩ := hR
  have h9 := lv_room (m := m) (pc := pc) (ls := ls) (st := st.map (shV b)) (rest := (.ref (b + a)) :: st.map (shV b)) (by rw [cat_map]; exact h8)
  refine W.objInit hx hb hown (hts _ w1) (hts _ w2) (hts _ w3) (g := F0 m pc ls (.ref (b + a) :: st.map (shV b))) rfl (by rw [hml]; exact hl.1) rfl hd (by omega) ?_ (kk H locs ls hH hS hl)
  show _ ≤ _
  have : 2 * (F0 m pc ls (.ref (b + a) :: st.map (shV b))).monitorRoom + ((st.map (shV b)).map fun v => v.category).sum ≤ 8 := by first | exact h9 | (rw [cat_map]; simpa using h8)
  omega
end HEAP
