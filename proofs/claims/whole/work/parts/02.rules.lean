/-! memories: a memory is how many cells there are, and what each holds, by its number behind the base; references in it are such numbers -/
abbrev Ce : Type := (Nat × List Value) ⊕ (Bool × Nat × (Nat → Int32))
abbrev Mem : Type := Nat × (Nat → Option Ce)
abbrev ob (ci : Nat) (fs : List Value) : Ce := .inl (ci, fs)
abbrev ar (n : Nat) (f : Nat → Int32) : Ce := .inr (false, n, f)
abbrev zr (n : Nat) (f : Nat → Int32) : Ce := .inr (true, n, f)
def gt (M : Mem) (k : Nat) : Option Ce := M.2 k
def up (M : Mem) (k : Nat) (c : Ce) : Mem := (M.1, fun j => if j = k then some c else M.2 j)
def nw (M : Mem) (c : Ce) : Mem := (M.1 + 1, fun j => if j = M.1 then some c else M.2 j)
def shV (b : Nat) (v : Value) : Value := match v with
  | .ref a => .ref (b + a)
  | w => w
def toE (b : Nat) (cy : ClassId × ClassId) (c : Ce) : va_E := match c with
  | .inl o => .inr (o.1, o.2.map (shV b))
  | .inr a => .inl ((if a.1 = true then cy.2 else cy.1), a.2.1, .inl a.2.2)
def Hold (b : Nat) (D : va_G) (cy : ClassId × ClassId) (M : Mem) (H : Heap) : Prop := H.size = b + M.1 ∧ ∀ (k : Nat) (c : Ce), M.2 k = some c → va_at D cl9 (b + k, toE b cy c) H
abbrev tyZ (cy : ClassId × ClassId) : List (ClassId × FieldType) := [(cy.1, .int), (cy.2, .boolean)]
/-- the frame, in one -/
abbrev FT : Type := Program × Launch × Env × Room × State × MethodId × Array Value × List Frame × Method × Code × (State → Prop) × Nat × va_G × (ClassId × ClassId)
def LH (b : Nat) (ls : Array Slot) (nL : Nat) (L : List Value) : Prop := ls.size = nL ∧ lv_wf ls ∧ ∀ (k : Nat) (v : Value), L[k]? = some v → ls[k]? = some (.val (shV b v))
def Go (F : FT) (nL : Nat) (M : Mem) (cs sl pc : Nat) (L st : List Value) : Prop := match F with
  | (p, l, e, R, s, m, args, below, meth, c, Q, b, D, cy) => ∀ (H : Heap) (locs : List Loc) (ls : Array Slot), Hold b D cy M H → va_S (fun q => b ≤ q) s.heap H locs → LH b ls nL L → W p l e R s m args below meth c H locs cs sl Q (F0 m pc ls (st.map (shV b)))
def Fok (F : FT) (cc : ByteArray) (nL : Nat) (own : String) (ret : Option FieldType) : Prop := match F with
  | (p, l, e, R, s, m, args, below, meth, c, Q, b, D, cy) => p.tables.exec = Jvm.exec ∧ c.code = cc ∧ c.maxLocals = nL ∧ s.vm.findClass own = some m.cls ∧ (∀ w ∈ lw_ws, w.before args s = true) ∧ va_K D cl9 (tyZ cy) s ∧ meth.sig.returnType = ret ∧ meth.locks = false ∧ b ≤ s.heap.size
def Dc (cc : ByteArray) (pc : Nat) (i : Instr) (n pc' : Nat) : Prop := decode cc pc = .ok (i, n) ∧ pc + n = pc'
theorem gt_up (M : Mem) (k j : Nat) (c : Ce) : gt (up M k c) j = if j = k then some c else gt M j := rfl
theorem gt_nw (M : Mem) (j : Nat) (c : Ce) : gt (nw M c) j = if j = M.1 then some c else gt M j := rfl
theorem Hold.lt {b : Nat} {D : va_G} {cy : ClassId × ClassId} {M : Mem} {H : Heap} (h : Hold b D cy M H) {k : Nat} {c : Ce} (hk : gt M k = some c) : k < M.1 := by
  have h1 : b + k < H.size := (h.2 k c hk).lt
  have h2 := h.1
  omega
theorem Hold.one {b : Nat} {D : va_G} {cy : ClassId × ClassId} {M : Mem} {H : Heap} (h : Hold b D cy M H) {k : Nat} {c : Ce} (hk : gt M k = some c) : va_P D cl9 [(b + k, toE b cy c)] H := by
  intro i q hq
  match i, hq with
  | 0, hq => cases hq; exact h.2 k c hk
  | i + 1, hq => simp at hq
def setL : Nat → Value → List Value → List Value
  | 0, v, [] => [v]
  | 0, v, _ :: t => v :: t
  | _ + 1, _, [] => []
  | k + 1, v, h :: t => h :: setL k v t
theorem setL_get : ∀ (k : Nat) (v : Value) (L : List Value) (j : Nat) (u : Value), (setL k v L)[j]? = some u → (j = k ∧ u = v) ∨ (j ≠ k ∧ L[j]? = some u)
  | 0, v, [], j, u, h => by
    match j, h with
    | 0, h => cases h; exact Or.inl ⟨rfl, rfl⟩
    | j + 1, h => simp [setL] at h
  | 0, v, a :: t, j, u, h => by
    match j, h with
    | 0, h => cases h; exact Or.inl ⟨rfl, rfl⟩
    | j + 1, h => exact Or.inr ⟨by omega, h⟩
  | k + 1, v, [], j, u, h => by simp [setL] at h
  | k + 1, v, a :: t, j, u, h => by
    match j, h with
    | 0, h => exact Or.inr ⟨by omega, h⟩
    | j + 1, h =>
      rcases setL_get k v t j u h with ⟨h1, h2⟩ | ⟨h1, h2⟩
      · exact Or.inl ⟨by omega, h2⟩
      · exact Or.inr ⟨by omega, h2⟩
def en (b : Nat) (L : List Value) : List (Nat × Value) := (List.range L.length).filterMap (fun k => (L[k]?).map (fun v => (k, shV b v)))
theorem en_mem {b : Nat} {L : List Value} {k : Nat} {v : Value} (h : L[k]? = some v) : (k, shV b v) ∈ en b L := by
  refine List.mem_filterMap.mpr ⟨k, List.mem_range.mpr (List.getElem?_eq_some_iff.mp h).1, ?_⟩
  rw [h]; rfl
theorem LH.has {b : Nat} {ls : Array Slot} {nL : Nat} {L : List Value} (h : LH b ls nL L) : lv_has ls nL (en b L) := by
  refine ⟨h.1, h.2.1, fun q hq => ?_⟩
  obtain ⟨k, hk, hk2⟩ := List.mem_filterMap.mp hq
  cases hL : L[k]? with
  | none => rw [hL] at hk2; cases hk2
  | some v =>
    rw [hL] at hk2
    cases hk2
    exact h.2.2 k v hL
theorem LH.store {b : Nat} {ls' : Array Slot} {nL i : Nat} {L L' : List Value} {v : Value} (hc : v.category = 1) (hL : setL i v L = L') (h : lv_has ls' nL ((i, shV b v) :: (en b L).filter (fun q => !(q.1 == i) && !(q.1 + 1 == i && q.2.category == 2)))) (h2 : ∀ (k : Nat) (u : Value), L[k]? = some u → (shV b u).category = 1) : LH b ls' nL L' := by
  refine ⟨h.1, h.2.1, fun k u hu => ?_⟩
  subst hL
  rcases setL_get i v L k u hu with ⟨rfl, rfl⟩ | ⟨h3, h4⟩
  · exact h.2.2 (k, shV b u) List.mem_cons_self
  · refine h.2.2 (k, shV b u) (List.mem_cons_of_mem _ (List.mem_filter.mpr ⟨en_mem h4, ?_⟩))
    have := h2 k u h4
    simp [h3, this]
def c1 : List Value → Bool
  | [] => true
  | v :: t => decide (v.category = 1) && c1 t
theorem shV_cat (b : Nat) (v : Value) : (shV b v).category = v.category := by cases v <;> rfl
theorem c1_cat {b : Nat} : ∀ {L : List Value}, c1 L = true → ∀ (k : Nat) (u : Value), L[k]? = some u → (shV b u).category = 1
  | [], _, k, u, h => by simp at h
  | v :: t, hc, k, u, h => by
    simp only [c1, Bool.and_eq_true, decide_eq_true_eq] at hc
    match k, h with
    | 0, h => cases h; rw [shV_cat]; exact hc.1
    | k + 1, h => exact c1_cat hc.2 k u h
theorem LH.sub {b : Nat} {ls : Array Slot} {nL : Nat} {L L' : List Value} (h : LH b ls nL L) (hs : L' <+: L) : LH b ls nL L' := by
  refine ⟨h.1, h.2.1, fun k v hv => h.2.2 k v ?_⟩
  obtain ⟨t, rfl⟩ := hs
  rw [List.getElem?_append_left (List.getElem?_eq_some_iff.mp hv).1]
  exact hv
section RULES
variable {F : FT} {cc : ByteArray} {nL : Nat} {own : String} {ret : Option FieldType} {M : Mem} {cs sl pc pc' : Nat} {L st : List Value}
theorem Go.cut (L' : List Value) (n : Nat) (hn : L.take n = L') (k : Go F nL M cs sl pc L' st) : Go F nL M cs sl pc L st := by
  obtain ⟨p, l, e, R, s, m, args, below, meth, c, Q, b, D, cy⟩ := F
  intro H locs ls hH hS hl
  exact k H locs ls hH hS (hl.sub (by rw [← hn]; exact List.take_prefix n L))
theorem go_iconst (h : Fok F cc nL own ret) {n : Int} {v : Int32} (hd : Dc cc pc (.iconst n) 1 pc') (hv : Int32.ofInt n = v) (k : Go F nL M cs sl pc' L (.int v :: st)) : Go F nL M cs sl pc L st := by
  obtain ⟨p, l, e, R, s, m, args, below, meth, c, Q, b, D, cy⟩ := F
  obtain ⟨hx, hb, hml, hown, hts, hK, hr, hlk, hbs⟩ := h
  obtain ⟨hd, rfl⟩ := hd
  intro H locs ls hH hS hl
  exact lv_iconst hx hb hd hv (k H locs ls hH hS hl)
theorem go_bipush (h : Fok F cc nL own ret) {n : Int} {v : Int32} (hd : Dc cc pc (.bipush n) 2 pc') (hv : (Int8.ofInt n).toInt32 = v) (k : Go F nL M cs sl pc' L (.int v :: st)) : Go F nL M cs sl pc L st := by
  obtain ⟨p, l, e, R, s, m, args, below, meth, c, Q, b, D, cy⟩ := F
  obtain ⟨hx, hb, hml, hown, hts, hK, hr, hlk, hbs⟩ := h
  obtain ⟨hd, rfl⟩ := hd
  intro H locs ls hH hS hl
  exact lv_bipush hx hb hd hv (k H locs ls hH hS hl)
theorem go_sipush (h : Fok F cc nL own ret) {n : Int} {v : Int32} (hd : Dc cc pc (.sipush n) 3 pc') (hv : (Int16.ofInt n).toInt32 = v) (k : Go F nL M cs sl pc' L (.int v :: st)) : Go F nL M cs sl pc L st := by
  obtain ⟨p, l, e, R, s, m, args, below, meth, c, Q, b, D, cy⟩ := F
  obtain ⟨hx, hb, hml, hown, hts, hK, hr, hlk, hbs⟩ := h
  obtain ⟨hd, rfl⟩ := hd
  intro H locs ls hH hS hl
  exact lv_sipush hx hb hd hv (k H locs ls hH hS hl)
theorem go_lconst (h : Fok F cc nL own ret) {n : Fin 2} {v : Int64} (hd : Dc cc pc (.lconst n) 1 pc') (hv : Int64.ofNat (n : Nat) = v) (k : Go F nL M cs sl pc' L (.long v :: st)) : Go F nL M cs sl pc L st := by
  obtain ⟨p, l, e, R, s, m, args, below, meth, c, Q, b, D, cy⟩ := F
  obtain ⟨hx, hb, hml, hown, hts, hK, hr, hlk, hbs⟩ := h
  obtain ⟨hd, rfl⟩ := hd
  intro H locs ls hH hS hl
  exact lv_lconst hx hb hd hv (k H locs ls hH hS hl)
theorem go_iload_n (h : Fok F cc nL own ret) {i : Fin 4} {x : Int32} (hd : Dc cc pc (.iload_n i) 1 pc') (hi : L[(i : Nat)]? = some (.int x)) (k : Go F nL M cs sl pc' L (.int x :: st)) : Go F nL M cs sl pc L st := by
  obtain ⟨p, l, e, R, s, m, args, below, meth, c, Q, b, D, cy⟩ := F
  obtain ⟨hx, hb, hml, hown, hts, hK, hr, hlk, hbs⟩ := h
  obtain ⟨hd, rfl⟩ := hd
  intro H locs ls hH hS hl
  exact lv_iload_n hx hb hd rfl (hl.2.2 _ _ hi) (k H locs ls hH hS hl)
theorem go_iload (h : Fok F cc nL own ret) {i : Nat} {x : Int32} (hd : Dc cc pc (.iload i) 2 pc') (hi : L[i]? = some (.int x)) (k : Go F nL M cs sl pc' L (.int x :: st)) : Go F nL M cs sl pc L st := by
  obtain ⟨p, l, e, R, s, m, args, below, meth, c, Q, b, D, cy⟩ := F
  obtain ⟨hx, hb, hml, hown, hts, hK, hr, hlk, hbs⟩ := h
  obtain ⟨hd, rfl⟩ := hd
  intro H locs ls hH hS hl
  exact lv_iload hx hb hd (hl.2.2 _ _ hi) (k H locs ls hH hS hl)
theorem go_aload_n (h : Fok F cc nL own ret) {i : Fin 4} {x : Nat} (hd : Dc cc pc (.aload_n i) 1 pc') (hi : L[(i : Nat)]? = some (.ref x)) (k : Go F nL M cs sl pc' L (.ref x :: st)) : Go F nL M cs sl pc L st := by
  obtain ⟨p, l, e, R, s, m, args, below, meth, c, Q, b, D, cy⟩ := F
  obtain ⟨hx, hb, hml, hown, hts, hK, hr, hlk, hbs⟩ := h
  obtain ⟨hd, rfl⟩ := hd
  intro H locs ls hH hS hl
  exact lv_aload_n hx hb hd rfl (hl.2.2 _ _ hi) (k H locs ls hH hS hl)
theorem go_aload (h : Fok F cc nL own ret) {i : Nat} {x : Nat} (hd : Dc cc pc (.aload i) 2 pc') (hi : L[i]? = some (.ref x)) (k : Go F nL M cs sl pc' L (.ref x :: st)) : Go F nL M cs sl pc L st := by
  obtain ⟨p, l, e, R, s, m, args, below, meth, c, Q, b, D, cy⟩ := F
  obtain ⟨hx, hb, hml, hown, hts, hK, hr, hlk, hbs⟩ := h
  obtain ⟨hd, rfl⟩ := hd
  intro H locs ls hH hS hl
  exact lv_aload hx hb hd (hl.2.2 _ _ hi) (k H locs ls hH hS hl)
theorem go_istore_n (h : Fok F cc nL own ret) {i : Fin 4} {x : Int32} {L' : List Value} (hd : Dc cc pc (.istore_n i) 1 pc') (hn : (i : Nat) < nL) (hc : c1 L = true) (hL : setL (i : Nat) (.int x) L = L') (k : Go F nL M cs sl pc' L' st) : Go F nL M cs sl pc L (.int x :: st) := by
  obtain ⟨p, l, e, R, s, m, args, below, meth, c, Q, b, D, cy⟩ := F
  obtain ⟨hx, hb, hml, hown, hts, hK, hr, hlk, hbs⟩ := h
  obtain ⟨hd, rfl⟩ := hd
  intro H locs ls hH hS hl
  exact lv_istore_n hx hb hd rfl hl.has hn rfl (fun ls1 h1 => k H locs ls1 hH hS (LH.store (v := .int x) rfl hL h1 (c1_cat hc)))
theorem go_istore (h : Fok F cc nL own ret) {i : Nat} {x : Int32} {L' : List Value} (hd : Dc cc pc (.istore i) 2 pc') (hn : i < nL) (hc : c1 L = true) (hL : setL i (.int x) L = L') (k : Go F nL M cs sl pc' L' st) : Go F nL M cs sl pc L (.int x :: st) := by
  obtain ⟨p, l, e, R, s, m, args, below, meth, c, Q, b, D, cy⟩ := F
  obtain ⟨hx, hb, hml, hown, hts, hK, hr, hlk, hbs⟩ := h
  obtain ⟨hd, rfl⟩ := hd
  intro H locs ls hH hS hl
  exact lv_istore hx hb hd hl.has hn rfl (fun ls1 h1 => k H locs ls1 hH hS (LH.store (v := .int x) rfl hL h1 (c1_cat hc)))
theorem go_astore_n (h : Fok F cc nL own ret) {i : Fin 4} {x : Nat} {L' : List Value} (hd : Dc cc pc (.astore_n i) 1 pc') (hn : (i : Nat) < nL) (hc : c1 L = true) (hL : setL (i : Nat) (.ref x) L = L') (k : Go F nL M cs sl pc' L' st) : Go F nL M cs sl pc L (.ref x :: st) := by
  obtain ⟨p, l, e, R, s, m, args, below, meth, c, Q, b, D, cy⟩ := F
  obtain ⟨hx, hb, hml, hown, hts, hK, hr, hlk, hbs⟩ := h
  obtain ⟨hd, rfl⟩ := hd
  intro H locs ls hH hS hl
  exact lv_astore_n hx hb hd rfl hl.has hn rfl (fun ls1 h1 => k H locs ls1 hH hS (LH.store (v := .ref x) rfl hL h1 (c1_cat hc)))
theorem go_astore (h : Fok F cc nL own ret) {i : Nat} {x : Nat} {L' : List Value} (hd : Dc cc pc (.astore i) 2 pc') (hn : i < nL) (hc : c1 L = true) (hL : setL i (.ref x) L = L') (k : Go F nL M cs sl pc' L' st) : Go F nL M cs sl pc L (.ref x :: st) := by
  obtain ⟨p, l, e, R, s, m, args, below, meth, c, Q, b, D, cy⟩ := F
  obtain ⟨hx, hb, hml, hown, hts, hK, hr, hlk, hbs⟩ := h
  obtain ⟨hd, rfl⟩ := hd
  intro H locs ls hH hS hl
  exact lv_astore hx hb hd hl.has hn rfl (fun ls1 h1 => k H locs ls1 hH hS (LH.store (v := .ref x) rfl hL h1 (c1_cat hc)))
theorem go_iinc (h : Fok F cc nL own ret) {i : Nat} {n : Int} {x v : Int32} {L' : List Value} (hd : Dc cc pc (.iinc i n) 3 pc') (hi : L[i]? = some (.int x)) (hv : x + Int32.ofInt n = v) (hn : i < nL) (hc : c1 L = true) (hL : setL i (.int v) L = L') (k : Go F nL M cs sl pc' L' st) : Go F nL M cs sl pc L st := by
  obtain ⟨p, l, e, R, s, m, args, below, meth, c, Q, b, D, cy⟩ := F
  obtain ⟨hx, hb, hml, hown, hts, hK, hr, hlk, hbs⟩ := h
  obtain ⟨hd, rfl⟩ := hd
  intro H locs ls hH hS hl
  obtain ⟨j, hj⟩ := List.getElem?_of_mem (en_mem (b := b) hi)
  exact lv_iinc hx hb hd hl.has (k := j) (x := x) hj hv hn rfl (fun ls1 h1 => k H locs ls1 hH hS (LH.store (v := .int v) rfl hL h1 (c1_cat hc)))
theorem go_iadd (h : Fok F cc nL own ret) {x y : Int32} (hd : Dc cc pc .iadd 1 pc') (k : Go F nL M cs sl pc' L (.int (x + y) :: st)) : Go F nL M cs sl pc L (.int y :: .int x :: st) := by
  obtain ⟨p, l, e, R, s, m, args, below, meth, c, Q, b, D, cy⟩ := F
  obtain ⟨hx, hb, hml, hown, hts, hK, hr, hlk, hbs⟩ := h
  obtain ⟨hd, rfl⟩ := hd
  intro H locs ls hH hS hl
  exact lv_iadd hx hb hd (k H locs ls hH hS hl)
theorem go_isub (h : Fok F cc nL own ret) {x y : Int32} (hd : Dc cc pc .isub 1 pc') (k : Go F nL M cs sl pc' L (.int (x - y) :: st)) : Go F nL M cs sl pc L (.int y :: .int x :: st) := by
  obtain ⟨p, l, e, R, s, m, args, below, meth, c, Q, b, D, cy⟩ := F
  obtain ⟨hx, hb, hml, hown, hts, hK, hr, hlk, hbs⟩ := h
  obtain ⟨hd, rfl⟩ := hd
  intro H locs ls hH hS hl
  exact lv_isub hx hb hd (k H locs ls hH hS hl)
theorem go_imul (h : Fok F cc nL own ret) {x y : Int32} (hd : Dc cc pc .imul 1 pc') (k : Go F nL M cs sl pc' L (.int (x * y) :: st)) : Go F nL M cs sl pc L (.int y :: .int x :: st) := by
  obtain ⟨p, l, e, R, s, m, args, below, meth, c, Q, b, D, cy⟩ := F
  obtain ⟨hx, hb, hml, hown, hts, hK, hr, hlk, hbs⟩ := h
  obtain ⟨hd, rfl⟩ := hd
  intro H locs ls hH hS hl
  exact lv_imul hx hb hd (k H locs ls hH hS hl)
theorem go_iand (h : Fok F cc nL own ret) {x y : Int32} (hd : Dc cc pc .iand 1 pc') (k : Go F nL M cs sl pc' L (.int (x &&& y) :: st)) : Go F nL M cs sl pc L (.int y :: .int x :: st) := by
  obtain ⟨p, l, e, R, s, m, args, below, meth, c, Q, b, D, cy⟩ := F
  obtain ⟨hx, hb, hml, hown, hts, hK, hr, hlk, hbs⟩ := h
  obtain ⟨hd, rfl⟩ := hd
  intro H locs ls hH hS hl
  exact lv_iand hx hb hd (k H locs ls hH hS hl)
theorem go_ior (h : Fok F cc nL own ret) {x y : Int32} (hd : Dc cc pc .ior 1 pc') (k : Go F nL M cs sl pc' L (.int (x ||| y) :: st)) : Go F nL M cs sl pc L (.int y :: .int x :: st) := by
  obtain ⟨p, l, e, R, s, m, args, below, meth, c, Q, b, D, cy⟩ := F
  obtain ⟨hx, hb, hml, hown, hts, hK, hr, hlk, hbs⟩ := h
  obtain ⟨hd, rfl⟩ := hd
  intro H locs ls hH hS hl
  exact lv_ior hx hb hd (k H locs ls hH hS hl)
theorem go_idiv (h : Fok F cc nL own ret) {x y : Int32} (hd : Dc cc pc .idiv 1 pc') (hne : ¬ y = 0) (k : Go F nL M cs sl pc' L (.int (x / y) :: st)) : Go F nL M cs sl pc L (.int y :: .int x :: st) := by
  obtain ⟨p, l, e, R, s, m, args, below, meth, c, Q, b, D, cy⟩ := F
  obtain ⟨hx, hb, hml, hown, hts, hK, hr, hlk, hbs⟩ := h
  obtain ⟨hd, rfl⟩ := hd
  intro H locs ls hH hS hl
  exact lv_idiv hx hb hd hne (k H locs ls hH hS hl)
theorem go_irem (h : Fok F cc nL own ret) {x y : Int32} (hd : Dc cc pc .irem 1 pc') (hne : ¬ y = 0) (k : Go F nL M cs sl pc' L (.int (x - x / y * y) :: st)) : Go F nL M cs sl pc L (.int y :: .int x :: st) := by
  obtain ⟨p, l, e, R, s, m, args, below, meth, c, Q, b, D, cy⟩ := F
  obtain ⟨hx, hb, hml, hown, hts, hK, hr, hlk, hbs⟩ := h
  obtain ⟨hd, rfl⟩ := hd
  intro H locs ls hH hS hl
  exact lv_irem hx hb hd hne (k H locs ls hH hS hl)
theorem go_ishl (h : Fok F cc nL own ret) {x y : Int32} (hd : Dc cc pc .ishl 1 pc') (k : Go F nL M cs sl pc' L (.int (x <<< (y &&& 31)) :: st)) : Go F nL M cs sl pc L (.int y :: .int x :: st) := by
  obtain ⟨p, l, e, R, s, m, args, below, meth, c, Q, b, D, cy⟩ := F
  obtain ⟨hx, hb, hml, hown, hts, hK, hr, hlk, hbs⟩ := h
  obtain ⟨hd, rfl⟩ := hd
  intro H locs ls hH hS hl
  exact lv_ishl hx hb hd (k H locs ls hH hS hl)
theorem go_ishr (h : Fok F cc nL own ret) {x y : Int32} (hd : Dc cc pc .ishr 1 pc') (k : Go F nL M cs sl pc' L (.int (x >>> (y &&& 31)) :: st)) : Go F nL M cs sl pc L (.int y :: .int x :: st) := by
  obtain ⟨p, l, e, R, s, m, args, below, meth, c, Q, b, D, cy⟩ := F
  obtain ⟨hx, hb, hml, hown, hts, hK, hr, hlk, hbs⟩ := h
  obtain ⟨hd, rfl⟩ := hd
  intro H locs ls hH hS hl
  exact lv_ishr hx hb hd (k H locs ls hH hS hl)
theorem go_iushr (h : Fok F cc nL own ret) {x y v : Int32} (hd : Dc cc pc .iushr 1 pc') (hv : (x.toUInt32 >>> (y.toUInt32 &&& Int32.toUInt32 31)).toInt32 = v) (k : Go F nL M cs sl pc' L (.int v :: st)) : Go F nL M cs sl pc L (.int y :: .int x :: st) := by
  obtain ⟨p, l, e, R, s, m, args, below, meth, c, Q, b, D, cy⟩ := F
  obtain ⟨hx, hb, hml, hown, hts, hK, hr, hlk, hbs⟩ := h
  obtain ⟨hd, rfl⟩ := hd
  intro H locs ls hH hS hl
  exact lv_iushr hx hb hd hv (k H locs ls hH hS hl)
theorem go_ineg (h : Fok F cc nL own ret) {x : Int32} (hd : Dc cc pc .ineg 1 pc') (k : Go F nL M cs sl pc' L (.int (-x) :: st)) : Go F nL M cs sl pc L (.int x :: st) := by
  obtain ⟨p, l, e, R, s, m, args, below, meth, c, Q, b, D, cy⟩ := F
  obtain ⟨hx, hb, hml, hown, hts, hK, hr, hlk, hbs⟩ := h
  obtain ⟨hd, rfl⟩ := hd
  intro H locs ls hH hS hl
  exact lv_ineg hx hb hd (k H locs ls hH hS hl)
theorem go_ladd (h : Fok F cc nL own ret) {x y : Int64} (hd : Dc cc pc .ladd 1 pc') (k : Go F nL M cs sl pc' L (.long (x + y) :: st)) : Go F nL M cs sl pc L (.long y :: .long x :: st) := by
  obtain ⟨p, l, e, R, s, m, args, below, meth, c, Q, b, D, cy⟩ := F
  obtain ⟨hx, hb, hml, hown, hts, hK, hr, hlk, hbs⟩ := h
  obtain ⟨hd, rfl⟩ := hd
  intro H locs ls hH hS hl
  exact lv_ladd hx hb hd (k H locs ls hH hS hl)
theorem go_lcmp (h : Fok F cc nL own ret) {x y : Int64} (hd : Dc cc pc .lcmp 1 pc') (k : Go F nL M cs sl pc' L (.int (lg_cmp x y) :: st)) : Go F nL M cs sl pc L (.long y :: .long x :: st) := by
  obtain ⟨p, l, e, R, s, m, args, below, meth, c, Q, b, D, cy⟩ := F
  obtain ⟨hx, hb, hml, hown, hts, hK, hr, hlk, hbs⟩ := h
  obtain ⟨hd, rfl⟩ := hd
  intro H locs ls hH hS hl
  exact W.lcmp hx hb hd (k H locs ls hH hS hl)
theorem go_dup (h : Fok F cc nL own ret) {v : Value} (hd : Dc cc pc .dup 1 pc') (hv : v.category = 1) (k : Go F nL M cs sl pc' L (v :: v :: st)) : Go F nL M cs sl pc L (v :: st) := by
  obtain ⟨p, l, e, R, s, m, args, below, meth, c, Q, b, D, cy⟩ := F
  obtain ⟨hx, hb, hml, hown, hts, hK, hr, hlk, hbs⟩ := h
  obtain ⟨hd, rfl⟩ := hd
  intro H locs ls hH hS hl
  exact lv_dup hx hb hd (by rw [shV_cat]; exact hv) (k H locs ls hH hS hl)
theorem go_pop (h : Fok F cc nL own ret) {v : Value} (hd : Dc cc pc .pop 1 pc') (hv : v.category = 1) (k : Go F nL M cs sl pc' L st) : Go F nL M cs sl pc L (v :: st) := by
  obtain ⟨p, l, e, R, s, m, args, below, meth, c, Q, b, D, cy⟩ := F
  obtain ⟨hx, hb, hml, hown, hts, hK, hr, hlk, hbs⟩ := h
  obtain ⟨hd, rfl⟩ := hd
  intro H locs ls hH hS hl
  exact lv_pop hx hb hd (by rw [shV_cat]; exact hv) (k H locs ls hH hS hl)
theorem go_dup2 (h : Fok F cc nL own ret) {v u : Value} (hd : Dc cc pc .dup2 1 pc') (hv : v.category = 1) (hu : u.category = 1) (k : Go F nL M cs sl pc' L (v :: u :: v :: u :: st)) : Go F nL M cs sl pc L (v :: u :: st) := by
  obtain ⟨p, l, e, R, s, m, args, below, meth, c, Q, b, D, cy⟩ := F
  obtain ⟨hx, hb, hml, hown, hts, hK, hr, hlk, hbs⟩ := h
  obtain ⟨hd, rfl⟩ := hd
  intro H locs ls hH hS hl
  exact lv_dup2_11 hx hb hd (by rw [shV_cat]; exact hv) (by rw [shV_cat]; exact hu) (k H locs ls hH hS hl)
theorem go_ldc (h : Fok F cc nL own ret) {i : Nat} {v : Int32} (hd : Dc cc pc (.ldc i) 2 pc') (hc : Cond.constant own i v ∈ lw_ws) (k : Go F nL M cs sl pc' L (.int v :: st)) : Go F nL M cs sl pc L st := by
  obtain ⟨p, l, e, R, s, m, args, below, meth, c, Q, b, D, cy⟩ := F
  obtain ⟨hx, hb, hml, hown, hts, hK, hr, hlk, hbs⟩ := h
  obtain ⟨hd, rfl⟩ := hd
  intro H locs ls hH hS hl
  exact lv_ldc hx hb hown (hts _ hc) hd (k H locs ls hH hS hl)
theorem go_ldc_w (h : Fok F cc nL own ret) {i : Nat} {v : Int32} (hd : Dc cc pc (.ldc_w i) 3 pc') (hc : Cond.constant own i v ∈ lw_ws) (k : Go F nL M cs sl pc' L (.int v :: st)) : Go F nL M cs sl pc L st := by
  obtain ⟨p, l, e, R, s, m, args, below, meth, c, Q, b, D, cy⟩ := F
  obtain ⟨hx, hb, hml, hown, hts, hK, hr, hlk, hbs⟩ := h
  obtain ⟨hd, rfl⟩ := hd
  intro H locs ls hH hS hl
  exact lv_ldcw hx hb hown (hts _ hc) hd (k H locs ls hH hS hl)
theorem go_ldc2 (h : Fok F cc nL own ret) {i : Nat} {v : Int64} (hd : Dc cc pc (.ldc2_w i) 3 pc') (hc : Cond.constantLong own i v ∈ lw_ws) (k : Go F nL M cs sl pc' L (.long v :: st)) : Go F nL M cs sl pc L st := by
  obtain ⟨p, l, e, R, s, m, args, below, meth, c, Q, b, D, cy⟩ := F
  obtain ⟨hx, hb, hml, hown, hts, hK, hr, hlk, hbs⟩ := h
  obtain ⟨hd, rfl⟩ := hd
  intro H locs ls hH hS hl
  exact lv_ldc2 hx hb hown (hts _ hc) hd (k H locs ls hH hS hl)
theorem go_goto (h : Fok F cc nL own ret) {off : Int} {tgt n : Nat} (hd : decode cc pc = .ok (.goto off, 3)) (ht : (pc : Int) + off = (tgt : Int)) (k : Go F nL M cs sl tgt L st) : Go F nL M cs sl pc L st := by
  obtain ⟨p, l, e, R, s, m, args, below, meth, c, Q, b, D, cy⟩ := F
  obtain ⟨hx, hb, hml, hown, hts, hK, hr, hlk, hbs⟩ := h
  intro H locs ls hH hS hl
  exact lv_goto hx hb hd ht (k H locs ls hH hS hl)
theorem go_icmp_eq (h : Fok F cc nL own ret) {x y : Int32} {off : Int} {tgt : Nat} (hd : decode cc pc = .ok (.if_icmp .eq off, 3)) (ht : (pc : Int) + off = (tgt : Int)) (hp : pc + 3 = pc') (kt : x = y → Go F nL M cs sl tgt L st) (kf : ¬ x = y → Go F nL M cs sl pc' L st) : Go F nL M cs sl pc L (.int y :: .int x :: st) := by
  obtain ⟨p, l, e, R, s, m, args, below, meth, c, Q, b, D, cy⟩ := F
  obtain ⟨hx, hb, hml, hown, hts, hK, hr, hlk, hbs⟩ := h
  subst hp
  intro H locs ls hH hS hl
  exact lv_icmp_eq hx hb hd ht (fun q => kt q H locs ls hH hS hl) (fun q => kf q H locs ls hH hS hl)
theorem go_icmp_ne (h : Fok F cc nL own ret) {x y : Int32} {off : Int} {tgt : Nat} (hd : decode cc pc = .ok (.if_icmp .ne off, 3)) (ht : (pc : Int) + off = (tgt : Int)) (hp : pc + 3 = pc') (kt : ¬ x = y → Go F nL M cs sl tgt L st) (kf : x = y → Go F nL M cs sl pc' L st) : Go F nL M cs sl pc L (.int y :: .int x :: st) := by
  obtain ⟨p, l, e, R, s, m, args, below, meth, c, Q, b, D, cy⟩ := F
  obtain ⟨hx, hb, hml, hown, hts, hK, hr, hlk, hbs⟩ := h
  subst hp
  intro H locs ls hH hS hl
  exact lv_icmp_ne hx hb hd ht (fun q => kt q H locs ls hH hS hl) (fun q => kf q H locs ls hH hS hl)
theorem go_icmp_lt (h : Fok F cc nL own ret) {x y : Int32} {off : Int} {tgt : Nat} (hd : decode cc pc = .ok (.if_icmp .lt off, 3)) (ht : (pc : Int) + off = (tgt : Int)) (hp : pc + 3 = pc') (kt : x < y → Go F nL M cs sl tgt L st) (kf : ¬ x < y → Go F nL M cs sl pc' L st) : Go F nL M cs sl pc L (.int y :: .int x :: st) := by
  obtain ⟨p, l, e, R, s, m, args, below, meth, c, Q, b, D, cy⟩ := F
  obtain ⟨hx, hb, hml, hown, hts, hK, hr, hlk, hbs⟩ := h
  subst hp
  intro H locs ls hH hS hl
  exact lv_icmp_lt hx hb hd ht (fun q => kt q H locs ls hH hS hl) (fun q => kf q H locs ls hH hS hl)
theorem go_icmp_ge (h : Fok F cc nL own ret) {x y : Int32} {off : Int} {tgt : Nat} (hd : decode cc pc = .ok (.if_icmp .ge off, 3)) (ht : (pc : Int) + off = (tgt : Int)) (hp : pc + 3 = pc') (kt : y ≤ x → Go F nL M cs sl tgt L st) (kf : ¬ y ≤ x → Go F nL M cs sl pc' L st) : Go F nL M cs sl pc L (.int y :: .int x :: st) := by
  obtain ⟨p, l, e, R, s, m, args, below, meth, c, Q, b, D, cy⟩ := F
  obtain ⟨hx, hb, hml, hown, hts, hK, hr, hlk, hbs⟩ := h
  subst hp
  intro H locs ls hH hS hl
  exact lv_icmp_ge hx hb hd ht (fun q => kt q H locs ls hH hS hl) (fun q => kf q H locs ls hH hS hl)
theorem go_icmp_gt (h : Fok F cc nL own ret) {x y : Int32} {off : Int} {tgt : Nat} (hd : decode cc pc = .ok (.if_icmp .gt off, 3)) (ht : (pc : Int) + off = (tgt : Int)) (hp : pc + 3 = pc') (kt : y < x → Go F nL M cs sl tgt L st) (kf : ¬ y < x → Go F nL M cs sl pc' L st) : Go F nL M cs sl pc L (.int y :: .int x :: st) := by
  obtain ⟨p, l, e, R, s, m, args, below, meth, c, Q, b, D, cy⟩ := F
  obtain ⟨hx, hb, hml, hown, hts, hK, hr, hlk, hbs⟩ := h
  subst hp
  intro H locs ls hH hS hl
  exact lv_icmp_gt hx hb hd ht (fun q => kt q H locs ls hH hS hl) (fun q => kf q H locs ls hH hS hl)
theorem go_icmp_le (h : Fok F cc nL own ret) {x y : Int32} {off : Int} {tgt : Nat} (hd : decode cc pc = .ok (.if_icmp .le off, 3)) (ht : (pc : Int) + off = (tgt : Int)) (hp : pc + 3 = pc') (kt : x ≤ y → Go F nL M cs sl tgt L st) (kf : ¬ x ≤ y → Go F nL M cs sl pc' L st) : Go F nL M cs sl pc L (.int y :: .int x :: st) := by
  obtain ⟨p, l, e, R, s, m, args, below, meth, c, Q, b, D, cy⟩ := F
  obtain ⟨hx, hb, hml, hown, hts, hK, hr, hlk, hbs⟩ := h
  subst hp
  intro H locs ls hH hS hl
  exact lv_icmp_le hx hb hd ht (fun q => kt q H locs ls hH hS hl) (fun q => kf q H locs ls hH hS hl)
theorem go_if_eq (h : Fok F cc nL own ret) {x : Int32} {off : Int} {tgt : Nat} (hd : decode cc pc = .ok (.ifCond .eq off, 3)) (ht : (pc : Int) + off = (tgt : Int)) (hp : pc + 3 = pc') (kt : x = 0 → Go F nL M cs sl tgt L st) (kf : ¬ x = 0 → Go F nL M cs sl pc' L st) : Go F nL M cs sl pc L (.int x :: st) := by
  obtain ⟨p, l, e, R, s, m, args, below, meth, c, Q, b, D, cy⟩ := F
  obtain ⟨hx, hb, hml, hown, hts, hK, hr, hlk, hbs⟩ := h
  subst hp
  intro H locs ls hH hS hl
  exact lv_if_eq hx hb hd ht (fun q => kt q H locs ls hH hS hl) (fun q => kf q H locs ls hH hS hl)
theorem go_if_ne (h : Fok F cc nL own ret) {x : Int32} {off : Int} {tgt : Nat} (hd : decode cc pc = .ok (.ifCond .ne off, 3)) (ht : (pc : Int) + off = (tgt : Int)) (hp : pc + 3 = pc') (kt : ¬ x = 0 → Go F nL M cs sl tgt L st) (kf : x = 0 → Go F nL M cs sl pc' L st) : Go F nL M cs sl pc L (.int x :: st) := by
  obtain ⟨p, l, e, R, s, m, args, below, meth, c, Q, b, D, cy⟩ := F
  obtain ⟨hx, hb, hml, hown, hts, hK, hr, hlk, hbs⟩ := h
  subst hp
  intro H locs ls hH hS hl
  exact lv_if_ne hx hb hd ht (fun q => kt q H locs ls hH hS hl) (fun q => kf q H locs ls hH hS hl)
theorem go_if_lt (h : Fok F cc nL own ret) {x : Int32} {off : Int} {tgt : Nat} (hd : decode cc pc = .ok (.ifCond .lt off, 3)) (ht : (pc : Int) + off = (tgt : Int)) (hp : pc + 3 = pc') (kt : x < 0 → Go F nL M cs sl tgt L st) (kf : ¬ x < 0 → Go F nL M cs sl pc' L st) : Go F nL M cs sl pc L (.int x :: st) := by
  obtain ⟨p, l, e, R, s, m, args, below, meth, c, Q, b, D, cy⟩ := F
  obtain ⟨hx, hb, hml, hown, hts, hK, hr, hlk, hbs⟩ := h
  subst hp
  intro H locs ls hH hS hl
  exact lv_if_lt hx hb hd ht (fun q => kt q H locs ls hH hS hl) (fun q => kf q H locs ls hH hS hl)
theorem go_if_ge (h : Fok F cc nL own ret) {x : Int32} {off : Int} {tgt : Nat} (hd : decode cc pc = .ok (.ifCond .ge off, 3)) (ht : (pc : Int) + off = (tgt : Int)) (hp : pc + 3 = pc') (kt : 0 ≤ x → Go F nL M cs sl tgt L st) (kf : ¬ 0 ≤ x → Go F nL M cs sl pc' L st) : Go F nL M cs sl pc L (.int x :: st) := by
  obtain ⟨p, l, e, R, s, m, args, below, meth, c, Q, b, D, cy⟩ := F
  obtain ⟨hx, hb, hml, hown, hts, hK, hr, hlk, hbs⟩ := h
  subst hp
  intro H locs ls hH hS hl
  exact lv_if_ge hx hb hd ht (fun q => kt q H locs ls hH hS hl) (fun q => kf q H locs ls hH hS hl)
theorem go_if_gt (h : Fok F cc nL own ret) {x : Int32} {off : Int} {tgt : Nat} (hd : decode cc pc = .ok (.ifCond .gt off, 3)) (ht : (pc : Int) + off = (tgt : Int)) (hp : pc + 3 = pc') (kt : 0 < x → Go F nL M cs sl tgt L st) (kf : ¬ 0 < x → Go F nL M cs sl pc' L st) : Go F nL M cs sl pc L (.int x :: st) := by
  obtain ⟨p, l, e, R, s, m, args, below, meth, c, Q, b, D, cy⟩ := F
  obtain ⟨hx, hb, hml, hown, hts, hK, hr, hlk, hbs⟩ := h
  subst hp
  intro H locs ls hH hS hl
  exact lv_if_gt hx hb hd ht (fun q => kt q H locs ls hH hS hl) (fun q => kf q H locs ls hH hS hl)
theorem go_if_le (h : Fok F cc nL own ret) {x : Int32} {off : Int} {tgt : Nat} (hd : decode cc pc = .ok (.ifCond .le off, 3)) (ht : (pc : Int) + off = (tgt : Int)) (hp : pc + 3 = pc') (kt : x ≤ 0 → Go F nL M cs sl tgt L st) (kf : ¬ x ≤ 0 → Go F nL M cs sl pc' L st) : Go F nL M cs sl pc L (.int x :: st) := by
  obtain ⟨p, l, e, R, s, m, args, below, meth, c, Q, b, D, cy⟩ := F
  obtain ⟨hx, hb, hml, hown, hts, hK, hr, hlk, hbs⟩ := h
  subst hp
  intro H locs ls hH hS hl
  exact lv_if_le hx hb hd ht (fun q => kt q H locs ls hH hS hl) (fun q => kf q H locs ls hH hS hl)
theorem go_tabOut (h : Fok F cc nL own ret) {dflt lo hi : Int} {offs : Array Int} {len : Nat} {x : Int32} {tgt : Nat} (hd : decode cc pc = .ok (.tableswitch dflt lo hi offs, len)) (hq : x.toInt < lo ∨ hi < x.toInt) (ht : (pc : Int) + dflt = (tgt : Int)) (k : Go F nL M cs sl tgt L st) : Go F nL M cs sl pc L (.int x :: st) := by
  obtain ⟨p, l, e, R, s, m, args, below, meth, c, Q, b, D, cy⟩ := F
  obtain ⟨hx, hb, hml, hown, hts, hK, hr, hlk, hbs⟩ := h
  intro H locs ls hH hS hl
  exact lv_tableOut hx hb hd hq ht (k H locs ls hH hS hl)
theorem go_tabIn (h : Fok F cc nL own ret) {dflt lo hi : Int} {offs : Array Int} {len : Nat} {x : Int32} {off : Int} {tgt : Nat} (hd : decode cc pc = .ok (.tableswitch dflt lo hi offs, len)) (h1 : ¬ x.toInt < lo) (h2 : ¬ hi < x.toInt) (ho : offs[(x.toInt - lo).toNat]? = some off) (ht : (pc : Int) + off = (tgt : Int)) (k : Go F nL M cs sl tgt L st) : Go F nL M cs sl pc L (.int x :: st) := by
  obtain ⟨p, l, e, R, s, m, args, below, meth, c, Q, b, D, cy⟩ := F
  obtain ⟨hx, hb, hml, hown, hts, hK, hr, hlk, hbs⟩ := h
  intro H locs ls hH hS hl
  exact lv_tableIn hx hb hd h1 h2 ho ht (k H locs ls hH hS hl)
theorem go_lookup (h : Fok F cc nL own ret) {dflt : Int} {ps : Array (Int × Int)} {len : Nat} {x : Int32} {off : Int} {tgt : Nat} (hd : decode cc pc = .ok (.lookupswitch dflt ps, len)) (hp : (ps.toList.zip (ps.toList.drop 1)).all (fun (a, next) => a.1 < next.1) = true) (ho : Op.lookupswitch.offset ps.toList dflt x.toInt = off) (ht : (pc : Int) + off = (tgt : Int)) (k : Go F nL M cs sl tgt L st) : Go F nL M cs sl pc L (.int x :: st) := by
  obtain ⟨p, l, e, R, s, m, args, below, meth, c, Q, b, D, cy⟩ := F
  obtain ⟨hx, hb, hml, hown, hts, hK, hr, hlk, hbs⟩ := h
  intro H locs ls hH hS hl
  exact lv_lookup hx hb hd hp ho ht (k H locs ls hH hS hl)
end RULES
