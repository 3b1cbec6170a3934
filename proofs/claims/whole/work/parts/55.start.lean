/-! THE CLAIM OUT OF ONE WALK OF THE LAW'S BODY. Your part is whole_start (and what it stands on); all else here is the same for every law, but numbers. -/
def lw_P (b : Addr) (xs : List Int32) (args : Array Value) (s : State) : Prop := args = #[.ref b] ∧ s.IntsAt b xs ∧ xs.length ≤ 2048 ∧ (Jvm.Cond.and given_1 narrow_1).before args s = true
def lw_Q (_ : Array Value) (s : State) (o : Outcome) (t : State) : Prop := o = .returned (some (.int 1)) ∧ Framed s o t [] 600000 7302250
def lw_Z (below : List Frame) (a : Array Value) (s : State) : State → Prop := fun t => ∃ o, t.status = .running ∧ Ended t below o ∧ lw_Q a s o t
/-- the law's own end, with 1 on the stack, nothing written that was there before, its room as the claim has it -/
theorem lw_ret {p : Program} {l : Launch} {e : Env} {s : State} {m : MethodId} {below : List Frame} {meth : Method} {c : Code} {b : Nat} (hx : p.tables.exec = Jvm.exec) (hb : c.code = code) (hr : meth.sig.returnType = ret) (hlocks : meth.locks = false) {pc : Nat} {H : Heap} {ls : Array Slot} (hdg : decode code pc = .ok (.ireturn, 1)) : W p l e room_1 s m #[Value.ref b] below meth c H [] 600000 7302250 (lw_Z below #[Value.ref b] s) (F0 m pc ls [.int 1]) := by
  intro T hT X
  obtain ⟨fs, hret, hrun, hended, hW, hframe⟩ := X.leave (v := some (.int 1)) (hlocks := hlocks) (fun h => by rw [hr] at h; cases h)
  have hmeth' : T.vm.method? m = some meth := X.method'
  refine ⟨T.setFrames fs, ?_, .returned (some (.int 1)), hrun, hended, rfl, ⟨_, rfl⟩, hW, hframe⟩
  jvm_step X.here [X.here.top, hx, hb, hdg, hmeth', hr, ret, narrow_b1]
  (try refine ⟨rfl, ?_⟩); (try refine ⟨rfl, ?_⟩)
  first | (intro acts; rw [hret _ acts rfl rfl rfl]) | rw [hret _ _ rfl rfl rfl]
  exact Steps.refl _
/-- what holds at the law's entry: the machine, the code, the tables' words (any of lw_tbl by 'hts w (by decide +kernel)'), the script of L ints xs at the cell b, what the Statement gives of the start (any of its parts by flat_of_before) -/
def lw_At (p : Program) (s : State) (m : MethodId) (meth : Method) (c : Code) (b L : Nat) (xs : Nat → Int32) : Prop :=
  p.tables.exec = Jvm.exec ∧ c.code = code ∧ meth.sig.returnType = ret ∧ c.maxLocals = 4 ∧ s.vm.findClass R_law = some m.cls ∧ (∀ w ∈ lw_tbl, w.before #[Value.ref b] s = true) ∧ va_X b L xs s s.heap ∧ b < s.heap.size ∧ meth.locks = false ∧ (Jvm.Cond.and given_1 narrow_1).before #[Value.ref b] s = true
/-! what the tables say of the classes and of the two kinds of arrays -/
theorem nw_known {own : String} {idx ci : Nat} {fs : List Value} {s : State} {args : Array Value} (hts : ∀ w ∈ lw_ws, w.before args s = true) (h : NW own idx ci fs) : ∃ (cC : ClassId) (iS : Nat → Nat), ∀ q : vw_C, cl9[ci]? = some q → u_Kn s q.1 q.2.1 q.2.2 cC iS := by
  obtain ⟨C, T, N, Y, hc, hin, hty, w1, w2, w3, hlen, hdf⟩ := h
  obtain ⟨cC, iS, hk⟩ := u_known hts hin (hts _ w2)
  refine ⟨cC, iS, fun q hq => ?_⟩
  have e : q = (C, T, N) := Option.some.inj (hq.symm.trans hc)
  subst e
  exact hk
theorem all_known {s : State} {args : Array Value} (hts : ∀ w ∈ lw_ws, w.before args s = true) : ∃ D : va_G, ∀ (c : Nat) (q : vw_C), cl9[c]? = some q → u_Kn s q.1 q.2.1 q.2.2 (D.1 c) (D.2 c) := by
  have h : ∀ c : Nat, ∃ (cC : ClassId) (iS : Nat → Nat), ∀ q : vw_C, cl9[c]? = some q → u_Kn s q.1 q.2.1 q.2.2 cC iS := by
    intro c
    match c with
    | 0 => exact nw_known hts nwX_48
    | 1 => exact nw_known hts nwX_62
    | 2 => exact nw_known hts nwX_16
    | 3 => exact nw_known hts nwX_39
    | 4 => exact nw_known hts nwX_26
    | 5 => exact nw_known hts nwX_55
    | 6 => exact nw_known hts nwX_9
    | 7 => exact nw_known hts nwL_7
    | 8 => exact nw_known hts nwL_10
    | c + 9 => exact ⟨Classical.choose (nw_known hts nwL_7), fun _ => 0, fun q hq => by simp [cl9] at hq⟩
  exact ⟨(fun c => Classical.choose (h c), fun c => Classical.choose (Classical.choose_spec (h c))), fun c q hq => Classical.choose_spec (Classical.choose_spec (h c)) q hq⟩
theorem arr_known {s : State} {args : Array Value} {ty : FieldType} (h : (Cond.arrayClass ty).before args s = true) (hp : ∀ C, ty ≠ .object C) : ∃ cA : ClassId, ArrOfT s cA ty ∧ va_RA s cA ty := by
  obtain ⟨cA, kA, comp, h1, h2, h3⟩ := Cond.arrayClass_spec h
  refine ⟨cA, fun n z => ⟨fun k h => (by cases h), kA, h2, comp, h3⟩, ?_⟩
  cases ty with
  | object C => exact absurd rfl (hp C)
  | _ => exact h1
theorem all_K {s : State} {args : Array Value} (hts : ∀ w ∈ lw_ws, w.before args s = true) : ∃ (D : va_G) (cy : ClassId × ClassId), va_K D cl9 (tyZ cy) s := by
  obtain ⟨D, hD⟩ := all_known hts
  obtain ⟨c1, h1⟩ := arr_known (hts _ acI) (fun C => by intro e; cases e)
  obtain ⟨c2, h2⟩ := arr_known (hts _ acZ) (fun C => by intro e; cases e)
  refine ⟨D, (c1, c2), hD, fun k q hq => ?_⟩
  match k, hq with
  | 0, hq => cases hq; exact h1
  | 1, hq => cases hq; exact h2
  | k + 2, hq => simp at hq
theorem whole_start {p : Program} {e : Env} {s : State} {m : MethodId} {below : List Frame} {meth : Method} {c : Code} (l : Launch) (hflags : l.flags = flags0) {b L : Nat} {xs : Nat → Int32} (hL : L ≤ 2048) (C0 : lw_At p s m meth c b L xs) : W p l e room_1 s m #[Value.ref b] below meth c s.heap [] 0 0 (lw_Z below #[Value.ref b] s) (entryFrame m ([Value.ref b] : List Value).toArray 4) := by
  obtain ⟨hx, hb, hr, hml, hown, hts, hX, hbl, hlk, hpre⟩ := C0
  have hts : ∀ w ∈ lw_ws, w.before #[Value.ref b] s = true := fun w hw => hts w (List.mem_filter.mp hw).1
  obtain ⟨D, cy, hK⟩ := all_K hts
  have hF : ∃ F : FT, F = (p, l, e, room_1, s, m, #[Value.ref b], below, meth, c, lw_Z below #[Value.ref b] s, s.heap.size, D, cy) := ⟨_, rfl⟩
  obtain ⟨F, hF⟩ := hF
  have h : Fok F code 4 R_law (some .boolean) := by
    subst hF
    exact ⟨hx, hb, hml, hown, hts, hK, hr, hlk, Nat.le_refl _⟩
  have hFX : FX F (l, s.heap.size, D, cy) := by subst hF; rfl
  have hR : Rge F 16 := by subst hF; exact ⟨by decide, by decide⟩
  have hro : Room3 F 106 4251 := by subst hF; exact ⟨by decide, by decide⟩
  have hS : SX F b L xs := by subst hF; exact ⟨hX, hbl, hbl⟩
  have hE : ∀ (M : Mem) (L : List Value), GL F 4 M 106 4251 862 L [.int 1] := by
    intro M L
    subst hF
    intro H locs ls hH hS hl
    refine va_forget (fun q hq => hS.2.2 q hq) (W.widen (k := 600000) (n := 7302250) (by decide) (by decide) ?_)
    exact lw_ret hx hb hr hlk dL_law_862
  have g := law_all h hFX hR hro hS hL hE
  subst hF
  have hl := lv_entry ([Value.ref b]) (n := 4) (by rw [c1_len (vs := [Value.ref b]) rfl]; exact Nat.le_of_ble_eq_true rfl)
  rw [lg_entry_eq]
  generalize (lg_sl [Value.ref b] ++ List.replicate (4 - (lg_sl [Value.ref b]).length) Slot.unset).toArray = ls at hl ⊢
  refine g s.heap [] ls ⟨rfl, fun k c hk => by cases hk⟩ va_S.rf ⟨hl.1, hl.2.1, fun k v hv => ?_⟩
  have h3 := c1_args (i := 0) (vs := [Value.ref b]) rfl k v hv
  rw [Nat.zero_add] at h3
  exact hl.2.2 _ h3
