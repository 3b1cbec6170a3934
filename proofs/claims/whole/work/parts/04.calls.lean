/-! contracts, calls, ends -/
abbrev XT : Type := Launch × Nat × va_G × (ClassId × ClassId)
def rmv (d mc ms : Nat) : Room := { frames := d, cells := mc, slots := ms, locals := 64 * d }
def Qct (b : Nat) (D : va_G) (cy : ClassId × ClassId) (Post : Option Value → Mem → Prop) : Array Value → State → Outcome → State → Prop := fun _ st oc t => (∃ (v : Option Value) (M' : Mem), oc = .returned (v.map (shV b)) ∧ Post v M' ∧ Hold b D cy M' t.heap) ∧ va_F (fun q => b ≤ q) st t
def Ctr (X : XT) (d : Nat) (y : MethodName) (cc : ByteArray) (nL : Nat) (ret : Option FieldType) (args : List Value) (M : Mem) (Post : Option Value → Mem → Prop) (mc ms : Nat) : Prop := match X with
  | (l, b, D, cy) => Met l y (Cond.code y cc nL ret :: lw_ws) (rmv d mc ms) (va_Pc (args.map (shV b)) (fun U => Hold b D cy M U.heap ∧ va_K D cl9 (tyZ cy) U)) (Qct b D cy Post) mc ms (fun q => b ≤ q)
def FX (F : FT) (X : XT) : Prop := match F with
  | (p, l, e, R, s, m, args, below, meth, c, Q, b, D, cy) => X = (l, b, D, cy)
def Fend (F : FT) (Post : Option Value → Mem → Prop) (mc ms : Nat) : Prop := match F with
  | (p, l, e, R, s, m, args, below, meth, c, Q, b, D, cy) => Q = MQ below (Qct b D cy Post) args s mc ms (fun q => b ≤ q)
theorem c1_args {vs : List Value} : ∀ {i : Nat}, c1 vs = true → ∀ (k : Nat) (v : Value), vs[k]? = some v → (i + k, v) ∈ lv_args i vs := by
  induction vs with
  | nil => intro i _ k v h; simp at h
  | cons a t ih =>
    intro i hc k v h
    simp only [c1, Bool.and_eq_true, decide_eq_true_eq] at hc
    match k, h with
    | 0, h => cases h; exact List.mem_cons_self
    | k + 1, h =>
      have := ih (i := i + 1) hc.2 k v h
      rw [lv_args, if_neg (by rw [hc.1]; decide)]
      refine List.mem_cons_of_mem _ ?_
      rw [show i + (k + 1) = i + 1 + k by omega]
      exact this
theorem c1_map (b : Nat) : ∀ (vs : List Value), c1 (vs.map (shV b)) = c1 vs
  | [] => rfl
  | v :: t => by simp only [List.map_cons, c1, shV_cat, c1_map b t]
theorem c1_len : ∀ {vs : List Value}, c1 vs = true → (lg_sl vs).length = vs.length
  | [], _ => rfl
  | v :: t, h => by
    simp only [c1, Bool.and_eq_true, decide_eq_true_eq] at h
    have := c1_len h.2
    simp only [lg_sl, List.flatMap_cons, List.length_append, List.length_cons] at this ⊢
    rw [if_neg (by rw [h.1]; decide)]
    simp only [List.length_singleton]
    omega
theorem Ctr.of {X : XT} {d : Nat} {y : MethodName} {cc : ByteArray} {nL : Nat} {ret : Option FieldType} {av : List Value} {M : Mem} {Post : Option Value → Mem → Prop} {mc ms : Nat} (hy : plainName y.cls = true) (hc : c1 av = true) (hlen : av.length ≤ nL) (body : ∀ F : FT, Fok F cc nL y.cls ret → FX F X → Rge F d → Room3 F mc ms → Fend F Post mc ms → (y.name = "<init>" → inInit F) → Go F nL M 0 0 0 av []) : Ctr X d y cc nL ret av M Post mc ms := by
  obtain ⟨l, b, D, cy⟩ := X
  refine Met.ofW (cc := cc) (maxL := nL) (ret := ret) hy rfl ?_
  intro p e s m args below meth c s₁ B hml hv
  obtain ⟨rfl, hH, hK⟩ := hv
  have hts := atoms_spec (ws := Cond.code y cc nL ret :: lw_ws) B.pre
  have hown : s.vm.findClass y.cls = some m.cls := findClass_of_methodNamed B.named
  have hc' : c1 (av.map (shV b)) = true := by rw [c1_map]; exact hc
  have hl := lv_entry (av.map (shV b)) (n := nL) (by rw [c1_len hc', List.length_map]; exact hlen)
  rw [lg_entry_eq]
  generalize (lg_sl (av.map (shV b)) ++ List.replicate (nL - (lg_sl (av.map (shV b))).length) Slot.unset).toArray = ls at hl ⊢
  refine body (p, l, e, rmv d mc ms, s, m, (av.map (shV b)).toArray, below, meth, c, _, b, D, cy) ⟨B.exec, B.bytes, hml, hown, fun w hw => hts w (List.mem_cons_of_mem _ hw), hK, B.returns, B.notSynchronized, by rw [hH.1]; exact Nat.le_add_right b M.1⟩ rfl ⟨Nat.le_refl _, Nat.le_refl _⟩ ⟨Nat.le_refl _, Nat.le_refl _⟩ rfl (fun hn => ((name_of_methodNamed B.named B.method).1).trans hn) s.heap [] ls hH va_S.rf ⟨hl.1, hl.2.1, fun k v hv => ?_⟩
  have h2 : (av.map (shV b))[k]? = some (shV b v) := by rw [List.getElem?_map, hv]; rfl
  have h3 := c1_args (i := 0) hc' k _ h2
  rw [Nat.zero_add] at h3
  exact hl.2.2 _ h3
section CALLS
variable {F : FT} {cc : ByteArray} {nL : Nat} {own : String} {ret : Option FieldType} {M : Mem} {cs sl pc pc' : Nat} {L st : List Value} {X : XT} {d d' : Nat}
variable {y : MethodName} {bytes : ByteArray} {maxL : Nat} {rt : Option FieldType} {n idx : Nat} {As : List Value} {Post : Option Value → Mem → Prop} {mc ms : Nat}
def KC (y : MethodName) (bytes : ByteArray) (maxL : Nat) (rt : Option FieldType) (n : Nat) : Prop := Cond.code y bytes maxL rt ∈ lw_ws ∧ Cond.initialized y.cls ∈ lw_ws ∧ (y.cls ≠ "java/lang/invoke/MethodHandle" ∧ y.cls ≠ "java/lang/invoke/VarHandle" ∧ (parseMethodDescriptor y.desc).map (fun d => d.parameters.length) = some n) ∧ maxL ≤ 40
def KV (own : String) (idx : Nat) (y : MethodName) (bytes : ByteArray) (maxL : Nat) (rt : Option FieldType) (n : Nat) : Prop := KC y bytes maxL rt n ∧ Cond.methodLink own idx y ∈ lw_ws ∧ Cond.instanceMethod y ∈ lw_ws ∧ Cond.selects y.cls y y ∈ lw_ws
def KS (own : String) (idx : Nat) (y : MethodName) (bytes : ByteArray) (maxL : Nat) (rt : Option FieldType) (n : Nat) : Prop := KC y bytes maxL rt n ∧ Cond.methodLink own idx y ∈ lw_ws ∧ Cond.static y ∈ lw_ws
def KI (own : String) (idx : Nat) (y : MethodName) (bytes : ByteArray) (maxL : Nat) (rt : Option FieldType) (n : Nat) : Prop := KC y bytes maxL rt n ∧ Cond.methodLink own idx y ∈ lw_ws ∧ y.name = "<init>" ∧ Cond.instanceMethod y ∈ lw_ws
def KSN (own : String) (idx : Nat) (y : MethodName) (bytes : ByteArray) (maxL : Nat) (rt : Option FieldType) (n : Nat) : Prop := KC y bytes maxL rt n ∧ (∃ host, Cond.methodLinkNest own idx y host ∈ lw_ws) ∧ Cond.static y ∈ lw_ws
def KIN (own : String) (idx : Nat) (y : MethodName) (bytes : ByteArray) (maxL : Nat) (rt : Option FieldType) (n : Nat) : Prop := KC y bytes maxL rt n ∧ (∃ host, Cond.methodLinkNest own idx y host ∈ lw_ws) ∧ y.name = "<init>" ∧ Cond.instanceMethod y ∈ lw_ws
theorem lw_pays {s : State} {args : Array Value} (hts : ∀ w ∈ lw_ws, w.before args s = true) {y : MethodName} {bytes : ByteArray} {maxL : Nat} {rt : Option FieldType} (hc : Cond.code y bytes maxL rt ∈ lw_ws) : ∀ w ∈ Cond.code y bytes maxL rt :: lw_ws, ∀ (a' : Array Value) (U : State), s.WarmedH U.vm → w.before a' U = true := by
  intro w hw a' U hW
  have hw2 : w ∈ lw_ws := by
    rcases List.mem_cons.mp hw with rfl | h
    · exact hc
    · exact h
  have hg := (List.mem_filter.mp hw2).2
  have hb := hts w hw2
  unfold gw at hg
  rcases (Bool.or_eq_true _ _).mp hg with h1 | h1
  · exact word_at hW (good_of_word h1) hb
  · cases w <;> first | (simp [isNest] at h1; done) | exact va_Nw.use rfl (va_Nw.warmM hW (va_Nw.of rfl hb))
theorem lw_blind {b : Nat} {D : va_G} {cy : ClassId × ClassId} {M : Mem} {av : List Value} : FrameBlind (va_Pc av (fun U => Hold b D cy M U.heap ∧ va_K D cl9 (tyZ cy) U)) := fun a U g mk q => ⟨q.1, q.2.1, va_K.moved (u := U) (U := U.calling g mk a) (Vm.Alike.refl U.vm) q.2.2⟩
theorem run_go {p : Program} {l : Launch} {e : Env} {R : Room} {s : State} {m : MethodId} {args : Array Value} {below : List Frame} {meth : Method} {c : Code} {Q : State → Prop} {b : Nat} {D : va_G} {cy : ClassId × ClassId} {a : Array Value} {H : Heap} {locs : List Loc} {ls : Array Slot} {st0 : List Value} {st : List Value}
    (hr : va_Run p l e R s m args below meth c H locs cs sl mc ms (F0 m pc ls st0) (st.map (shV b)) (Qct b D cy Post a) (fun q => b ≤ q)) (hbs : b ≤ s.heap.size) (hS : va_S (fun q => b ≤ q) s.heap H locs) (hl : LH b ls nL L)
    (kk : ∀ (v : Option Value) (M' : Mem), Post v M' → Go (p, l, e, R, s, m, args, below, meth, c, Q, b, D, cy) nL M' (cs + mc) (sl + ms) (pc + 3) L (v.toList ++ st)) : W p l e R s m args below meth c H locs cs sl Q (F0 m pc ls st0) := by
  intro T hT X
  obtain ⟨v, st₀, t, T', L1, h0, X', hL, e1, e2, ⟨⟨u, M', hv, hp, hh⟩, hz, hk⟩, stp⟩ := hr T hT X
  have hv := Outcome.returned.inj hv
  subst hv
  rw [h0] at hz hk
  have hS' : va_S (fun q => b ≤ q) s.heap T'.heap (locs ++ L1) := ⟨Nat.le_trans hS.1 (by rw [e1]; exact hz), fun q h1 h2 => by rw [e1, hk q (Nat.lt_of_lt_of_le h1 hS.1) h2]; exact hS.2.1 q h1 h2, fun q hq => by
    rcases List.mem_append.mp hq with h | h
    · exact hS.2.2 q h
    · exact hL q h⟩
  obtain ⟨t2, a1, b1⟩ := kk u M' hp T'.heap (locs ++ L1) ls (by rw [e1]; exact hh) hS' hl T' rfl X'
  refine ⟨t2, stp t2 ?_, b1⟩
  have e3 : (u.toList ++ st).map (shV b) = (u.map (shV b)).toList ++ st.map (shV b) := by cases u <;> rfl
  rw [e3] at a1
  exact a1
theorem go_callV (h : Fok F cc nL own ret) {k ci : Nat} {fs : List Value} {st0 : List Value} (hd : Dc cc pc (.invokevirtual idx) 3 pc') (kv : KV own idx y bytes maxL rt n) (hX : FX F X) (hR : Rge F d) (hro : Room3 F (cs + mc) (sl + ms)) (ct : Ctr X d' y bytes maxL rt (.ref k :: As) M Post mc ms) (hdd : d' + 1 ≤ d) (hg : gt M k = some (ob ci fs)) (hci : ∃ T N, cl9[ci]? = some (y.cls, T, N)) (hn : As.length = n) (h8 : (st.map fun v => v.category).sum ≤ 8) (hst : st0 = As.reverse ++ .ref k :: st) (kk : ∀ (v : Option Value) (M' : Mem), Post v M' → Go F nL M' (cs + mc) (sl + ms) pc' L (v.toList ++ st)) : Go F nL M cs sl pc L st0 := by
  obtain ⟨p, l, e, R, s, m, args, below, meth, c, Q, b, D, cy⟩ := F
  have h9 := h
  obtain ⟨hx, hb, hml, hown, hts, hK, hr, hlk, hbs⟩ := h
  obtain ⟨hd, rfl⟩ := hd
  subst hst
  cases hX
  obtain ⟨hR1, hR2⟩ := hR
  obtain ⟨⟨k1, k2, k3, k4⟩, k5, k6, k7⟩ := kv
  intro H locs ls hH hS hl
  obtain ⟨T, N, hcl⟩ := hci
  refine run_go (hr := va_runV (As := As.map (shV b)) (rest := st.map (shV b)) (Ts := lw_ws) ⟨hx, hb, hml, hown, hts⟩ ct ⟨(⟨rfl, rfl, by show d' + 1 ≤ _; omega, by show 8 + (maxL + 11) + 64 * d' ≤ _; omega, lw_pays hts k1, List.mem_cons_self, hts _ k1, hts _ k2, ⟨k3.1, k3.2.1⟩, fun sig hsg => by have h2 := k3.2.2; rw [hsg] at h2; exact (Option.some.inj h2).symm, hts _ k5⟩ : CallB R s args own idx y bytes maxL rt _ (rmv d' mc ms) mc ms n), hts _ k6, hts _ k7⟩ ⟨lw_blind, va_recv hK (hH.one hg) hcl (q0 := 0) rfl, fun U hU hW => ⟨by simp [shV], by rw [hU]; exact hH, va_K.moved hW.alike hK⟩⟩ rfl (by rw [List.length_map]; exact hn) hl.1 (by simp [shV]) (lv_room (by rw [cat_map]; exact h8)) hd hro) hbs hS hl kk
theorem go_callS (h : Fok F cc nL own ret) {st0 : List Value} (hd : Dc cc pc (.invokestatic idx) 3 pc') (kv : KS own idx y bytes maxL rt n) (hX : FX F X) (hR : Rge F d) (hro : Room3 F (cs + mc) (sl + ms)) (ct : Ctr X d' y bytes maxL rt As M Post mc ms) (hdd : d' + 1 ≤ d) (hn : As.length = n) (h8 : (st.map fun v => v.category).sum ≤ 8) (hst : st0 = As.reverse ++ st) (kk : ∀ (v : Option Value) (M' : Mem), Post v M' → Go F nL M' (cs + mc) (sl + ms) pc' L (v.toList ++ st)) : Go F nL M cs sl pc L st0 := by
  obtain ⟨p, l, e, R, s, m, args, below, meth, c, Q, b, D, cy⟩ := F
  have h9 := h
  obtain ⟨hx, hb, hml, hown, hts, hK, hr, hlk, hbs⟩ := h
  obtain ⟨hd, rfl⟩ := hd
  subst hst
  cases hX
  obtain ⟨hR1, hR2⟩ := hR
  obtain ⟨⟨k1, k2, k3, k4⟩, k5, k6⟩ := kv
  intro H locs ls hH hS hl
  refine run_go (hr := va_runS (As := As.map (shV b)) (rest := st.map (shV b)) (Ts := lw_ws) ⟨hx, hb, hml, hown, hts⟩ ct ⟨(⟨rfl, rfl, by show d' + 1 ≤ _; omega, by show 8 + (maxL + 11) + 64 * d' ≤ _; omega, lw_pays hts k1, List.mem_cons_self, hts _ k1, hts _ k2, ⟨k3.1, k3.2.1⟩, fun sig hsg => by have h2 := k3.2.2; rw [hsg] at h2; exact (Option.some.inj h2).symm, hts _ k5⟩ : CallB R s args own idx y bytes maxL rt _ (rmv d' mc ms) mc ms n), hts _ k6⟩ ⟨lw_blind, fun U hU hW => ⟨by simp [shV], by rw [hU]; exact hH, va_K.moved hW.alike hK⟩⟩ rfl (by rw [List.length_map]; exact hn) hl.1 (by simp [shV]) (lv_room (by rw [cat_map]; exact h8)) hd hro) hbs hS hl kk
theorem go_callI (h : Fok F cc nL own ret) {k : Nat} {st0 : List Value} (hd : Dc cc pc (.invokespecial idx) 3 pc') (kv : KI own idx y bytes maxL none n) (hX : FX F X) (hR : Rge F d) (hro : Room3 F (cs + mc) (sl + ms)) (ct : Ctr X d' y bytes maxL none (.ref k :: As) M Post mc ms) (hdd : d' + 1 ≤ d) (hn : As.length = n) (h8 : (st.map fun v => v.category).sum ≤ 8) (hst : st0 = As.reverse ++ .ref k :: st) (kk : ∀ (v : Option Value) (M' : Mem), Post v M' → Go F nL M' (cs + mc) (sl + ms) pc' L (v.toList ++ st)) : Go F nL M cs sl pc L st0 := by
  obtain ⟨p, l, e, R, s, m, args, below, meth, c, Q, b, D, cy⟩ := F
  have h9 := h
  obtain ⟨hx, hb, hml, hown, hts, hK, hr, hlk, hbs⟩ := h
  obtain ⟨hd, rfl⟩ := hd
  subst hst
  cases hX
  obtain ⟨hR1, hR2⟩ := hR
  obtain ⟨⟨k1, k2, k3, k4⟩, k5, k6, k7⟩ := kv
  intro H locs ls hH hS hl
  refine run_go (hr := va_runI (b := b + k) (As := As.map (shV b)) (rest := st.map (shV b)) (Ts := lw_ws) ⟨hx, hb, hml, hown, hts⟩ ct ⟨(⟨rfl, rfl, by show d' + 1 ≤ _; omega, by show 8 + (maxL + 11) + 64 * d' ≤ _; omega, lw_pays hts k1, List.mem_cons_self, hts _ k1, hts _ k2, ⟨k3.1, k3.2.1⟩, fun sig hsg => by have h2 := k3.2.2; rw [hsg] at h2; exact (Option.some.inj h2).symm, hts _ k5⟩ : CallB R s args own idx y bytes maxL none _ (rmv d' mc ms) mc ms n), k6, hts _ k7⟩ ⟨lw_blind, fun U hU hW => ⟨by simp [shV], by rw [hU]; exact hH, va_K.moved hW.alike hK⟩⟩ rfl (by rw [List.length_map]; exact hn) hl.1 (by simp [shV]) (lv_room (by rw [cat_map]; exact h8)) hd hro) hbs hS hl kk
theorem go_callSN (h : Fok F cc nL own ret) {st0 : List Value} (hd : Dc cc pc (.invokestatic idx) 3 pc') (kv : KSN own idx y bytes maxL rt n) (hX : FX F X) (hR : Rge F d) (hro : Room3 F (cs + mc) (sl + ms)) (ct : Ctr X d' y bytes maxL rt As M Post mc ms) (hdd : d' + 1 ≤ d) (hn : As.length = n) (h8 : (st.map fun v => v.category).sum ≤ 8) (hst : st0 = As.reverse ++ st) (kk : ∀ (v : Option Value) (M' : Mem), Post v M' → Go F nL M' (cs + mc) (sl + ms) pc' L (v.toList ++ st)) : Go F nL M cs sl pc L st0 := by
  obtain ⟨p, l, e, R, s, m, args, below, meth, c, Q, b, D, cy⟩ := F
  have h9 := h
  obtain ⟨hx, hb, hml, hown, hts, hK, hr, hlk, hbs⟩ := h
  obtain ⟨hd, rfl⟩ := hd
  subst hst
  cases hX
  obtain ⟨hR1, hR2⟩ := hR
  obtain ⟨⟨k1, k2, k3, k4⟩, ⟨host, k5⟩, k6⟩ := kv
  intro H locs ls hH hS hl
  refine run_go (hr := va_runSN (As := As.map (shV b)) (rest := st.map (shV b)) (Ts := lw_ws) ⟨hx, hb, hml, hown, hts⟩ ct ⟨(⟨⟨rfl, rfl, by show d' + 1 ≤ _; omega, by show 8 + (maxL + 11) + 64 * d' ≤ _; omega, lw_pays hts k1, List.mem_cons_self⟩, hts _ k1, hts _ k2, ⟨k3.1, k3.2.1⟩, fun sig hsg => by have h2 := k3.2.2; rw [hsg] at h2; exact (Option.some.inj h2).symm, hts _ k5⟩ : va_CN R s args own idx y host bytes maxL rt _ (rmv d' mc ms) mc ms n), hts _ k6, trivial⟩ ⟨lw_blind, fun U hU hW => ⟨by simp [shV], by rw [hU]; exact hH, va_K.moved hW.alike hK⟩⟩ rfl (by rw [List.length_map]; exact hn) hl.1 (by simp [shV]) (lv_room (by rw [cat_map]; exact h8)) hd hro) hbs hS hl kk
theorem go_callIN (h : Fok F cc nL own ret) {k : Nat} {st0 : List Value} (hd : Dc cc pc (.invokespecial idx) 3 pc') (kv : KIN own idx y bytes maxL none n) (hX : FX F X) (hR : Rge F d) (hro : Room3 F (cs + mc) (sl + ms)) (ct : Ctr X d' y bytes maxL none (.ref k :: As) M Post mc ms) (hdd : d' + 1 ≤ d) (hn : As.length = n) (h8 : (st.map fun v => v.category).sum ≤ 8) (hst : st0 = As.reverse ++ .ref k :: st) (kk : ∀ (v : Option Value) (M' : Mem), Post v M' → Go F nL M' (cs + mc) (sl + ms) pc' L (v.toList ++ st)) : Go F nL M cs sl pc L st0 := by
  obtain ⟨p, l, e, R, s, m, args, below, meth, c, Q, b, D, cy⟩ := F
  have h9 := h
  obtain ⟨hx, hb, hml, hown, hts, hK, hr, hlk, hbs⟩ := h
  obtain ⟨hd, rfl⟩ := hd
  subst hst
  cases hX
  obtain ⟨hR1, hR2⟩ := hR
  obtain ⟨⟨k1, k2, k3, k4⟩, ⟨host, k5⟩, k6, k7⟩ := kv
  intro H locs ls hH hS hl
  refine run_go (hr := va_runIN (b := b + k) (As := As.map (shV b)) (rest := st.map (shV b)) (Ts := lw_ws) ⟨hx, hb, hml, hown, hts⟩ ct ⟨(⟨⟨rfl, rfl, by show d' + 1 ≤ _; omega, by show 8 + (maxL + 11) + 64 * d' ≤ _; omega, lw_pays hts k1, List.mem_cons_self⟩, hts _ k1, hts _ k2, ⟨k3.1, k3.2.1⟩, fun sig hsg => by have h2 := k3.2.2; rw [hsg] at h2; exact (Option.some.inj h2).symm, hts _ k5⟩ : va_CN R s args own idx y host bytes maxL none _ (rmv d' mc ms) mc ms n), k6, hts _ k7⟩ ⟨lw_blind, fun U hU hW => ⟨by simp [shV], by rw [hU]; exact hH, va_K.moved hW.alike hK⟩⟩ rfl (by rw [List.length_map]; exact hn) hl.1 (by simp [shV]) (lv_room (by rw [cat_map]; exact h8)) hd hro) hbs hS hl kk
end CALLS
section ENDS
variable {F : FT} {cc : ByteArray} {nL : Nat} {own : String} {M : Mem} {cs sl pc : Nat} {L : List Value} {Post : Option Value → Mem → Prop}
theorem go_iret (h : Fok F cc nL own (some .int)) (hE : Fend F Post cs sl) {v : Int32} (hP : Post (some (.int v)) M) (hd : decode cc pc = .ok (.ireturn, 1)) : Go F nL M cs sl pc L [.int v] := by
  obtain ⟨p, l, e, R, s, m, args, below, meth, c, Q, b, D, cy⟩ := F
  obtain ⟨hx, hb, hml, hown, hts, hK, hr, hlk, hbs⟩ := h
  cases hE
  intro H locs ls hH hS hl
  exact W.iret hx hb hr (fun t ht hW => ⟨⟨some (.int v), M, rfl, hP, by rw [ht]; exact hH⟩, hS.F ht⟩) hS.2.2 hd hlk
theorem go_zret (h : Fok F cc nL own (some .boolean)) (hE : Fend F Post cs sl) {v : Int32} (hv : narrow .boolean (.int v) = .int v) (hP : Post (some (.int v)) M) (hd : decode cc pc = .ok (.ireturn, 1)) : Go F nL M cs sl pc L [.int v] := by
  obtain ⟨p, l, e, R, s, m, args, below, meth, c, Q, b, D, cy⟩ := F
  obtain ⟨hx, hb, hml, hown, hts, hK, hr, hlk, hbs⟩ := h
  cases hE
  intro H locs ls hH hS hl
  exact W.zret hx hb hr hv (fun t ht hW => ⟨⟨some (.int v), M, rfl, hP, by rw [ht]; exact hH⟩, hS.F ht⟩) hS.2.2 hd hlk
theorem go_lret (h : Fok F cc nL own (some .long)) (hE : Fend F Post cs sl) {v : Int64} (hP : Post (some (.long v)) M) (hd : decode cc pc = .ok (.lreturn, 1)) : Go F nL M cs sl pc L [.long v] := by
  obtain ⟨p, l, e, R, s, m, args, below, meth, c, Q, b, D, cy⟩ := F
  obtain ⟨hx, hb, hml, hown, hts, hK, hr, hlk, hbs⟩ := h
  cases hE
  intro H locs ls hH hS hl
  exact W.lret hx hb hr (fun t ht hW => ⟨⟨some (.long v), M, rfl, hP, by rw [ht]; exact hH⟩, hS.F ht⟩) hS.2.2 hd hlk
theorem go_vret (h : Fok F cc nL own none) {mc ms : Nat} (hE : Fend F Post mc ms) (h1 : cs ≤ mc) (h2 : sl ≤ ms) (hP : Post none M) (hd : decode cc pc = .ok (.return_, 1)) : Go F nL M cs sl pc L [] := by
  obtain ⟨p, l, e, R, s, m, args, below, meth, c, Q, b, D, cy⟩ := F
  obtain ⟨hx, hb, hml, hown, hts, hK, hr, hlk, hbs⟩ := h
  cases hE
  intro H locs ls hH hS hl
  refine W.widen (k := mc) (n := ms) h1 h2 ?_
  exact W.vret hx hb hr (fun t ht hW => ⟨⟨none, M, rfl, hP, by rw [ht]; exact hH⟩, hS.F ht⟩) hS.2.2 hd hlk
theorem go_aret {nm : String} (h : Fok F cc nL own (some (.object nm))) {a : Nat} (hE : Fend F Post cs sl) (hP : Post (some (.ref a)) M) (hd : decode cc pc = .ok (.areturn, 1)) : Go F nL M cs sl pc L [.ref a] := by
  obtain ⟨p, l, e, R, s, m, args, below, meth, c, Q, b, D, cy⟩ := F
  obtain ⟨hx, hb, hml, hown, hts, hK, hr, hlk, hbs⟩ := h
  cases hE
  intro H locs ls hH hS hl
  exact W.aret hx hb hr (Or.inl ⟨_, rfl⟩) (Or.inr ⟨_, rfl⟩) (fun t ht hW => ⟨⟨some (.ref a), M, rfl, hP, by rw [ht]; exact hH⟩, hS.F ht⟩) hS.2.2 hd hlk
end ENDS
