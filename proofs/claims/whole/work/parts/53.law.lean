/-! the law's own frame: its locals as they are, the script before the base -/
def baF (F : FT) : Nat := match F with
  | (p, l, e, R, s, m, args, below, meth, c, Q, b, D, cy) => b
def LR (ls : Array Slot) (nL : Nat) (L : List Value) : Prop := ls.size = nL ∧ lv_wf ls ∧ ∀ (k : Nat) (v : Value), L[k]? = some v → ls[k]? = some (.val v)
def GL (F : FT) (nL : Nat) (M : Mem) (cs sl pc : Nat) (L st : List Value) : Prop := match F with
  | (p, l, e, R, s, m, args, below, meth, c, Q, b, D, cy) => ∀ (H : Heap) (locs : List Loc) (ls : Array Slot), Hold b D cy M H → va_S (fun q => b ≤ q) s.heap H locs → LR ls nL L → W p l e R s m args below meth c H locs cs sl Q (F0 m pc ls (st.map (shV b)))
def er (L : List Value) : List (Nat × Value) := (List.range L.length).filterMap (fun k => (L[k]?).map (fun v => (k, v)))
theorem er_mem {L : List Value} {k : Nat} {v : Value} (h : L[k]? = some v) : (k, v) ∈ er L := by
  refine List.mem_filterMap.mpr ⟨k, List.mem_range.mpr (List.getElem?_eq_some_iff.mp h).1, ?_⟩
  rw [h]; rfl
theorem LR.has {ls : Array Slot} {nL : Nat} {L : List Value} (h : LR ls nL L) : lv_has ls nL (er L) := by
  refine ⟨h.1, h.2.1, fun q hq => ?_⟩
  obtain ⟨k, hk, hk2⟩ := List.mem_filterMap.mp hq
  cases hL : L[k]? with
  | none => rw [hL] at hk2; cases hk2
  | some v =>
    rw [hL] at hk2
    cases hk2
    exact h.2.2 k v hL
theorem LR.store {ls' : Array Slot} {nL i : Nat} {L L' : List Value} {v : Value} (hL : setL i v L = L') (h : lv_has ls' nL ((i, v) :: (er L).filter (fun q => !(q.1 == i) && !(q.1 + 1 == i && q.2.category == 2)))) (h2 : ∀ (k : Nat) (u : Value), L[k]? = some u → u.category = 1) : LR ls' nL L' := by
  refine ⟨h.1, h.2.1, fun k u hu => ?_⟩
  subst hL
  rcases setL_get i v L k u hu with ⟨rfl, rfl⟩ | ⟨h3, h4⟩
  · exact h.2.2 (k, u) List.mem_cons_self
  · refine h.2.2 (k, u) (List.mem_cons_of_mem _ (List.mem_filter.mpr ⟨er_mem h4, ?_⟩))
    have := h2 k u h4
    simp [h3, this]
theorem c1_raw : ∀ {L : List Value}, c1 L = true → ∀ (k : Nat) (u : Value), L[k]? = some u → u.category = 1
  | [], _, k, u, h => by simp at h
  | v :: t, hc, k, u, h => by
    simp only [c1, Bool.and_eq_true, decide_eq_true_eq] at hc
    match k, h with
    | 0, h => cases h; exact hc.1
    | k + 1, h => exact c1_raw hc.2 k u h
section LAW
variable {F : FT} {cc : ByteArray} {nL : Nat} {own : String} {ret : Option FieldType} {M : Mem} {cs sl pc pc' : Nat} {L st : List Value} {X : XT} {d d' : Nat}
variable {y : MethodName} {bytes : ByteArray} {maxL : Nat} {rt : Option FieldType} {n idx : Nat} {As : List Value} {Post : Option Value → Mem → Prop} {mc ms : Nat}
theorem gl_iconst (h : Fok F cc nL own ret) {n : Int} {v : Int32} (hd : Dc cc pc (.iconst n) 1 pc') (hv : Int32.ofInt n = v) (k : GL F nL M cs sl pc' L (.int v :: st)) : GL F nL M cs sl pc L st := by
  obtain ⟨p, l, e, R, s, m, args, below, meth, c, Q, b, D, cy⟩ := F
  obtain ⟨hx, hb, hml, hown, hts, hK, hr, hlk, hbs⟩ := h
  obtain ⟨hd, rfl⟩ := hd
  intro H locs ls hH hS hl
  exact lv_iconst hx hb hd hv (k H locs ls hH hS hl)
theorem gl_bipush (h : Fok F cc nL own ret) {n : Int} {v : Int32} (hd : Dc cc pc (.bipush n) 2 pc') (hv : (Int8.ofInt n).toInt32 = v) (k : GL F nL M cs sl pc' L (.int v :: st)) : GL F nL M cs sl pc L st := by
  obtain ⟨p, l, e, R, s, m, args, below, meth, c, Q, b, D, cy⟩ := F
  obtain ⟨hx, hb, hml, hown, hts, hK, hr, hlk, hbs⟩ := h
  obtain ⟨hd, rfl⟩ := hd
  intro H locs ls hH hS hl
  exact lv_bipush hx hb hd hv (k H locs ls hH hS hl)
theorem gl_iadd (h : Fok F cc nL own ret) {x y : Int32} (hd : Dc cc pc .iadd 1 pc') (k : GL F nL M cs sl pc' L (.int (x + y) :: st)) : GL F nL M cs sl pc L (.int y :: .int x :: st) := by
  obtain ⟨p, l, e, R, s, m, args, below, meth, c, Q, b, D, cy⟩ := F
  obtain ⟨hx, hb, hml, hown, hts, hK, hr, hlk, hbs⟩ := h
  obtain ⟨hd, rfl⟩ := hd
  intro H locs ls hH hS hl
  exact lv_iadd hx hb hd (k H locs ls hH hS hl)
theorem gl_isub (h : Fok F cc nL own ret) {x y : Int32} (hd : Dc cc pc .isub 1 pc') (k : GL F nL M cs sl pc' L (.int (x - y) :: st)) : GL F nL M cs sl pc L (.int y :: .int x :: st) := by
  obtain ⟨p, l, e, R, s, m, args, below, meth, c, Q, b, D, cy⟩ := F
  obtain ⟨hx, hb, hml, hown, hts, hK, hr, hlk, hbs⟩ := h
  obtain ⟨hd, rfl⟩ := hd
  intro H locs ls hH hS hl
  exact lv_isub hx hb hd (k H locs ls hH hS hl)
theorem gl_iand (h : Fok F cc nL own ret) {x y : Int32} (hd : Dc cc pc .iand 1 pc') (k : GL F nL M cs sl pc' L (.int (x &&& y) :: st)) : GL F nL M cs sl pc L (.int y :: .int x :: st) := by
  obtain ⟨p, l, e, R, s, m, args, below, meth, c, Q, b, D, cy⟩ := F
  obtain ⟨hx, hb, hml, hown, hts, hK, hr, hlk, hbs⟩ := h
  obtain ⟨hd, rfl⟩ := hd
  intro H locs ls hH hS hl
  exact lv_iand hx hb hd (k H locs ls hH hS hl)
theorem gl_lcmp (h : Fok F cc nL own ret) {x y : Int64} (hd : Dc cc pc .lcmp 1 pc') (k : GL F nL M cs sl pc' L (.int (lg_cmp x y) :: st)) : GL F nL M cs sl pc L (.long y :: .long x :: st) := by
  obtain ⟨p, l, e, R, s, m, args, below, meth, c, Q, b, D, cy⟩ := F
  obtain ⟨hx, hb, hml, hown, hts, hK, hr, hlk, hbs⟩ := h
  obtain ⟨hd, rfl⟩ := hd
  intro H locs ls hH hS hl
  exact W.lcmp hx hb hd (k H locs ls hH hS hl)
theorem gl_dup (h : Fok F cc nL own ret) {v : Value} (hd : Dc cc pc .dup 1 pc') (hv : v.category = 1) (k : GL F nL M cs sl pc' L (v :: v :: st)) : GL F nL M cs sl pc L (v :: st) := by
  obtain ⟨p, l, e, R, s, m, args, below, meth, c, Q, b, D, cy⟩ := F
  obtain ⟨hx, hb, hml, hown, hts, hK, hr, hlk, hbs⟩ := h
  obtain ⟨hd, rfl⟩ := hd
  intro H locs ls hH hS hl
  exact lv_dup hx hb hd (by rw [shV_cat]; exact hv) (k H locs ls hH hS hl)
theorem gl_goto (h : Fok F cc nL own ret) {off : Int} {tgt n : Nat} (hd : decode cc pc = .ok (.goto off, 3)) (ht : (pc : Int) + off = (tgt : Int)) (k : GL F nL M cs sl tgt L st) : GL F nL M cs sl pc L st := by
  obtain ⟨p, l, e, R, s, m, args, below, meth, c, Q, b, D, cy⟩ := F
  obtain ⟨hx, hb, hml, hown, hts, hK, hr, hlk, hbs⟩ := h
  intro H locs ls hH hS hl
  exact lv_goto hx hb hd ht (k H locs ls hH hS hl)
theorem gl_icmp_eq (h : Fok F cc nL own ret) {x y : Int32} {off : Int} {tgt : Nat} (hd : decode cc pc = .ok (.if_icmp .eq off, 3)) (ht : (pc : Int) + off = (tgt : Int)) (hp : pc + 3 = pc') (kt : x = y → GL F nL M cs sl tgt L st) (kf : ¬ x = y → GL F nL M cs sl pc' L st) : GL F nL M cs sl pc L (.int y :: .int x :: st) := by
  obtain ⟨p, l, e, R, s, m, args, below, meth, c, Q, b, D, cy⟩ := F
  obtain ⟨hx, hb, hml, hown, hts, hK, hr, hlk, hbs⟩ := h
  subst hp
  intro H locs ls hH hS hl
  exact lv_icmp_eq hx hb hd ht (fun q => kt q H locs ls hH hS hl) (fun q => kf q H locs ls hH hS hl)
theorem gl_icmp_gt (h : Fok F cc nL own ret) {x y : Int32} {off : Int} {tgt : Nat} (hd : decode cc pc = .ok (.if_icmp .gt off, 3)) (ht : (pc : Int) + off = (tgt : Int)) (hp : pc + 3 = pc') (kt : y < x → GL F nL M cs sl tgt L st) (kf : ¬ y < x → GL F nL M cs sl pc' L st) : GL F nL M cs sl pc L (.int y :: .int x :: st) := by
  obtain ⟨p, l, e, R, s, m, args, below, meth, c, Q, b, D, cy⟩ := F
  obtain ⟨hx, hb, hml, hown, hts, hK, hr, hlk, hbs⟩ := h
  subst hp
  intro H locs ls hH hS hl
  exact lv_icmp_gt hx hb hd ht (fun q => kt q H locs ls hH hS hl) (fun q => kf q H locs ls hH hS hl)
theorem gl_if_eq (h : Fok F cc nL own ret) {x : Int32} {off : Int} {tgt : Nat} (hd : decode cc pc = .ok (.ifCond .eq off, 3)) (ht : (pc : Int) + off = (tgt : Int)) (hp : pc + 3 = pc') (kt : x = 0 → GL F nL M cs sl tgt L st) (kf : ¬ x = 0 → GL F nL M cs sl pc' L st) : GL F nL M cs sl pc L (.int x :: st) := by
  obtain ⟨p, l, e, R, s, m, args, below, meth, c, Q, b, D, cy⟩ := F
  obtain ⟨hx, hb, hml, hown, hts, hK, hr, hlk, hbs⟩ := h
  subst hp
  intro H locs ls hH hS hl
  exact lv_if_eq hx hb hd ht (fun q => kt q H locs ls hH hS hl) (fun q => kf q H locs ls hH hS hl)
theorem gl_tabOut (h : Fok F cc nL own ret) {dflt lo hi : Int} {offs : Array Int} {len : Nat} {x : Int32} {tgt : Nat} (hd : decode cc pc = .ok (.tableswitch dflt lo hi offs, len)) (hq : x.toInt < lo ∨ hi < x.toInt) (ht : (pc : Int) + dflt = (tgt : Int)) (k : GL F nL M cs sl tgt L st) : GL F nL M cs sl pc L (.int x :: st) := by
  obtain ⟨p, l, e, R, s, m, args, below, meth, c, Q, b, D, cy⟩ := F
  obtain ⟨hx, hb, hml, hown, hts, hK, hr, hlk, hbs⟩ := h
  intro H locs ls hH hS hl
  exact lv_tableOut hx hb hd hq ht (k H locs ls hH hS hl)
theorem gl_tabIn (h : Fok F cc nL own ret) {dflt lo hi : Int} {offs : Array Int} {len : Nat} {x : Int32} {off : Int} {tgt : Nat} (hd : decode cc pc = .ok (.tableswitch dflt lo hi offs, len)) (h1 : ¬ x.toInt < lo) (h2 : ¬ hi < x.toInt) (ho : offs[(x.toInt - lo).toNat]? = some off) (ht : (pc : Int) + off = (tgt : Int)) (k : GL F nL M cs sl tgt L st) : GL F nL M cs sl pc L (.int x :: st) := by
  obtain ⟨p, l, e, R, s, m, args, below, meth, c, Q, b, D, cy⟩ := F
  obtain ⟨hx, hb, hml, hown, hts, hK, hr, hlk, hbs⟩ := h
  intro H locs ls hH hS hl
  exact lv_tableIn hx hb hd h1 h2 ho ht (k H locs ls hH hS hl)
theorem gl_new (h : Fok F cc nL own ret) {idx ci n a : Nat} {fs : List Value} (hd : Dc cc pc (.new idx) 3 pc') (lk : NW own idx ci fs) (hn : fs.length = n) (hro : Room3 F (cs + 1) (sl + n)) (ha : M.1 = a) (kk : GL F nL (nw M (ob ci fs)) (cs + 1) (sl + n) pc' L (.ref a :: st)) : GL F nL M cs sl pc L st := by
  obtain ⟨p, l, e, R, s, m, args, below, meth, c, Q, b, D, cy⟩ := F
  obtain ⟨hx, hb, hml, hown, hts, hK, hr, hlk, hbs⟩ := h
  obtain ⟨hd, rfl⟩ := hd
  obtain ⟨C, T, N, Y, hc, hin, hty, w1, w2, w3, hlen, hdf⟩ := lk
  subst hn; subst ha; subst hlen
  intro H locs ls hH hS hl
  have hKn := hK.1 ci _ hc
  refine W.newcK hx hb hown (hts _ w1) (hts _ w2) (hts _ w3) rfl hd hro.1 hro.2 hKn.2.1 hH.1 fun H1 kC hkC e1 z1 o1 => ?_
  refine kk H1 locs ls (hH.push (by rw [z1, hH.1]) (fun q hq => o1 q (by rw [← hH.1]; exact hq)) ?_) ⟨Nat.le_trans hS.1 (by rw [z1, hH.1]; omega), fun x h1 h2 => (o1 x (by have := hS.1; rw [hH.1] at this; omega)).trans (hS.2.1 x h1 h2), hS.2.2⟩ hl
  exact ⟨_, hc, (u_born Y hts hin hKn hkC e1 hty).to (fun j hj => hdf j hj b)⟩
theorem run_gl {p : Program} {l : Launch} {e : Env} {R : Room} {s : State} {m : MethodId} {args : Array Value} {below : List Frame} {meth : Method} {c : Code} {Q : State → Prop} {b : Nat} {D : va_G} {cy : ClassId × ClassId} {a : Array Value} {H : Heap} {locs : List Loc} {ls : Array Slot} {st0 : List Value} {st : List Value}
    (hr : va_Run p l e R s m args below meth c H locs cs sl mc ms (F0 m pc ls st0) (st.map (shV b)) (Qct b D cy Post a) (fun q => b ≤ q)) (hbs : b ≤ s.heap.size) (hS : va_S (fun q => b ≤ q) s.heap H locs) (hl : LR ls nL L)
    (kk : ∀ (v : Option Value) (M' : Mem), Post v M' → GL (p, l, e, R, s, m, args, below, meth, c, Q, b, D, cy) nL M' (cs + mc) (sl + ms) (pc + 3) L (v.toList ++ st)) : W p l e R s m args below meth c H locs cs sl Q (F0 m pc ls st0) := by
  intro T hT X
  obtain ⟨v, st₀, t, T', L1, h0, X', hL, e1, e2, ⟨⟨u, M', hv, hp, hh⟩, hz, hk⟩, stp⟩ := hr T hT X
  have hv := Outcome.returned.inj hv
  subst hv
  rw [h0] at hz hk
  have hS' : va_S (fun q => b ≤ q) s.heap T'.heap (locs ++ L1) := ⟨Nat.le_trans hS.1 (by rw [e1]; exact hz), fun q h1 h2 => by rw [e1, hk q (Nat.lt_of_lt_of_le h1 hS.1) h2]; exact hS.2.1 q h1 h2, fun q hq => by
    rcases List.mem_append.mp hq with h | h
    · exact hS.2.2 q h
    · exact hL q h⟩
  obtain ⟨t2, a1, b1⟩ := kk u M' hp T'.heap (locs ++ L1) ls (by rw [e1]; exact hh) hS' hl T' rfl X'
  refine ⟨t2, stp t2 ?_, b1⟩
  have e3 : (u.toList ++ st).map (shV b) = (u.map (shV b)).toList ++ st.map (shV b) := by cases u <;> rfl
  rw [e3] at a1
  exact a1
theorem gl_callV (h : Fok F cc nL own ret) {k ci : Nat} {fs : List Value} {st0 : List Value} (hd : Dc cc pc (.invokevirtual idx) 3 pc') (kv : KV own idx y bytes maxL rt n) (hX : FX F X) (hR : Rge F d) (hro : Room3 F (cs + mc) (sl + ms)) (ct : Ctr X d' y bytes maxL rt (.ref k :: As) M Post mc ms) (hdd : d' + 1 ≤ d) (hg : gt M k = some (ob ci fs)) (hci : ∃ T N, cl9[ci]? = some (y.cls, T, N)) (hn : As.length = n) (h8 : (st.map fun v => v.category).sum ≤ 8) (hst : st0 = As.reverse ++ .ref k :: st) (kk : ∀ (v : Option Value) (M' : Mem), Post v M' → GL F nL M' (cs + mc) (sl + ms) pc' L (v.toList ++ st)) : GL F nL M cs sl pc L st0 := by
  obtain ⟨p, l, e, R, s, m, args, below, meth, c, Q, b, D, cy⟩ := F
  have h9 := h
  obtain ⟨hx, hb, hml, hown, hts, hK, hr, hlk, hbs⟩ := h
  obtain ⟨hd, rfl⟩ := hd
  subst hst
  cases hX
  obtain ⟨hR1, hR2⟩ := hR
  obtain ⟨⟨k1, k2, k3, k4⟩, k5, k6, k7⟩ := kv
  intro H locs ls hH hS hl
  obtain ⟨T, N, hcl⟩ := hci
  refine run_gl (hr := va_runV (As := As.map (shV b)) (rest := st.map (shV b)) (Ts := lw_ws) ⟨hx, hb, hml, hown, hts⟩ ct ⟨(⟨rfl, rfl, by show d' + 1 ≤ _; omega, by show 8 + (maxL + 11) + 64 * d' ≤ _; omega, lw_pays hts k1, List.mem_cons_self, hts _ k1, hts _ k2, ⟨k3.1, k3.2.1⟩, fun sig hsg => by have h2 := k3.2.2; rw [hsg] at h2; exact (Option.some.inj h2).symm, hts _ k5⟩ : CallB R s args own idx y bytes maxL rt _ (rmv d' mc ms) mc ms n), hts _ k6, hts _ k7⟩ ⟨lw_blind, va_recv hK (hH.one hg) hcl (q0 := 0) rfl, fun U hU hW => ⟨by simp [shV], by rw [hU]; exact hH, va_K.moved hW.alike hK⟩⟩ rfl (by rw [List.length_map]; exact hn) hl.1 (by simp [shV]) (lv_room (by rw [cat_map]; exact h8)) hd hro) hbs hS hl kk
theorem gl_callI (h : Fok F cc nL own ret) {k : Nat} {st0 : List Value} (hd : Dc cc pc (.invokespecial idx) 3 pc') (kv : KI own idx y bytes maxL none n) (hX : FX F X) (hR : Rge F d) (hro : Room3 F (cs + mc) (sl + ms)) (ct : Ctr X d' y bytes maxL none (.ref k :: As) M Post mc ms) (hdd : d' + 1 ≤ d) (hn : As.length = n) (h8 : (st.map fun v => v.category).sum ≤ 8) (hst : st0 = As.reverse ++ .ref k :: st) (kk : ∀ (v : Option Value) (M' : Mem), Post v M' → GL F nL M' (cs + mc) (sl + ms) pc' L (v.toList ++ st)) : GL F nL M cs sl pc L st0 := by
  obtain ⟨p, l, e, R, s, m, args, below, meth, c, Q, b, D, cy⟩ := F
  have h9 := h
  obtain ⟨hx, hb, hml, hown, hts, hK, hr, hlk, hbs⟩ := h
  obtain ⟨hd, rfl⟩ := hd
  subst hst
  cases hX
  obtain ⟨hR1, hR2⟩ := hR
  obtain ⟨⟨k1, k2, k3, k4⟩, k5, k6, k7⟩ := kv
  intro H locs ls hH hS hl
  refine run_gl (hr := va_runI (b := b + k) (As := As.map (shV b)) (rest := st.map (shV b)) (Ts := lw_ws) ⟨hx, hb, hml, hown, hts⟩ ct ⟨(⟨rfl, rfl, by show d' + 1 ≤ _; omega, by show 8 + (maxL + 11) + 64 * d' ≤ _; omega, lw_pays hts k1, List.mem_cons_self, hts _ k1, hts _ k2, ⟨k3.1, k3.2.1⟩, fun sig hsg => by have h2 := k3.2.2; rw [hsg] at h2; exact (Option.some.inj h2).symm, hts _ k5⟩ : CallB R s args own idx y bytes maxL none _ (rmv d' mc ms) mc ms n), k6, hts _ k7⟩ ⟨lw_blind, fun U hU hW => ⟨by simp [shV], by rw [hU]; exact hH, va_K.moved hW.alike hK⟩⟩ rfl (by rw [List.length_map]; exact hn) hl.1 (by simp [shV]) (lv_room (by rw [cat_map]; exact h8)) hd hro) hbs hS hl kk
theorem gl_aload_n (h : Fok F cc nL own ret) {i : Fin 4} {x : Nat} (hd : Dc cc pc (.aload_n i) 1 pc') (hi : L[(i : Nat)]? = some (.ref (baF F + x))) (k : GL F nL M cs sl pc' L (.ref x :: st)) : GL F nL M cs sl pc L st := by
  obtain ⟨p, l, e, R, s, m, args, below, meth, c, Q, b, D, cy⟩ := F
  obtain ⟨hx, hb, hml, hown, hts, hK, hr, hlk, hbs⟩ := h
  obtain ⟨hd, rfl⟩ := hd
  intro H locs ls hH hS hl
  exact lv_aload_n hx hb hd rfl (hl.2.2 _ _ hi) (k H locs ls hH hS hl)
theorem gl_iload_n (h : Fok F cc nL own ret) {i : Fin 4} {x : Int32} (hd : Dc cc pc (.iload_n i) 1 pc') (hi : L[(i : Nat)]? = some (.int x)) (k : GL F nL M cs sl pc' L (.int x :: st)) : GL F nL M cs sl pc L st := by
  obtain ⟨p, l, e, R, s, m, args, below, meth, c, Q, b, D, cy⟩ := F
  obtain ⟨hx, hb, hml, hown, hts, hK, hr, hlk, hbs⟩ := h
  obtain ⟨hd, rfl⟩ := hd
  intro H locs ls hH hS hl
  exact lv_iload_n hx hb hd rfl (hl.2.2 _ _ hi) (k H locs ls hH hS hl)
theorem gl_astore_n (h : Fok F cc nL own ret) {i : Fin 4} {x : Nat} {L' : List Value} (hd : Dc cc pc (.astore_n i) 1 pc') (hn : (i : Nat) < nL) (hc : c1 L = true) (hL : setL (i : Nat) (.ref (baF F + x)) L = L') (k : GL F nL M cs sl pc' L' st) : GL F nL M cs sl pc L (.ref x :: st) := by
  obtain ⟨p, l, e, R, s, m, args, below, meth, c, Q, b, D, cy⟩ := F
  obtain ⟨hx, hb, hml, hown, hts, hK, hr, hlk, hbs⟩ := h
  obtain ⟨hd, rfl⟩ := hd
  intro H locs ls hH hS hl
  exact lv_astore_n hx hb hd rfl hl.has hn rfl (fun ls1 h1 => k H locs ls1 hH hS (LR.store (v := .ref (b + x)) hL h1 (c1_raw hc)))
theorem gl_istore_n (h : Fok F cc nL own ret) {i : Fin 4} {x : Int32} {L' : List Value} (hd : Dc cc pc (.istore_n i) 1 pc') (hn : (i : Nat) < nL) (hc : c1 L = true) (hL : setL (i : Nat) (.int x) L = L') (k : GL F nL M cs sl pc' L' st) : GL F nL M cs sl pc L (.int x :: st) := by
  obtain ⟨p, l, e, R, s, m, args, below, meth, c, Q, b, D, cy⟩ := F
  obtain ⟨hx, hb, hml, hown, hts, hK, hr, hlk, hbs⟩ := h
  obtain ⟨hd, rfl⟩ := hd
  intro H locs ls hH hS hl
  exact lv_istore_n hx hb hd rfl hl.has hn rfl (fun ls1 h1 => k H locs ls1 hH hS (LR.store (v := .int x) hL h1 (c1_raw hc)))
theorem gl_iinc (h : Fok F cc nL own ret) {i : Nat} {n : Int} {x v : Int32} {L' : List Value} (hd : Dc cc pc (.iinc i n) 3 pc') (hi : L[i]? = some (.int x)) (hv : x + Int32.ofInt n = v) (hn : i < nL) (hc : c1 L = true) (hL : setL i (.int v) L = L') (k : GL F nL M cs sl pc' L' st) : GL F nL M cs sl pc L st := by
  obtain ⟨p, l, e, R, s, m, args, below, meth, c, Q, b, D, cy⟩ := F
  obtain ⟨hx, hb, hml, hown, hts, hK, hr, hlk, hbs⟩ := h
  obtain ⟨hd, rfl⟩ := hd
  intro H locs ls hH hS hl
  obtain ⟨j, hj⟩ := List.getElem?_of_mem (er_mem hi)
  exact lv_iinc hx hb hd hl.has (k := j) (x := x) hj hv hn rfl (fun ls1 h1 => k H locs ls1 hH hS (LR.store (v := .int v) hL h1 (c1_raw hc)))
/-! the script -/
def SX (F : FT) (sc Ln : Nat) (xs : Nat → Int32) : Prop := match F with
  | (p, l, e, R, s, m, args, below, meth, c, Q, b, D, cy) => va_X sc Ln xs s s.heap ∧ sc < s.heap.size ∧ sc < b
def xI (xs : Nat → Int32) (i : Int) : Int := (xs i.toNat).toInt
theorem xI_bd (xs : Nat → Int32) (i : Int) : -2147483648 ≤ xI xs i ∧ xI xs i ≤ 2147483647 := by
  unfold xI
  have h1 := Int32.le_toInt (xs i.toNat)
  have h2 := Int32.toInt_lt (xs i.toNat)
  omega
theorem xI_at (xs : Nat → Int32) {i : Int} (h : 0 ≤ i ∧ i ≤ 2147483647) : xs (iI i).toNatClampNeg = iI (xI xs i) := by
  unfold xI
  rw [iI_cl h.1 h.2, iI_of]
theorem gl_slen (h : Fok F cc nL own ret) {sc Ln : Nat} {xs : Nat → Int32} (hX : SX F sc Ln xs) {pc1 : Nat} (hd : Dc cc pc (.aload_n 0) 1 pc1) (he : Dc cc pc1 .arraylength 1 pc') (h0 : L[0]? = some (.ref sc)) (k : GL F nL M cs sl pc' L (.int (iI (Ln : Int)) :: st)) : GL F nL M cs sl pc L st := by
  obtain ⟨p, l, e, R, s, m, args, below, meth, c, Q, b, D, cy⟩ := F
  obtain ⟨hx, hb, hml, hown, hts, hK, hr, hlk, hbs⟩ := h
  obtain ⟨hd, rfl⟩ := hd
  obtain ⟨he, rfl⟩ := he
  intro H locs ls hH hS hl
  obtain ⟨x1, x2, x3⟩ := hX
  refine lv_aload_n hx hb hd rfl (hl.2.2 _ _ h0) ?_
  refine va_slen hx hb x1 x2 (show ¬ b ≤ sc by omega) hS he ?_
  rw [iI_nat]
  exact k H locs ls hH hS hl
theorem gl_sld0 (h : Fok F cc nL own ret) {sc Ln : Nat} {xs : Nat → Int32} (hX : SX F sc Ln xs) (hLn : Ln ≤ 2048) {i : Int} {pc1 pc2 : Nat} (hd : Dc cc pc (.aload_n 0) 1 pc1) (h3 : Dc cc pc1 (.iload_n 3) 1 pc2) (he : Dc cc pc2 .iaload 1 pc') (h0 : L[0]? = some (.ref sc)) (hi : L[3]? = some (.int (iI i))) (hin : 0 ≤ i ∧ i < (Ln : Int)) (k : GL F nL M cs sl pc' L (.int (iI (xI xs i)) :: st)) : GL F nL M cs sl pc L st := by
  obtain ⟨p, l, e, R, s, m, args, below, meth, c, Q, b, D, cy⟩ := F
  obtain ⟨hx, hb, hml, hown, hts, hK, hr, hlk, hbs⟩ := h
  obtain ⟨hd, rfl⟩ := hd
  obtain ⟨h3, rfl⟩ := h3
  obtain ⟨he, rfl⟩ := he
  intro H locs ls hH hS hl
  obtain ⟨x1, x2, x3⟩ := hX
  refine lv_aload_n hx hb hd rfl (hl.2.2 _ _ h0) ?_
  refine lv_iload_n hx hb h3 rfl (hl.2.2 _ _ hi) ?_
  refine va_sld hx hb x1 x2 (show ¬ b ≤ sc by omega) hS (iI_in (by omega)) he ?_
  rw [xI_at xs (by omega)]
  exact k H locs ls hH hS hl
theorem gl_sldc (h : Fok F cc nL own ret) {sc Ln : Nat} {xs : Nat → Int32} (hX : SX F sc Ln xs) (hLn : Ln ≤ 2048) {i q : Int} {pc1 pc2 pc3 pc4 : Nat} (hd : Dc cc pc (.aload_n 0) 1 pc1) (h3 : Dc cc pc1 (.iload_n 3) 1 pc2) (hq : Dc cc pc2 (.iconst q) 1 pc3) (ha : Dc cc pc3 .iadd 1 pc4) (he : Dc cc pc4 .iaload 1 pc') (h0 : L[0]? = some (.ref sc)) (hi : L[3]? = some (.int (iI i))) (hin : 0 ≤ i + q ∧ i + q < (Ln : Int)) (k : GL F nL M cs sl pc' L (.int (iI (xI xs (i + q))) :: st)) : GL F nL M cs sl pc L st := by
  obtain ⟨p, l, e, R, s, m, args, below, meth, c, Q, b, D, cy⟩ := F
  obtain ⟨hx, hb, hml, hown, hts, hK, hr, hlk, hbs⟩ := h
  obtain ⟨hd, rfl⟩ := hd
  obtain ⟨h3, rfl⟩ := h3
  obtain ⟨hq, rfl⟩ := hq
  obtain ⟨ha, rfl⟩ := ha
  obtain ⟨he, rfl⟩ := he
  intro H locs ls hH hS hl
  obtain ⟨x1, x2, x3⟩ := hX
  refine lv_aload_n hx hb hd rfl (hl.2.2 _ _ h0) ?_
  refine lv_iload_n hx hb h3 rfl (hl.2.2 _ _ hi) ?_
  refine lv_iconst hx hb hq (v := iI q) rfl ?_
  refine lv_iadd hx hb ha ?_
  rw [iI_add]
  refine va_sld hx hb x1 x2 (show ¬ b ≤ sc by omega) hS (iI_in (by omega)) he ?_
  rw [xI_at xs (by omega)]
  exact k H locs ls hH hS hl
theorem gm_iconst (h : Fok F cc nL own ret) {n : Int} (hd : Dc cc pc (.iconst n) 1 pc') (k : GL F nL M cs sl pc' L (.int (iI n) :: st)) : GL F nL M cs sl pc L st := gl_iconst h hd rfl k
theorem gm_bipush (h : Fok F cc nL own ret) {n : Int} (hd : Dc cc pc (.bipush n) 2 pc') (hv : (Int8.ofInt n).toInt32 = iI n) (k : GL F nL M cs sl pc' L (.int (iI n) :: st)) : GL F nL M cs sl pc L st := gl_bipush h hd hv k
theorem gm_iadd (h : Fok F cc nL own ret) {a b : Int} (hd : Dc cc pc .iadd 1 pc') (k : GL F nL M cs sl pc' L (.int (iI (a + b)) :: st)) : GL F nL M cs sl pc L (.int (iI b) :: .int (iI a) :: st) := gl_iadd h hd (by rw [iI_add]; exact k)
theorem gm_isub (h : Fok F cc nL own ret) {a b : Int} (hd : Dc cc pc .isub 1 pc') (k : GL F nL M cs sl pc' L (.int (iI (a - b)) :: st)) : GL F nL M cs sl pc L (.int (iI b) :: .int (iI a) :: st) := gl_isub h hd (by rw [iI_sub]; exact k)
theorem gm_iand (h : Fok F cc nL own ret) {a b : Int} (c : Int) (hd : Dc cc pc .iand 1 pc') (hv : iI a &&& iI b = iI c) (k : GL F nL M cs sl pc' L (.int (iI c) :: st)) : GL F nL M cs sl pc L (.int (iI b) :: .int (iI a) :: st) := gl_iand h hd (by rw [hv]; exact k)
theorem gm_icmp_eq (h : Fok F cc nL own ret) {a b : Int} {off : Int} {tgt : Nat} (hd : decode cc pc = .ok (.if_icmp .eq off, 3)) (ht : (pc : Int) + off = (tgt : Int)) (hp : pc + 3 = pc') (hq : -2147483648 ≤ a ∧ a ≤ 2147483647 ∧ -2147483648 ≤ b ∧ b ≤ 2147483647) (kt : a = b → GL F nL M cs sl tgt L st) (kf : ¬ a = b → GL F nL M cs sl pc' L st) : GL F nL M cs sl pc L (.int (iI b) :: .int (iI a) :: st) := gl_icmp_eq h hd ht hp (fun q => kt ((iI_eq hq).mp q)) (fun q => kf (fun z => q ((iI_eq hq).mpr z)))
theorem gm_icmp_gt (h : Fok F cc nL own ret) {a b : Int} {off : Int} {tgt : Nat} (hd : decode cc pc = .ok (.if_icmp .gt off, 3)) (ht : (pc : Int) + off = (tgt : Int)) (hp : pc + 3 = pc') (hq : -2147483648 ≤ a ∧ a ≤ 2147483647 ∧ -2147483648 ≤ b ∧ b ≤ 2147483647) (kt : b < a → GL F nL M cs sl tgt L st) (kf : a ≤ b → GL F nL M cs sl pc' L st) : GL F nL M cs sl pc L (.int (iI b) :: .int (iI a) :: st) := gl_icmp_gt h hd ht hp (fun q => kt ((iI_lt (by omega)).mp q)) (fun q => kf (by have := mt (iI_lt (a := b) (b := a) (by omega)).mpr q; omega))
theorem gm_if_eq (h : Fok F cc nL own ret) {a : Int} {off : Int} {tgt : Nat} (hd : decode cc pc = .ok (.ifCond .eq off, 3)) (ht : (pc : Int) + off = (tgt : Int)) (hp : pc + 3 = pc') (hq : -2147483648 ≤ a ∧ a ≤ 2147483647) (kt : a = 0 → GL F nL M cs sl tgt L st) (kf : ¬ a = 0 → GL F nL M cs sl pc' L st) : GL F nL M cs sl pc L (.int (iI a) :: st) := gl_if_eq h hd ht hp (fun q => kt ((iI_eq (b := 0) (by omega)).mp q)) (fun q => kf (fun z => q ((iI_eq (b := 0) (by omega)).mpr z)))
theorem gm_iinc (h : Fok F cc nL own ret) {i : Nat} {n a : Int} {L' : List Value} (hd : Dc cc pc (.iinc i n) 3 pc') (hi : L[i]? = some (.int (iI a))) (hn : i < nL) (hc : c1 L = true) (hL : setL i (.int (iI (a + n))) L = L') (k : GL F nL M cs sl pc' L' st) : GL F nL M cs sl pc L st := gl_iinc h hd hi (iI_add a n) hn hc hL k
theorem gm_tabIn (h : Fok F cc nL own ret) {M : Mem} {dflt lo hi : Int} {offs : Array Int} {len : Nat} (a : Int) {off : Int} {tgt : Nat} (hd : decode cc pc = .ok (.tableswitch dflt lo hi offs, len)) (hq : -2147483648 ≤ a ∧ a ≤ 2147483647) (h1 : lo ≤ a ∧ a ≤ hi) (ho : offs[(a - lo).toNat]? = some off) (ht : (pc : Int) + off = (tgt : Int)) (k : GL F nL M cs sl tgt L st) : GL F nL M cs sl pc L (.int (iI a) :: st) := gl_tabIn h hd (by rw [iI_toInt hq.1 hq.2]; omega) (by rw [iI_toInt hq.1 hq.2]; omega) (by rw [iI_toInt hq.1 hq.2]; exact ho) ht k
theorem gm_tabOut (h : Fok F cc nL own ret) {M : Mem} {dflt lo hi : Int} {offs : Array Int} {len : Nat} {a : Int} {tgt : Nat} (hd : decode cc pc = .ok (.tableswitch dflt lo hi offs, len)) (hq : -2147483648 ≤ a ∧ a ≤ 2147483647) (h1 : a < lo ∨ hi < a) (ht : (pc : Int) + dflt = (tgt : Int)) (k : GL F nL M cs sl tgt L st) : GL F nL M cs sl pc L (.int (iI a) :: st) := gl_tabOut h hd (by rw [iI_toInt hq.1 hq.2]; exact h1) ht k
theorem gm_goto (h : Fok F cc nL own ret) {M : Mem} {off : Int} {tgt : Nat} (hd : decode cc pc = .ok (.goto off, 3)) (ht : (pc : Int) + off = (tgt : Int)) (k : GL F nL M cs sl tgt L st) : GL F nL M cs sl pc L st := gl_goto (n := 0) h hd ht k
theorem gl_mm {M' : Mem} {st' : List Value} (e1 : M = M') (e2 : st = st') (k : GL F nL M' cs sl pc L st') : GL F nL M cs sl pc L st := by subst e1; subst e2; exact k
variable {S : Sg} {st0 : List Value}
theorem gl_callVI (h : Fok F cc nL own ret) (hF : FF F X d cs sl) {P : Int → Sg → Prop} {k ci : Nat} (hd : Dc cc pc (.invokevirtual idx) 3 pc') (kv : KV own idx y bytes maxL rt n) (ct : Ctr X d' y bytes maxL rt (.ref k :: As) (mk S) (PI P) 0 0) (hdd : d' + 1 ≤ d) (hk : kd k = ci) (hc8 : ci ≤ 8) (hci : ∃ T N, cl9[ci]? = some (y.cls, T, N)) (hn : As.length = n) (h8 : (st.map fun v => v.category).sum ≤ 8) (hst : st0 = As.reverse ++ .ref k :: st) (kk : ∀ (r : Int) (S' : Sg), P r S' → GL F nL (mk S') cs sl pc' L (.int (iI r) :: st)) : GL F nL (mk S) cs sl pc L st0 :=
  gl_callV (mc := 0) (ms := 0) h hd kv hF.1 hF.2.1 hF.2.2 ct hdd (gt_ob S hk hc8) hci hn h8 hst (fun v M' hP => by obtain ⟨r, S', rfl, rfl, hP⟩ := hP; exact kk r S' hP)
theorem gl_callVL (h : Fok F cc nL own ret) (hF : FF F X d cs sl) {P : Int64 → Sg → Prop} {k ci : Nat} (hd : Dc cc pc (.invokevirtual idx) 3 pc') (kv : KV own idx y bytes maxL rt n) (ct : Ctr X d' y bytes maxL rt (.ref k :: As) (mk S) (PL P) 0 0) (hdd : d' + 1 ≤ d) (hk : kd k = ci) (hc8 : ci ≤ 8) (hci : ∃ T N, cl9[ci]? = some (y.cls, T, N)) (hn : As.length = n) (h8 : (st.map fun v => v.category).sum ≤ 8) (hst : st0 = As.reverse ++ .ref k :: st) (kk : ∀ (r : Int64) (S' : Sg), P r S' → GL F nL (mk S') cs sl pc' L (.long r :: st)) : GL F nL (mk S) cs sl pc L st0 :=
  gl_callV (mc := 0) (ms := 0) h hd kv hF.1 hF.2.1 hF.2.2 ct hdd (gt_ob S hk hc8) hci hn h8 hst (fun v M' hP => by obtain ⟨r, S', rfl, rfl, hP⟩ := hP; exact kk r S' hP)
end LAW
theorem and31 (a : Int) : ∃ r : Int, (0 ≤ r ∧ r ≤ 31) ∧ iI a &&& iI 31 = iI r := by
  refine ⟨(iI a &&& iI 31).toInt, ?_, (iI_of _).symm⟩
  have h1 : (iI a &&& iI 31).toBitVec.toNat ≤ 31 := by
    show (iI a &&& iI 31).toBitVec.toNat ≤ 31
    rw [Int32.toBitVec_and, BitVec.toNat_and]
    exact Nat.and_le_right
  have h2 : (iI a &&& iI 31).toInt = ((iI a &&& iI 31).toBitVec.toNat : Int) := by
    show (iI a &&& iI 31).toBitVec.toInt = _
    exact BitVec.toInt_eq_toNat_of_lt (by omega)
  omega
theorem cmp_rf (x : Int64) : lg_cmp x x = iI 0 := by
  unfold lg_cmp
  rw [if_neg (show ¬ x > x from Int64.lt_irrefl), if_pos rfl]
  rfl
