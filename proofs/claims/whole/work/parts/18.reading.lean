/-! items one behind another; what measures are off; counting -/
def TI (S : Sg) : Prop := txOk S ∧ Wr S ∧ (-1 ≤ S.1 1 2 ∧ S.1 1 2 ≤ 257) ∧ (S.1 1 5 = 0 ∨ S.1 1 5 = 1) ∧ (S.1 1 6 = 0 ∨ S.1 1 6 = 1)
theorem TI.nx {S : Sg} (h : TI S) : TI (nxS S) := by
  obtain ⟨h1, h2, h3, h4, h5⟩ := h
  have h6 := h1.tok
  refine ⟨h1.nx, h2.nx, ⟨h6.1, h6.2.1⟩, ?_, ?_⟩
  · rw [nxS_hi _ (by decide)]; exact h4
  · rw [nxS_hi _ (by decide)]; exact h5
theorem TI.same {S S' : Sg} (h : TI S) (hW : Wr S') (e1 : S'.1 1 = S.1 1) (e2 : S'.1 2 = S.1 2) (e3 : S'.1 3 = S.1 3) : TI S' := by
  obtain ⟨h1, h2, h3, h4, h5⟩ := h
  refine ⟨h1.same (by rw [e1]) e2 e3, hW, ?_, ?_, ?_⟩ <;> rw [e1] <;> assumption
theorem TI.flag {S : Sg} (h : TI S) {i : Int} (hi : i = 5 ∨ i = 6) : TI (pt S 1 i 1) := by
  obtain ⟨h1, h2, h3, h4, h5⟩ := h
  have e1 : (pt S 1 i 1).1 1 = uF (S.1 1) i 1 := pt_eq _ _ _ _
  refine ⟨h1.same (by rw [e1, uF_ne _ _ (by omega)]) (pt_ne _ _ _ (by decide)) (pt_ne _ _ _ (by decide)), h2.pt (by decide) _ _, ?_, ?_, ?_⟩
  · rw [e1, uF_ne _ _ (by omega)]; exact h3
  · rw [e1]
    rcases hi with rfl | rfl
    · rw [uF_eq]; exact Or.inr rfl
    · rw [uF_ne _ _ (by decide)]; exact h4
  · rw [e1]
    rcases hi with rfl | rfl
    · rw [uF_ne _ _ (by decide)]; exact h5
    · rw [uF_eq]; exact Or.inr rfl
theorem TI.st {S : Sg} (h : TI S) {p : Nat} (hp : p = 4 ∨ p = 17) : TI (stR S p).2 := by
  unfold stR
  split
  · exact h.nx
  · split
    · exact h.nx.nx
    · split
      · exact h.nx.nx.nx
      · exact (TI.same h.nx.nx.nx (h.nx.nx.nx.2.1.addS (kd_p hp) _ _ _) (padd_ne _ _ _ _ _ (by omega)) (padd_ne _ _ _ _ _ (by omega)) (padd_ne _ _ _ _ _ (by omega))).nx
theorem TI.tr {S : Sg} (h : TI S) {p : Nat} (hp : p = 4 ∨ p = 17) : TI (trR S p).2 := by
  unfold trR
  split
  · exact h.nx
  · exact (TI.same h.nx (h.nx.2.1.push (plan_ok (kd_p hp)).2.2.2.2.2.1 _) (rpush_ne _ _ (by omega) (by omega)) (rpush_ne _ _ (by omega) (by omega)) (rpush_ne _ _ (by omega) (by omega))).nx
theorem TI.re {S : Sg} (h : TI S) {p : Nat} (hp : p = 4 ∨ p = 17) : TI (reR S p).2 := by
  unfold reR
  split
  · exact h.nx
  · exact ((TI.same h.nx (h.nx.2.1.pt (by rw [kd_p hp]; decide) _ _) (pt_ne _ _ _ (by omega)) (pt_ne _ _ _ (by omega)) (pt_ne _ _ _ (by omega))).flag (Or.inl rfl)).nx
theorem TI.bo {S : Sg} (h : TI S) {p : Nat} (hp : p = 4 ∨ p = 17) : TI (boR S p).2 := by
  unfold boR
  split
  · exact h.nx
  · exact ((TI.same h.nx (h.nx.2.1.pt (by rw [kd_p hp]; decide) _ _) (pt_ne _ _ _ (by omega)) (pt_ne _ _ _ (by omega)) (pt_ne _ _ _ (by omega))).flag (Or.inr rfl)).nx
def itR (S : Sg) (p : Nat) : Int × Sg := if S.1 1 2 = 115 then (if S.1 (p + 1) 1 < 5 then stR S p else (0, S)) else if S.1 1 2 = 116 then (if S.1 (p + 11) 1 < 4 then trR S p else (0, S)) else if S.1 1 2 = 114 then (if S.1 1 5 = 0 then reR S p else (0, S)) else if S.1 1 2 = 98 then (if S.1 1 6 = 0 then boR S p else (0, S)) else (0, S)
theorem TI.it {S : Sg} (h : TI S) {p : Nat} (hp : p = 4 ∨ p = 17) : TI (itR S p).2 := by
  unfold itR
  split
  · split
    · exact h.st hp
    · exact h
  · split
    · split
      · exact h.tr hp
      · exact h
    · split
      · split
        · exact h.re hp
        · exact h
      · split
        · split
          · exact h.bo hp
          · exact h
        · exact h
theorem r01 (S : Sg) (p : Nat) : ((stR S p).1 = 0 ∨ (stR S p).1 = 1) ∧ ((trR S p).1 = 0 ∨ (trR S p).1 = 1) ∧ ((reR S p).1 = 0 ∨ (reR S p).1 = 1) ∧ ((boR S p).1 = 0 ∨ (boR S p).1 = 1) := by
  refine ⟨?_, ?_, ?_, ?_⟩
  · unfold stR; split
    · exact Or.inl rfl
    · split
      · exact Or.inl rfl
      · split
        · exact Or.inl rfl
        · show (if _ then (1 : Int) else 0) = 0 ∨ (if _ then (1 : Int) else 0) = 1
          split <;> simp
  · unfold trR; split
    · exact Or.inl rfl
    · show (if _ then (1 : Int) else 0) = 0 ∨ (if _ then (1 : Int) else 0) = 1
      split <;> simp
  · unfold reR; split
    · exact Or.inl rfl
    · show (if _ then (1 : Int) else 0) = 0 ∨ (if _ then (1 : Int) else 0) = 1
      split <;> simp
  · unfold boR; split
    · exact Or.inl rfl
    · show (if _ then (1 : Int) else 0) = 0 ∨ (if _ then (1 : Int) else 0) = 1
      split <;> simp
theorem it01 (S : Sg) (p : Nat) : (itR S p).1 = 0 ∨ (itR S p).1 = 1 := by
  obtain ⟨h1, h2, h3, h4⟩ := r01 S p
  unfold itR
  split
  · split
    · exact h1
    · exact Or.inl rfl
  · split
    · split
      · exact h2
      · exact Or.inl rfl
    · split
      · split
        · exact h3
        · exact Or.inl rfl
      · split
        · split
          · exact h4
          · exact Or.inl rfl
        · exact Or.inl rfl
set_option maxRecDepth 4000 in
theorem cT_item (X : XT) {S : Sg} {p : Nat} (hp : p = 4 ∨ p = 17) (ht : TI S) : Ctr X 4 yT_readItem bT_readItem 2 (some .boolean) [.ref 1, .ref p] (mk S) (PI (fun r S' => r = (itR S p).1 ∧ S' = (itR S p).2)) 0 0 := by
  refine Ctr.ofS (by decide) rfl (Nat.le_of_ble_eq_true rfl) (fun F h hF hE => ?_)
  have hk := kd_p hp
  obtain ⟨k1, k3, k5, k7, k9, k11, l2, l4, l6, l8, l10, l12⟩ := plan_ok hk
  obtain ⟨g1, g2, g3, g4⟩ := r01 S p
  obtain ⟨t1, hW, t3, t4, t5⟩ := id ht
  refine go_aload_n (pc' := 1) h ⟨dT_readItem_0, rfl⟩ rfl ?_
  refine gs_get (v := .int (iI (S.1 1 2))) (pc' := 4) h ⟨dT_readItem_1, rfl⟩ fgT_39 rfl (by decide) (rfl) ?_
  rcases (show (S.1 1 2) = 98 ∨ (S.1 1 2) = 114 ∨ (S.1 1 2) = 115 ∨ (S.1 1 2) = 116 ∨ ¬ ((S.1 1 2) = 98 ∨ (S.1 1 2) = 114 ∨ (S.1 1 2) = 115 ∨ (S.1 1 2) = 116) by omega) with c4 | c4 | c4 | c4 | c4
  · rw [c4]
    refine gi_lookup (tgt := 117) (a := 98) (off := 113) h dT_readItem_4 (by decide) (by decide) rfl rfl ?_
    refine go_aload_n (pc' := 118) h ⟨dT_readItem_117, rfl⟩ rfl ?_
    refine gs_get (v := .int (iI (S.1 1 6))) (pc' := 121) h ⟨dT_readItem_118, rfl⟩ fgT_33 rfl (by decide) (rfl) ?_
    refine gi_if_ne (tgt := 136) (pc' := 124) h dT_readItem_121 rfl rfl (by omega) (fun c121 => ?_) (fun c121 => ?_)
    · refine gi_iconst (pc' := 137) h ⟨dT_readItem_136, rfl⟩ ?_
      exact gs_zret h hE dT_readItem_137 (by omega) (by unfold itR; rw [if_neg (by omega), if_neg (by omega), if_neg (by omega), if_pos c4, if_neg (by omega)]; exact ⟨rfl, rfl⟩)
    · refine go_aload_n (pc' := 125) h ⟨dT_readItem_124, rfl⟩ rfl ?_
      refine go_aload_n (pc' := 126) h ⟨dT_readItem_125, rfl⟩ rfl ?_
      refine gd_callVI (e := (boR S p).1) (E := (boR S p).2) (pc' := 129) (As := [.ref p]) (st := []) h hF ⟨dT_readItem_126, rfl⟩ kvT_68 (cT_boy X hp ht.1 ht.2.1) (by omega) rfl (by decide) ⟨_, _, rfl⟩ rfl (Nat.le_of_ble_eq_true rfl) rfl ?_
      refine gi_if_eq (tgt := 136) (pc' := 132) h dT_readItem_129 rfl rfl (by omega) (fun c129 => ?_) (fun c129 => ?_)
      · refine gi_iconst (pc' := 137) h ⟨dT_readItem_136, rfl⟩ ?_
        exact gs_zret h hE dT_readItem_137 (by omega) (by unfold itR; rw [if_neg (by omega), if_neg (by omega), if_neg (by omega), if_pos c4, if_pos (by omega)]; exact ⟨by omega, rfl⟩)
      · refine gi_iconst (pc' := 133) h ⟨dT_readItem_132, rfl⟩ ?_
        refine gi_goto (tgt := 137) h dT_readItem_133 rfl ?_
        exact gs_zret h hE dT_readItem_137 (by omega) (by unfold itR; rw [if_neg (by omega), if_neg (by omega), if_neg (by omega), if_pos c4, if_pos (by omega)]; exact ⟨by omega, rfl⟩)
  · rw [c4]
    refine gi_lookup (tgt := 96) (a := 114) (off := 92) h dT_readItem_4 (by decide) (by decide) rfl rfl ?_
    refine go_aload_n (pc' := 97) h ⟨dT_readItem_96, rfl⟩ rfl ?_
    refine gs_get (v := .int (iI (S.1 1 5))) (pc' := 100) h ⟨dT_readItem_97, rfl⟩ fgT_29 rfl (by decide) (rfl) ?_
    refine gi_if_ne (tgt := 115) (pc' := 103) h dT_readItem_100 rfl rfl (by omega) (fun c100 => ?_) (fun c100 => ?_)
    · refine gi_iconst (pc' := 116) h ⟨dT_readItem_115, rfl⟩ ?_
      exact gs_zret h hE dT_readItem_116 (by omega) (by unfold itR; rw [if_neg (by omega), if_neg (by omega), if_pos c4, if_neg (by omega)]; exact ⟨rfl, rfl⟩)
    · refine go_aload_n (pc' := 104) h ⟨dT_readItem_103, rfl⟩ rfl ?_
      refine go_aload_n (pc' := 105) h ⟨dT_readItem_104, rfl⟩ rfl ?_
      refine gd_callVI (e := (reR S p).1) (E := (reR S p).2) (pc' := 108) (As := [.ref p]) (st := []) h hF ⟨dT_readItem_105, rfl⟩ kvT_65 (cT_rea X hp ht.1 ht.2.1) (by omega) rfl (by decide) ⟨_, _, rfl⟩ rfl (Nat.le_of_ble_eq_true rfl) rfl ?_
      refine gi_if_eq (tgt := 115) (pc' := 111) h dT_readItem_108 rfl rfl (by omega) (fun c108 => ?_) (fun c108 => ?_)
      · refine gi_iconst (pc' := 116) h ⟨dT_readItem_115, rfl⟩ ?_
        exact gs_zret h hE dT_readItem_116 (by omega) (by unfold itR; rw [if_neg (by omega), if_neg (by omega), if_pos c4, if_pos (by omega)]; exact ⟨by omega, rfl⟩)
      · refine gi_iconst (pc' := 112) h ⟨dT_readItem_111, rfl⟩ ?_
        refine gi_goto (tgt := 116) h dT_readItem_112 rfl ?_
        exact gs_zret h hE dT_readItem_116 (by omega) (by unfold itR; rw [if_neg (by omega), if_neg (by omega), if_pos c4, if_pos (by omega)]; exact ⟨by omega, rfl⟩)
  · rw [c4]
    refine gi_lookup (tgt := 48) (a := 115) (off := 44) h dT_readItem_4 (by decide) (by decide) rfl rfl ?_
    refine go_aload_n (pc' := 49) h ⟨dT_readItem_48, rfl⟩ rfl ?_
    refine gs_get (v := .ref (p + 1)) (pc' := 52) h ⟨dT_readItem_49, rfl⟩ fgT_49 hk (by decide) (rfl) ?_
    refine gd_callVI (e := if (5 : Int) ≤ S.1 (p + 1) 1 then 1 else 0) (E := S) (pc' := 55) (As := []) (st := []) h hF ⟨dT_readItem_52, rfl⟩ kvT_52 (by have h0 := cR_isFull X (S := S) k1 (hW (p + 1) k1); rw [show ln (p + 1 + 1) = 5 from l2] at h0; exact h0) (by omega) k1 (by decide) ⟨_, _, rfl⟩ rfl (Nat.le_of_ble_eq_true rfl) rfl ?_
    refine gi_if_ne (tgt := 70) (pc' := 58) h dT_readItem_55 rfl rfl (by split <;> omega) (fun c55 => ?_) (fun c55 => ?_)
    · have c55 := b1 c55
      refine gi_iconst (pc' := 71) h ⟨dT_readItem_70, rfl⟩ ?_
      exact gs_zret h hE dT_readItem_71 (by omega) (by unfold itR; rw [if_pos c4, if_neg (by omega)]; exact ⟨rfl, rfl⟩)
    · have c55 := b0 c55
      refine go_aload_n (pc' := 59) h ⟨dT_readItem_58, rfl⟩ rfl ?_
      refine go_aload_n (pc' := 60) h ⟨dT_readItem_59, rfl⟩ rfl ?_
      refine gd_callVI (e := (stR S p).1) (E := (stR S p).2) (pc' := 63) (As := [.ref p]) (st := []) h hF ⟨dT_readItem_60, rfl⟩ kvT_56 (cT_str X hp ht.1 ht.2.1) (by omega) rfl (by decide) ⟨_, _, rfl⟩ rfl (Nat.le_of_ble_eq_true rfl) rfl ?_
      refine gi_if_eq (tgt := 70) (pc' := 66) h dT_readItem_63 rfl rfl (by omega) (fun c63 => ?_) (fun c63 => ?_)
      · refine gi_iconst (pc' := 71) h ⟨dT_readItem_70, rfl⟩ ?_
        exact gs_zret h hE dT_readItem_71 (by omega) (by unfold itR; rw [if_pos c4, if_pos (by omega)]; exact ⟨by omega, rfl⟩)
      · refine gi_iconst (pc' := 67) h ⟨dT_readItem_66, rfl⟩ ?_
        refine gi_goto (tgt := 71) h dT_readItem_67 rfl ?_
        exact gs_zret h hE dT_readItem_71 (by omega) (by unfold itR; rw [if_pos c4, if_pos (by omega)]; exact ⟨by omega, rfl⟩)
  · rw [c4]
    refine gi_lookup (tgt := 72) (a := 116) (off := 68) h dT_readItem_4 (by decide) (by decide) rfl rfl ?_
    refine go_aload_n (pc' := 73) h ⟨dT_readItem_72, rfl⟩ rfl ?_
    refine gs_get (v := .ref (p + 11)) (pc' := 76) h ⟨dT_readItem_73, rfl⟩ fgT_59 hk (by decide) (rfl) ?_
    refine gd_callVI (e := if (4 : Int) ≤ S.1 (p + 11) 1 then 1 else 0) (E := S) (pc' := 79) (As := []) (st := []) h hF ⟨dT_readItem_76, rfl⟩ kvT_52 (by have h0 := cR_isFull X (S := S) k11 (hW (p + 11) k11); rw [show ln (p + 11 + 1) = 4 from l12] at h0; exact h0) (by omega) k11 (by decide) ⟨_, _, rfl⟩ rfl (Nat.le_of_ble_eq_true rfl) rfl ?_
    refine gi_if_ne (tgt := 94) (pc' := 82) h dT_readItem_79 rfl rfl (by split <;> omega) (fun c79 => ?_) (fun c79 => ?_)
    · have c79 := b1 c79
      refine gi_iconst (pc' := 95) h ⟨dT_readItem_94, rfl⟩ ?_
      exact gs_zret h hE dT_readItem_95 (by omega) (by unfold itR; rw [if_neg (by omega), if_pos c4, if_neg (by omega)]; exact ⟨rfl, rfl⟩)
    · have c79 := b0 c79
      refine go_aload_n (pc' := 83) h ⟨dT_readItem_82, rfl⟩ rfl ?_
      refine go_aload_n (pc' := 84) h ⟨dT_readItem_83, rfl⟩ rfl ?_
      refine gd_callVI (e := (trR S p).1) (E := (trR S p).2) (pc' := 87) (As := [.ref p]) (st := []) h hF ⟨dT_readItem_84, rfl⟩ kvT_62 (cT_tra X hp ht.1 ht.2.1) (by omega) rfl (by decide) ⟨_, _, rfl⟩ rfl (Nat.le_of_ble_eq_true rfl) rfl ?_
      refine gi_if_eq (tgt := 94) (pc' := 90) h dT_readItem_87 rfl rfl (by omega) (fun c87 => ?_) (fun c87 => ?_)
      · refine gi_iconst (pc' := 95) h ⟨dT_readItem_94, rfl⟩ ?_
        exact gs_zret h hE dT_readItem_95 (by omega) (by unfold itR; rw [if_neg (by omega), if_pos c4, if_pos (by omega)]; exact ⟨by omega, rfl⟩)
      · refine gi_iconst (pc' := 91) h ⟨dT_readItem_90, rfl⟩ ?_
        refine gi_goto (tgt := 95) h dT_readItem_91 rfl ?_
        exact gs_zret h hE dT_readItem_95 (by omega) (by unfold itR; rw [if_neg (by omega), if_pos c4, if_pos (by omega)]; exact ⟨by omega, rfl⟩)
  · refine gi_lookup (tgt := 138) (off := 134) h dT_readItem_4 (by omega) (by decide) (by show Op.lookupswitch.offset [(98, 113), (114, 92), (115, 44), (116, 68)] 134 _ = 134; rw [Op.lookupswitch.offset_cons, if_neg (by omega), Op.lookupswitch.offset_cons, if_neg (by omega), Op.lookupswitch.offset_cons, if_neg (by omega), Op.lookupswitch.offset_cons, if_neg (by omega)]; rfl) rfl ?_
    refine gi_iconst (pc' := 139) h ⟨dT_readItem_138, rfl⟩ ?_
    exact gs_zret h hE dT_readItem_139 (by omega) (by unfold itR; rw [if_neg (by omega), if_neg (by omega), if_neg (by omega), if_neg (by omega)]; exact ⟨rfl, rfl⟩)
def rdR (p : Nat) : Nat → Int → Sg → Int × Sg
  | 0, _, S => (-10 - S.1 1 3, S)
  | n + 1, it, S => if 120 < it then (-10 - S.1 1 3, S) else if S.1 1 2 = 257 then (it, S) else if (itR S p).1 = 0 then (-10 - (itR S p).2.1 1 3, (itR S p).2) else rdR p n (it + 1) (nxS (itR S p).2)
def rd0 (S : Sg) (p : Nat) : Sg := nxS (pt (pt (pt (pbegin S p) 1 1 0) 1 5 0) 1 6 0)
theorem pbegin_ne (S : Sg) (p : Nat) {a : Nat} (h : a < p ∨ p + 12 < a) : (pbegin S p).1 a = S.1 a := by
  unfold pbegin
  rw [pt_ne _ _ _ (by omega), pt_ne _ _ _ (by omega), rempty_ne _ (by omega) (by omega), rempty_ne _ (by omega) (by omega), rempty_ne _ (by omega) (by omega), rempty_ne _ (by omega) (by omega), rempty_ne _ (by omega) (by omega), rempty_ne _ (by omega) (by omega)]
theorem Wr.begin {S : Sg} (h : Wr S) {p : Nat} (hp : kd p = 2) : Wr (pbegin S p) := by
  obtain ⟨k1, k3, k5, k7, k9, k11, -⟩ := plan_ok hp
  unfold pbegin
  exact (((((((h.empty k1).empty k3).empty k5).empty k7).empty k9).empty k11).pt (by rw [hp]; decide) _ _).pt (by rw [hp]; decide) _ _
/-- the text's letters are well -/
def ltOk (S : Sg) : Prop := (0 ≤ S.1 2 1 ∧ S.1 2 1 ≤ 120) ∧ (∀ j : Int, 0 ≤ j → j < S.1 2 1 → 0 ≤ S.1 3 j ∧ S.1 3 j ≤ 255)
theorem rd0_tx {S : Sg} (h : ltOk S) (hW : Wr S) {p : Nat} (hp : p = 4 ∨ p = 17) : txOk (pt (pt (pt (pbegin S p) 1 1 0) 1 5 0) 1 6 0) ∧ Wr (pt (pt (pt (pbegin S p) 1 1 0) 1 5 0) 1 6 0) ∧ TI (rd0 S p) := by
  have e1 : (pt (pt (pt (pbegin S p) 1 1 0) 1 5 0) 1 6 0).1 1 = uF (uF (uF ((pbegin S p).1 1) 1 0) 5 0) 6 0 := by rw [pt_eq, pt_eq, pt_eq]
  have e2 : (pt (pt (pt (pbegin S p) 1 1 0) 1 5 0) 1 6 0).1 2 = S.1 2 := by rw [pt_ne _ _ _ (by decide), pt_ne _ _ _ (by decide), pt_ne _ _ _ (by decide), pbegin_ne _ _ (by omega)]
  have e3 : (pt (pt (pt (pbegin S p) 1 1 0) 1 5 0) 1 6 0).1 3 = S.1 3 := by rw [pt_ne _ _ _ (by decide), pt_ne _ _ _ (by decide), pt_ne _ _ _ (by decide), pbegin_ne _ _ (by omega)]
  have hx : txOk (pt (pt (pt (pbegin S p) 1 1 0) 1 5 0) 1 6 0) := by
    unfold txOk
    rw [e1, e2, e3]
    refine ⟨h.1, h.2, ?_⟩
    show 0 ≤ (0 : Int) ∧ (0 : Int) ≤ _
    exact ⟨by omega, h.1.1⟩
  have hw : Wr (pt (pt (pt (pbegin S p) 1 1 0) 1 5 0) 1 6 0) := (((hW.begin (kd_p hp)).pt (by decide) _ _).pt (by decide) _ _).pt (by decide) _ _
  refine ⟨hx, hw, hx.nx, hw.nx, ⟨hx.tok.1, hx.tok.2.1⟩, ?_, ?_⟩
  · unfold rd0; rw [nxS_hi _ (by decide), e1]; exact Or.inl rfl
  · unfold rd0; rw [nxS_hi _ (by decide), e1]; exact Or.inl rfl
set_option maxRecDepth 4000 in
theorem cT_read (X : XT) {S : Sg} {p : Nat} (hp : p = 4 ∨ p = 17) (hlt : ltOk S) (hW : Wr S) : Ctr X 5 yT_readInto bT_readInto 3 (some .int) [.ref 1, .ref p] (mk S) (PI (fun r S' => r = (rdR p 122 0 (rd0 S p)).1 ∧ S' = (rdR p 122 0 (rd0 S p)).2)) 0 0 := by
  refine Ctr.ofS (by decide) rfl (Nat.le_of_ble_eq_true rfl) (fun F h hF hE => ?_)
  have hk := kd_p hp
  obtain ⟨hx0, hW0, ht0⟩ := rd0_tx hlt hW hp
  have loop : ∀ (n : Nat) (it : Int) (U : Sg), it + n = 122 → 0 ≤ it → TI U → rdR p 122 0 (rd0 S p) = rdR p n it U → Go F 3 (mk U) 0 0 25 [.ref 1, .ref p, .int (iI it)] [] := by
    intro n
    induction n with
    | zero =>
      intro it U g1 g2 ht g4
      refine go_iload_n (pc' := 26) h ⟨dT_readInto_25, rfl⟩ rfl ?_
      refine gi_bipush (pc' := 28) h ⟨dT_readInto_26, rfl⟩ rfl ?_
      refine gi_icmp_gt (tgt := 64) (pc' := 31) h dT_readInto_28 rfl rfl (by omega) (fun c28 => ?_) (fun c28 => ?_)
      · refine gi_bipush (pc' := 66) h ⟨dT_readInto_64, rfl⟩ rfl ?_
        refine go_aload_n (pc' := 67) h ⟨dT_readInto_66, rfl⟩ rfl ?_
        refine gs_get (v := .int (iI (U.1 1 3))) (pc' := 70) h ⟨dT_readInto_67, rfl⟩ fgT_46 rfl (by decide) (rfl) ?_
        refine gi_isub (pc' := 71) h ⟨dT_readInto_70, rfl⟩ ?_
        exact gs_iret h hE dT_readInto_71 (by rw [g4, rdR]; exact ⟨rfl, rfl⟩)
      · exfalso; omega
    | succ n ih =>
      intro it U g1 g2 ht g4
      have g5 := ht.2.2.1
      have g6 := it01 U p
      refine go_iload_n (pc' := 26) h ⟨dT_readInto_25, rfl⟩ rfl ?_
      refine gi_bipush (pc' := 28) h ⟨dT_readInto_26, rfl⟩ rfl ?_
      refine gi_icmp_gt (tgt := 64) (pc' := 31) h dT_readInto_28 rfl rfl (by omega) (fun c28 => ?_) (fun c28 => ?_)
      · refine gi_bipush (pc' := 66) h ⟨dT_readInto_64, rfl⟩ rfl ?_
        refine go_aload_n (pc' := 67) h ⟨dT_readInto_66, rfl⟩ rfl ?_
        refine gs_get (v := .int (iI (U.1 1 3))) (pc' := 70) h ⟨dT_readInto_67, rfl⟩ fgT_46 rfl (by decide) (rfl) ?_
        refine gi_isub (pc' := 71) h ⟨dT_readInto_70, rfl⟩ ?_
        exact gs_iret h hE dT_readInto_71 (by rw [g4, rdR, if_pos c28]; exact ⟨rfl, rfl⟩)
      · refine go_aload_n (pc' := 32) h ⟨dT_readInto_31, rfl⟩ rfl ?_
        refine gs_get (v := .int (iI (U.1 1 2))) (pc' := 35) h ⟨dT_readInto_32, rfl⟩ fgT_39 rfl (by decide) (rfl) ?_
        refine gi_sipush (pc' := 38) h ⟨dT_readInto_35, rfl⟩ rfl ?_
        refine gi_icmp_ne (tgt := 43) (pc' := 41) h dT_readInto_38 rfl rfl (by omega) (fun c38 => ?_) (fun c38 => ?_)
        · refine go_aload_n (pc' := 44) h ⟨dT_readInto_43, rfl⟩ rfl ?_
          refine go_aload_n (pc' := 45) h ⟨dT_readInto_44, rfl⟩ rfl ?_
          refine gd_callVI (e := (itR U p).1) (E := (itR U p).2) (pc' := 48) (As := [.ref p]) (st := []) h hF ⟨dT_readInto_45, rfl⟩ kvT_42 (cT_item X hp ht) (by omega) rfl (by decide) ⟨_, _, rfl⟩ rfl (Nat.le_of_ble_eq_true rfl) rfl ?_
          refine gi_if_ne (tgt := 54) (pc' := 51) h dT_readInto_48 rfl rfl (by omega) (fun c48 => ?_) (fun c48 => ?_)
          · refine go_aload_n (pc' := 55) h ⟨dT_readInto_54, rfl⟩ rfl ?_
            refine gd_callVV (E := nxS (itR U p).2) (pc' := 58) (As := []) (st := []) h hF ⟨dT_readInto_55, rfl⟩ kvT_36 (cT_nx X (ht.it hp).1) (by omega) rfl (by decide) ⟨_, _, rfl⟩ rfl (Nat.le_of_ble_eq_true rfl) rfl ?_
            refine gi_iinc (L' := [.ref 1, .ref p, .int (iI (it + 1))]) (pc' := 61) h ⟨dT_readInto_58, rfl⟩ rfl (by decide) rfl rfl ?_
            refine gi_goto (tgt := 25) h dT_readInto_61 rfl ?_
            exact ih (it + 1) _ (by omega) (by omega) (ht.it hp).nx (by rw [g4, rdR, if_neg (by omega), if_neg c38, if_neg c48])
          · refine gi_goto (tgt := 64) h dT_readInto_51 rfl ?_
            refine gi_bipush (pc' := 66) h ⟨dT_readInto_64, rfl⟩ rfl ?_
            refine go_aload_n (pc' := 67) h ⟨dT_readInto_66, rfl⟩ rfl ?_
            refine gs_get (v := .int (iI (((itR U p).2).1 1 3))) (pc' := 70) h ⟨dT_readInto_67, rfl⟩ fgT_46 rfl (by decide) (rfl) ?_
            refine gi_isub (pc' := 71) h ⟨dT_readInto_70, rfl⟩ ?_
            exact gs_iret h hE dT_readInto_71 (by rw [g4, rdR, if_neg (by omega), if_neg c38, if_pos c48]; exact ⟨rfl, rfl⟩)
        · refine go_iload_n (pc' := 42) h ⟨dT_readInto_41, rfl⟩ rfl ?_
          exact gs_iret h hE dT_readInto_42 (by rw [g4, rdR, if_neg (by omega), if_pos c38]; exact ⟨rfl, rfl⟩)
  refine go_aload_n (pc' := 1) h ⟨dT_readInto_0, rfl⟩ rfl ?_
  refine gd_callVV (E := pbegin S p) (pc' := 4) (As := []) (st := []) h hF ⟨dT_readInto_1, rfl⟩ kvT_20 (cP_begin X hk) (by omega) hk (by decide) ⟨_, _, rfl⟩ rfl (Nat.le_of_ble_eq_true rfl) rfl ?_
  refine go_aload_n (pc' := 5) h ⟨dT_readInto_4, rfl⟩ rfl ?_
  refine gi_iconst (pc' := 6) h ⟨dT_readInto_5, rfl⟩ ?_
  refine gd_putI (i := 1) (pc' := 9) h ⟨dT_readInto_6, rfl⟩ fpT_25 rfl (by decide) rfl rfl ?_
  refine go_aload_n (pc' := 10) h ⟨dT_readInto_9, rfl⟩ rfl ?_
  refine gi_iconst (pc' := 11) h ⟨dT_readInto_10, rfl⟩ ?_
  refine gd_putZ (i := 5) (pc' := 14) h ⟨dT_readInto_11, rfl⟩ fpT_29 rfl (by decide) rfl rfl (by omega) ?_
  refine go_aload_n (pc' := 15) h ⟨dT_readInto_14, rfl⟩ rfl ?_
  refine gi_iconst (pc' := 16) h ⟨dT_readInto_15, rfl⟩ ?_
  refine gd_putZ (i := 6) (pc' := 19) h ⟨dT_readInto_16, rfl⟩ fpT_33 rfl (by decide) rfl rfl (by omega) ?_
  refine go_aload_n (pc' := 20) h ⟨dT_readInto_19, rfl⟩ rfl ?_
  refine gd_callVV (E := rd0 S p) (pc' := 23) (As := []) (st := []) h hF ⟨dT_readInto_20, rfl⟩ kvT_36 (cT_nx X hx0) (by omega) rfl (by decide) ⟨_, _, rfl⟩ rfl (Nat.le_of_ble_eq_true rfl) rfl ?_
  refine gi_iconst (pc' := 24) h ⟨dT_readInto_23, rfl⟩ ?_
  refine go_istore_n (L' := [.ref 1, .ref p, .int (iI (0))]) (pc' := 25) h ⟨dT_readInto_24, rfl⟩ (by decide) rfl rfl ?_
  exact loop 122 0 _ (by omega) (by omega) ht0 rfl
def altP (S : Sg) (p : Nat) (x : Int) : Int := sumI (fun m => max 0 (min 1000 (x - 1000 * m)) * S.1 (p + 10) m) (S.1 (p + 9) 1)
def markP (S : Sg) (p : Nat) (l : Int) : Int := atV (S.1 (p + 8)) 5 (l - 1)
def absI (x : Int) : Int := if 0 ≤ x then x else -x
theorem altP_bd {S : Sg} {p : Nat} (h : planOk S p) (x : Int) : 0 ≤ altP S p x ∧ altP S p x ≤ 8000000 := by
  obtain ⟨o1, o2, o3, o4, o5, o6, o7⟩ := h
  have := sumI_bd (f := fun m => max 0 (min 1000 (x - 1000 * m)) * S.1 (p + 10) m) (B := 80000) (n := S.1 (p + 9) 1) o2.1 (fun i i1 i2 => mul_80 (by omega) (by have := o5 i i1 i2; omega))
  unfold altP
  omega
def offF (S : Sg) (p : Nat) (i : Int) : Int := absI (altP S p (1000 * markP S p (S.1 83 i)) - altP S p (1000 * markP S p (S.1 81 i)) - S.1 85 i)
set_option maxRecDepth 4000 in
theorem cM_off (X : XT) {S : Sg} {p : Nat} (hp : kd p = 2) (hok : planOk S p) (hm : measOk S) (hk : ∀ l : Int, 0 ≤ l → l ≤ 5 → 0 ≤ markP S p l ∧ markP S p l ≤ 100) : Ctr X 2 yM_offBy bM_offBy 6 (some .int) [.ref 79, .ref p] (mk S) (PI (fun r S' => r = sumI (offF S p) (S.1 84 1) ∧ S' = S)) 0 0 := by
  refine Ctr.ofS (by decide) rfl (Nat.le_of_ble_eq_true rfl) (fun F h hF hE => ?_)
  obtain ⟨hz, ho⟩ := id hm
  have loop : ∀ (n : Nat) (j : Int), 7 < j + n → 0 ≤ j → j ≤ S.1 84 1 → Go F 6 (mk S) 0 0 4 [.ref 79, .ref p, .int (iI (sumI (offF S p) j)), .int (iI j)] [] := by
    intro n
    induction n with
    | zero => intro j g4 g5 g6; exfalso; omega
    | succ n ih =>
      intro j g4 g5 g6
      refine go_iload_n (pc' := 5) h ⟨dM_offBy_4, rfl⟩ rfl ?_
      refine go_aload_n (pc' := 6) h ⟨dM_offBy_5, rfl⟩ rfl ?_
      refine gs_get (v := .ref 84) (pc' := 9) h ⟨dM_offBy_6, rfl⟩ fgM_23 rfl (by decide) (rfl) ?_
      refine gd_callVI (e := S.1 84 1) (E := S) (pc' := 12) (As := []) (st := [.int (iI (j))]) h hF ⟨dM_offBy_9, rfl⟩ kvM_35 (cR_size X rfl) (by omega) rfl (by decide) ⟨_, _, rfl⟩ rfl (Nat.le_of_ble_eq_true rfl) rfl ?_
      refine gi_icmp_ge (tgt := 85) (pc' := 15) h dM_offBy_12 rfl rfl (by omega) (fun c12 => ?_) (fun c12 => ?_)
      · refine go_iload_n (pc' := 86) h ⟨dM_offBy_85, rfl⟩ rfl ?_
        exact gs_iret h hE dM_offBy_86 (⟨by rw [show j = S.1 84 1 by omega], rfl⟩)
      · have g7 := ho j (by omega) (by omega)
        have g8 := hk (S.1 83 j) (by omega) (by omega)
        have g9 := hk (S.1 81 j) (by omega) (by omega)
        have g10 := altP_bd hok (1000 * markP S p (S.1 83 j))
        have g11 := altP_bd hok (1000 * markP S p (S.1 81 j))
        refine go_aload_n (pc' := 16) h ⟨dM_offBy_15, rfl⟩ rfl ?_
        refine gi_sipush (pc' := 19) h ⟨dM_offBy_16, rfl⟩ rfl ?_
        refine go_aload_n (pc' := 20) h ⟨dM_offBy_19, rfl⟩ rfl ?_
        refine go_aload_n (pc' := 21) h ⟨dM_offBy_20, rfl⟩ rfl ?_
        refine gs_get (v := .ref 80) (pc' := 24) h ⟨dM_offBy_21, rfl⟩ fgM_14 rfl (by decide) (rfl) ?_
        refine go_iload_n (pc' := 25) h ⟨dM_offBy_24, rfl⟩ rfl ?_
        refine gd_callVI (e := S.1 81 j) (E := S) (pc' := 28) (As := [.int (iI (j))]) (st := [.ref p, .int (iI (1000)), .ref p]) h hF ⟨dM_offBy_25, rfl⟩ kvM_39 (cR_ati X (n := 6) rfl rfl (by omega)) (by omega) rfl (by decide) ⟨_, _, rfl⟩ rfl (Nat.le_of_ble_eq_true rfl) rfl ?_
        refine gd_callVI (e := markP S p (S.1 81 j)) (E := S) (pc' := 31) (As := [.int (iI (S.1 81 j))]) (st := [.int (iI (1000)), .ref p]) h hF ⟨dM_offBy_28, rfl⟩ kvM_43 (cP_mark X hp (by omega)) (by omega) hp (by decide) ⟨_, _, rfl⟩ rfl (Nat.le_of_ble_eq_true rfl) rfl ?_
        refine gi_imul (pc' := 32) h ⟨dM_offBy_31, rfl⟩ ?_
        refine gd_callVI (e := altP S p (1000 * (markP S p (S.1 81 j)))) (E := S) (pc' := 35) (As := [.int (iI (1000 * (markP S p (S.1 81 j))))]) (st := []) h hF ⟨dM_offBy_32, rfl⟩ kvM_48 (cP_alt X hp hok (by omega)) (by omega) hp (by decide) ⟨_, _, rfl⟩ rfl (Nat.le_of_ble_eq_true rfl) rfl ?_
        refine go_istore (L' := [.ref 79, .ref p, .int (iI (sumI (offF S p) j)), .int (iI (j)), .int (iI (altP S p (1000 * (markP S p (S.1 81 j)))))]) (pc' := 37) h ⟨dM_offBy_35, rfl⟩ (by decide) rfl rfl ?_
        refine go_aload_n (pc' := 38) h ⟨dM_offBy_37, rfl⟩ rfl ?_
        refine gi_sipush (pc' := 41) h ⟨dM_offBy_38, rfl⟩ rfl ?_
        refine go_aload_n (pc' := 42) h ⟨dM_offBy_41, rfl⟩ rfl ?_
        refine go_aload_n (pc' := 43) h ⟨dM_offBy_42, rfl⟩ rfl ?_
        refine gs_get (v := .ref 82) (pc' := 46) h ⟨dM_offBy_43, rfl⟩ fgM_20 rfl (by decide) (rfl) ?_
        refine go_iload_n (pc' := 47) h ⟨dM_offBy_46, rfl⟩ rfl ?_
        refine gd_callVI (e := S.1 83 j) (E := S) (pc' := 50) (As := [.int (iI (j))]) (st := [.ref p, .int (iI (1000)), .ref p]) h hF ⟨dM_offBy_47, rfl⟩ kvM_39 (cR_ati X (n := 6) rfl rfl (by omega)) (by omega) rfl (by decide) ⟨_, _, rfl⟩ rfl (Nat.le_of_ble_eq_true rfl) rfl ?_
        refine gd_callVI (e := markP S p (S.1 83 j)) (E := S) (pc' := 53) (As := [.int (iI (S.1 83 j))]) (st := [.int (iI (1000)), .ref p]) h hF ⟨dM_offBy_50, rfl⟩ kvM_43 (cP_mark X hp (by omega)) (by omega) hp (by decide) ⟨_, _, rfl⟩ rfl (Nat.le_of_ble_eq_true rfl) rfl ?_
        refine gi_imul (pc' := 54) h ⟨dM_offBy_53, rfl⟩ ?_
        refine gd_callVI (e := altP S p (1000 * (markP S p (S.1 83 j)))) (E := S) (pc' := 57) (As := [.int (iI (1000 * (markP S p (S.1 83 j))))]) (st := []) h hF ⟨dM_offBy_54, rfl⟩ kvM_48 (cP_alt X hp hok (by omega)) (by omega) hp (by decide) ⟨_, _, rfl⟩ rfl (Nat.le_of_ble_eq_true rfl) rfl ?_
        refine go_istore (L' := [.ref 79, .ref p, .int (iI (sumI (offF S p) j)), .int (iI (j)), .int (iI (altP S p (1000 * (markP S p (S.1 81 j))))), .int (iI (altP S p (1000 * (markP S p (S.1 83 j)))))]) (pc' := 59) h ⟨dM_offBy_57, rfl⟩ (by decide) rfl rfl ?_
        refine go_iload_n (pc' := 60) h ⟨dM_offBy_59, rfl⟩ rfl ?_
        refine go_iload (pc' := 62) h ⟨dM_offBy_60, rfl⟩ rfl ?_
        refine go_iload (pc' := 64) h ⟨dM_offBy_62, rfl⟩ rfl ?_
        refine gi_isub (pc' := 65) h ⟨dM_offBy_64, rfl⟩ ?_
        refine go_aload_n (pc' := 66) h ⟨dM_offBy_65, rfl⟩ rfl ?_
        refine gs_get (v := .ref 84) (pc' := 69) h ⟨dM_offBy_66, rfl⟩ fgM_23 rfl (by decide) (rfl) ?_
        refine go_iload_n (pc' := 70) h ⟨dM_offBy_69, rfl⟩ rfl ?_
        refine gd_callVI (e := S.1 85 j) (E := S) (pc' := 73) (As := [.int (iI (j))]) (st := [.int (iI ((altP S p (1000 * (markP S p (S.1 83 j)))) - (altP S p (1000 * (markP S p (S.1 81 j)))))), .int (iI (sumI (offF S p) j))]) h hF ⟨dM_offBy_70, rfl⟩ kvM_39 (cR_ati X (n := 6) rfl rfl (by omega)) (by omega) rfl (by decide) ⟨_, _, rfl⟩ rfl (Nat.le_of_ble_eq_true rfl) rfl ?_
        refine gi_isub (pc' := 74) h ⟨dM_offBy_73, rfl⟩ ?_
        refine gd_callSI (e := if 0 ≤ (((altP S p (1000 * (markP S p (S.1 83 j)))) - (altP S p (1000 * (markP S p (S.1 81 j))))) - (S.1 85 j)) then ((altP S p (1000 * (markP S p (S.1 83 j)))) - (altP S p (1000 * (markP S p (S.1 81 j))))) - (S.1 85 j) else -(((altP S p (1000 * (markP S p (S.1 83 j)))) - (altP S p (1000 * (markP S p (S.1 81 j))))) - (S.1 85 j))) (E := S) (pc' := 77) (As := [.int (iI (((altP S p (1000 * (markP S p (S.1 83 j)))) - (altP S p (1000 * (markP S p (S.1 81 j))))) - (S.1 85 j)))]) (st := [.int (iI (sumI (offF S p) j))]) h hF ⟨dM_offBy_74, rfl⟩ kvM_51 (cK_abs X (by omega)) (by omega) rfl (Nat.le_of_ble_eq_true rfl) rfl ?_
        refine gi_iadd (pc' := 78) h ⟨dM_offBy_77, rfl⟩ ?_
        refine go_istore_n (L' := [.ref 79, .ref p, .int (iI ((sumI (offF S p) j) + (if 0 ≤ (((altP S p (1000 * (markP S p (S.1 83 j)))) - (altP S p (1000 * (markP S p (S.1 81 j))))) - (S.1 85 j)) then ((altP S p (1000 * (markP S p (S.1 83 j)))) - (altP S p (1000 * (markP S p (S.1 81 j))))) - (S.1 85 j) else -(((altP S p (1000 * (markP S p (S.1 83 j)))) - (altP S p (1000 * (markP S p (S.1 81 j))))) - (S.1 85 j))))), .int (iI (j)), .int (iI (altP S p (1000 * (markP S p (S.1 81 j))))), .int (iI (altP S p (1000 * (markP S p (S.1 83 j)))))]) (pc' := 79) h ⟨dM_offBy_78, rfl⟩ (by decide) rfl rfl ?_
        refine gi_iinc (L' := [.ref 79, .ref p, .int (iI ((sumI (offF S p) j) + (if 0 ≤ (((altP S p (1000 * (markP S p (S.1 83 j)))) - (altP S p (1000 * (markP S p (S.1 81 j))))) - (S.1 85 j)) then ((altP S p (1000 * (markP S p (S.1 83 j)))) - (altP S p (1000 * (markP S p (S.1 81 j))))) - (S.1 85 j) else -(((altP S p (1000 * (markP S p (S.1 83 j)))) - (altP S p (1000 * (markP S p (S.1 81 j))))) - (S.1 85 j))))), .int (iI (j + 1)), .int (iI (altP S p (1000 * (markP S p (S.1 81 j))))), .int (iI (altP S p (1000 * (markP S p (S.1 83 j)))))]) (pc' := 82) h ⟨dM_offBy_79, rfl⟩ rfl (by decide) rfl rfl ?_
        refine gi_goto (tgt := 4) h dM_offBy_82 rfl ?_
        refine Go.cut [.ref 79, .ref p, .int (iI ((sumI (offF S p) j) + (if 0 ≤ (((altP S p (1000 * (markP S p (S.1 83 j)))) - (altP S p (1000 * (markP S p (S.1 81 j))))) - (S.1 85 j)) then ((altP S p (1000 * (markP S p (S.1 83 j)))) - (altP S p (1000 * (markP S p (S.1 81 j))))) - (S.1 85 j) else -(((altP S p (1000 * (markP S p (S.1 83 j)))) - (altP S p (1000 * (markP S p (S.1 81 j))))) - (S.1 85 j))))), .int (iI (j + 1))] 4 rfl ?_
        have g12 := ih (j + 1) (by omega) (by omega) (by omega)
        rw [sumI_s _ g5] at g12
        exact g12
  refine gi_iconst (pc' := 1) h ⟨dM_offBy_0, rfl⟩ ?_
  refine go_istore_n (L' := [.ref 79, .ref p, .int (iI (0))]) (pc' := 2) h ⟨dM_offBy_1, rfl⟩ (by decide) rfl rfl ?_
  refine gi_iconst (pc' := 3) h ⟨dM_offBy_2, rfl⟩ ?_
  refine go_istore_n (L' := [.ref 79, .ref p, .int (iI (0)), .int (iI (0))]) (pc' := 4) h ⟨dM_offBy_3, rfl⟩ (by decide) rfl rfl ?_
  exact loop 8 0 (by omega) (by omega) (by omega)
theorem onesI_bd : ∀ a : Nat, a < 16 → 0 ≤ onesI (a : Int) ∧ onesI (a : Int) ≤ 4 := by decide +kernel
theorem onesIbd {a : Int} (h : 0 ≤ a ∧ a ≤ 15) : 0 ≤ onesI a ∧ onesI a ≤ 4 := by
  have := onesI_bd a.toNat (by omega)
  rwa [Int.toNat_of_nonneg h.1] at this
def awF (x k fr : Int) (a : Int) : Int := if onesI a ≤ k then x ^ (onesI a).toNat * (10 - x) ^ (fr - onesI a).toNat else 0
set_option maxRecDepth 4000 in
theorem cX_away (X : XT) {S : Sg} {x k fr : Int} (hx : 0 ≤ x ∧ x ≤ 10) (hk : 0 ≤ k ∧ k ≤ 4) (hf : 0 ≤ fr ∧ fr ≤ 4) : Ctr X 1 yX_countAway bX_countAway 6 (some .int) [.int (iI (x)), .int (iI (k)), .int (iI (fr))] (mk S) (PI (fun r S' => r = sumI (awF x k fr) (2 ^ fr.toNat) ∧ S' = S)) 0 0 := by
  refine Ctr.ofS (by decide) rfl (Nat.le_of_ble_eq_true rfl) (fun F h hF hE => ?_)
  have hp := pow2le hf
  have loop : ∀ (n : Nat) (j : Int), 17 < j + n → 0 ≤ j → j ≤ 2 ^ fr.toNat → Go F 6 (mk S) 0 0 5 [.int (iI x), .int (iI k), .int (iI fr), .int (iI (sumI (awF x k fr) j)), .int (iI j)] [] := by
    intro n
    induction n with
    | zero => intro j g4 g5 g6; exfalso; omega
    | succ n ih =>
      intro j g4 g5 g6
      refine go_iload (pc' := 7) h ⟨dX_countAway_5, rfl⟩ rfl ?_
      refine gi_iconst (pc' := 8) h ⟨dX_countAway_7, rfl⟩ ?_
      refine go_iload_n (pc' := 9) h ⟨dX_countAway_8, rfl⟩ rfl ?_
      refine gi_ishl (c := 2 ^ fr.toNat) (pc' := 10) h ⟨dX_countAway_9, rfl⟩ (shl1 hf) ?_
      refine gi_icmp_ge (tgt := 53) (pc' := 13) h dX_countAway_10 rfl rfl (by omega) (fun c10 => ?_) (fun c10 => ?_)
      · refine go_iload_n (pc' := 54) h ⟨dX_countAway_53, rfl⟩ rfl ?_
        exact gs_iret h hE dX_countAway_54 (⟨by rw [show j = 2 ^ fr.toNat by omega], rfl⟩)
      · have g7 := onesIbd (a := j) (by omega)
        refine go_iload (pc' := 15) h ⟨dX_countAway_13, rfl⟩ rfl ?_
        refine gd_callSI (e := onesI j) (E := S) (pc' := 18) (As := [.int (iI (j))]) (st := []) h hF ⟨dX_countAway_15, rfl⟩ kvX_290 (cJ_bitCount X (by omega)) (by omega) rfl (Nat.le_of_ble_eq_true rfl) rfl ?_
        refine go_istore (L' := [.int (iI (x)), .int (iI (k)), .int (iI (fr)), .int (iI (sumI (awF x k fr) j)), .int (iI (j)), .int (iI (onesI j))]) (pc' := 20) h ⟨dX_countAway_18, rfl⟩ (by decide) rfl rfl ?_
        refine go_iload (pc' := 22) h ⟨dX_countAway_20, rfl⟩ rfl ?_
        refine go_iload_n (pc' := 23) h ⟨dX_countAway_22, rfl⟩ rfl ?_
        refine gi_icmp_gt (tgt := 47) (pc' := 26) h dX_countAway_23 rfl rfl (by omega) (fun c23 => ?_) (fun c23 => ?_)
        · refine gi_iinc (L' := [.int (iI (x)), .int (iI (k)), .int (iI (fr)), .int (iI (sumI (awF x k fr) j)), .int (iI (j + 1)), .int (iI (onesI j))]) (pc' := 50) h ⟨dX_countAway_47, rfl⟩ rfl (by decide) rfl rfl ?_
          refine gi_goto (tgt := 5) h dX_countAway_50 rfl ?_
          refine Go.cut [.int (iI x), .int (iI k), .int (iI fr), .int (iI (sumI (awF x k fr) j)), .int (iI (j + 1))] 5 rfl ?_
          have g12 := ih (j + 1) (by omega) (by omega) (by omega)
          rw [sumI_s _ g5, awF, if_neg (by omega), Int.add_zero] at g12
          exact g12
        · refine go_iload_n (pc' := 27) h ⟨dX_countAway_26, rfl⟩ rfl ?_
          refine go_iload_n (pc' := 28) h ⟨dX_countAway_27, rfl⟩ rfl ?_
          refine go_iload (pc' := 30) h ⟨dX_countAway_28, rfl⟩ rfl ?_
          refine gd_callSI (e := x ^ (onesI j).toNat) (E := S) (pc' := 33) (As := [.int (iI (x)), .int (iI (onesI j))]) (st := [.int (iI (sumI (awF x k fr) j))]) h hF ⟨dX_countAway_30, rfl⟩ kvX_239 (cX_power X (by omega)) (by omega) rfl (Nat.le_of_ble_eq_true rfl) rfl ?_
          refine gi_bipush (pc' := 35) h ⟨dX_countAway_33, rfl⟩ rfl ?_
          refine go_iload_n (pc' := 36) h ⟨dX_countAway_35, rfl⟩ rfl ?_
          refine gi_isub (pc' := 37) h ⟨dX_countAway_36, rfl⟩ ?_
          refine go_iload_n (pc' := 38) h ⟨dX_countAway_37, rfl⟩ rfl ?_
          refine go_iload (pc' := 40) h ⟨dX_countAway_38, rfl⟩ rfl ?_
          refine gi_isub (pc' := 41) h ⟨dX_countAway_40, rfl⟩ ?_
          refine gd_callSI (e := (10 - x) ^ (fr - (onesI j)).toNat) (E := S) (pc' := 44) (As := [.int (iI (10 - x)), .int (iI (fr - (onesI j)))]) (st := [.int (iI (x ^ (onesI j).toNat)), .int (iI (sumI (awF x k fr) j))]) h hF ⟨dX_countAway_41, rfl⟩ kvX_239 (cX_power X (by omega)) (by omega) rfl (Nat.le_of_ble_eq_true rfl) rfl ?_
          refine gi_imul (pc' := 45) h ⟨dX_countAway_44, rfl⟩ ?_
          refine gi_iadd (pc' := 46) h ⟨dX_countAway_45, rfl⟩ ?_
          refine go_istore_n (L' := [.int (iI (x)), .int (iI (k)), .int (iI (fr)), .int (iI ((sumI (awF x k fr) j) + ((x ^ (onesI j).toNat) * ((10 - x) ^ (fr - (onesI j)).toNat)))), .int (iI (j)), .int (iI (onesI j))]) (pc' := 47) h ⟨dX_countAway_46, rfl⟩ (by decide) rfl rfl ?_
          refine gi_iinc (L' := [.int (iI (x)), .int (iI (k)), .int (iI (fr)), .int (iI ((sumI (awF x k fr) j) + ((x ^ (onesI j).toNat) * ((10 - x) ^ (fr - (onesI j)).toNat)))), .int (iI (j + 1)), .int (iI (onesI j))]) (pc' := 50) h ⟨dX_countAway_47, rfl⟩ rfl (by decide) rfl rfl ?_
          refine gi_goto (tgt := 5) h dX_countAway_50 rfl ?_
          refine Go.cut [.int (iI x), .int (iI k), .int (iI fr), .int (iI ((sumI (awF x k fr) j) + ((x ^ (onesI j).toNat) * ((10 - x) ^ (fr - (onesI j)).toNat)))), .int (iI (j + 1))] 5 rfl ?_
          have g12 := ih (j + 1) (by omega) (by omega) (by omega)
          rw [sumI_s _ g5, awF, if_pos (by omega)] at g12
          exact g12
  refine gi_iconst (pc' := 1) h ⟨dX_countAway_0, rfl⟩ ?_
  refine go_istore_n (L' := [.int (iI (x)), .int (iI (k)), .int (iI (fr)), .int (iI (0))]) (pc' := 2) h ⟨dX_countAway_1, rfl⟩ (by decide) rfl rfl ?_
  refine gi_iconst (pc' := 3) h ⟨dX_countAway_2, rfl⟩ ?_
  refine go_istore (L' := [.int (iI (x)), .int (iI (k)), .int (iI (fr)), .int (iI (0)), .int (iI (0))]) (pc' := 5) h ⟨dX_countAway_3, rfl⟩ (by decide) rfl rfl ?_
  exact loop 18 0 (by omega) (by omega) (by omega)
