/-! reading: tokens of a text f of z letters, told by whence they are sought -/
abbrev isD (c : Int) : Prop := 48 ≤ c ∧ c ≤ 57

def skF (f : Int → Int) (z : Int) : Nat → Int → Int
  | 0, i => i
  | n + 1, i => if i < z ∧ f i = 32 then skF f z n (i + 1) else i
def dgF (f : Int → Int) (z : Int) : Nat → Int → Int
  | 0, i => i
  | n + 1, i => if i < z ∧ isD (f i) then dgF f z n (i + 1) else i
def nvF (f : Int → Int) (z : Int) : Nat → Int → Int → Int
  | 0, _, v => v
  | n + 1, i, v => if i < z ∧ isD (f i) then nvF f z n (i + 1) (min 100 (10 * v + f i - 48)) else v
def lS (f : Int → Int) (z i : Int) : Int := skF f z 121 i
def lK (f : Int → Int) (z i : Int) : Int := if z ≤ lS f z i then 0 else if isD (f (lS f z i)) then 2 else 1
def lE (f : Int → Int) (z i : Int) : Int := if z ≤ lS f z i then lS f z i else if isD (f (lS f z i)) then dgF f z 121 (lS f z i) else lS f z i + 1
def lV (f : Int → Int) (z i : Int) : Int := if isD (f (lS f z i)) then (if (f (lS f z i) = 48 ∧ lS f z i + 1 < dgF f z 121 (lS f z i)) ∨ 99 < nvF f z 121 (lS f z i) 0 then -1 else nvF f z 121 (lS f z i) 0) else f (lS f z i)
def tkF (f : Int → Int) (z i : Int) : Int := if lK f z i = 0 then 257 else if lK f z i = 2 then 256 else lV f z i
/-- the text's fields behind nextToken() -/
def nxW (f : Int → Int) (z : Int) (W : Int → Int) : Int → Int := fun j => if j = 1 then lE f z (W 1) else if j = 2 then tkF f z (W 1) else if j = 3 then lS f z (W 1) else if j = 4 ∧ lK f z (W 1) = 2 then lV f z (W 1) else W j
theorem skF_bd (f : Int → Int) (z : Int) : ∀ (n : Nat) (i : Int), i ≤ z → i ≤ skF f z n i ∧ skF f z n i ≤ z
  | 0, i, h => ⟨Int.le_refl _, h⟩
  | n + 1, i, h => by
    unfold skF
    split
    · have := skF_bd f z n (i + 1) (by omega); omega
    · omega
theorem dgF_bd (f : Int → Int) (z : Int) : ∀ (n : Nat) (i : Int), i ≤ z → i ≤ dgF f z n i ∧ dgF f z n i ≤ z
  | 0, i, h => ⟨Int.le_refl _, h⟩
  | n + 1, i, h => by
    unfold dgF
    split
    · have := dgF_bd f z n (i + 1) (by omega); omega
    · omega
theorem lE_bd (f : Int → Int) {z i : Int} (h : i ≤ z) : i ≤ lS f z i ∧ lS f z i ≤ lE f z i ∧ lE f z i ≤ z ∧ (lK f z i ≠ 0 → lS f z i < lE f z i) := by
  have h1 := skF_bd f z 121 i h
  unfold lE lK lS
  by_cases hz : z ≤ skF f z 121 i
  · rw [if_pos hz, if_pos hz]; omega
  · rw [if_neg hz, if_neg hz]
    by_cases hd : isD (f (skF f z 121 i))
    · rw [if_pos hd, if_pos hd]
      have h2 : skF f z 121 i + 1 ≤ dgF f z 121 (skF f z 121 i) := by
        have h3 := dgF_bd f z 120 (skF f z 121 i + 1) (by omega)
        rw [show dgF f z 121 (skF f z 121 i) = dgF f z 120 (skF f z 121 i + 1) from by rw [dgF, if_pos ⟨by omega, hd⟩]]
        omega
      have h4 := dgF_bd f z 121 (skF f z 121 i) (by omega)
      omega
    · rw [if_neg hd, if_neg hd]; omega
theorem nvF_bd (f : Int → Int) (z : Int) : ∀ (n : Nat) (i v : Int), 0 ≤ v ∧ v ≤ 100 → 0 ≤ nvF f z n i v ∧ nvF f z n i v ≤ 100
  | 0, i, v, h => h
  | n + 1, i, v, h => by
    unfold nvF
    split
    · rename_i hc
      obtain ⟨_, h2, h3⟩ := hc
      exact nvF_bd f z n (i + 1) _ (by omega)
    · exact h
theorem lV_bd {f : Int → Int} {z i : Int} (hf : ∀ j : Int, 0 ≤ j → j < z → 0 ≤ f j ∧ f j ≤ 255) (h0 : 0 ≤ i) (h : i ≤ z) (hk : lK f z i ≠ 0) : -1 ≤ lV f z i ∧ lV f z i ≤ 255 := by
  have h1 := skF_bd f z 121 i h
  have hz : ¬ z ≤ lS f z i := fun e => hk (by unfold lK; rw [if_pos e])
  have h3 := nvF_bd f z 121 (lS f z i) 0 (by omega)
  have h4 := hf (lS f z i) (by unfold lS; omega) (by omega)
  unfold lV
  split
  · split <;> omega
  · omega
theorem pt_pt (S : Sg) (k : Nat) (i x y : Int) : pt (pt S k i x) k i y = pt S k i y := by
  rw [pt_aset, pt_aset, pt_aset, aset_eq, aset_aset, uF_uF]
theorem pt_num (S : Sg) (a v v' b : Int) : pt (pt (pt (pt S 1 1 a) 1 4 v) 1 4 v') 1 1 b = pt (pt S 1 1 b) 1 4 v' := by
  simp only [pt_aset, aset_eq, aset_aset]
  refine congrArg (aset S 1) (funext fun j => ?_)
  simp only [uF]
  by_cases h1 : j = 1
  · subst h1; simp
  · by_cases h4 : j = 4
    · subst h4; simp
    · simp [h1, h4]
theorem pt_pl (S : Sg) (a v : Int) : pt (pt S 1 1 a) 1 4 v = pt (pt S 1 1 a) 1 4 v := rfl
set_option maxRecDepth 4000 in
theorem cT_isDigit (X : XT) {S : Sg} {c : Int} (hc : -2147483648 ≤ c ∧ c ≤ 2147483647) : Ctr X 0 yT_isDigit bT_isDigit 1 (some .boolean) [.int (iI (c))] (mk S) (PI (fun r S' => r = (if isD c then 1 else 0) ∧ S' = S)) 0 0 := by
  refine Ctr.ofS (by decide) rfl (Nat.le_of_ble_eq_true rfl) (fun F h hF hE => ?_)
  refine go_iload_n (pc' := 1) h ⟨dT_isDigit_0, rfl⟩ rfl ?_
  refine gi_bipush (pc' := 3) h ⟨dT_isDigit_1, rfl⟩ rfl ?_
  refine gi_icmp_lt (tgt := 16) (pc' := 6) h dT_isDigit_3 rfl rfl (by omega) (fun c3 => ?_) (fun c3 => ?_)
  · refine gi_iconst (pc' := 17) h ⟨dT_isDigit_16, rfl⟩ ?_
    exact gs_zret h hE dT_isDigit_17 (by omega) (⟨by rw [if_neg (by unfold isD; omega)], rfl⟩)
  · refine go_iload_n (pc' := 7) h ⟨dT_isDigit_6, rfl⟩ rfl ?_
    refine gi_bipush (pc' := 9) h ⟨dT_isDigit_7, rfl⟩ rfl ?_
    refine gi_icmp_gt (tgt := 16) (pc' := 12) h dT_isDigit_9 rfl rfl (by omega) (fun c9 => ?_) (fun c9 => ?_)
    · refine gi_iconst (pc' := 17) h ⟨dT_isDigit_16, rfl⟩ ?_
      exact gs_zret h hE dT_isDigit_17 (by omega) (⟨by rw [if_neg (by unfold isD; omega)], rfl⟩)
    · refine gi_iconst (pc' := 13) h ⟨dT_isDigit_12, rfl⟩ ?_
      refine gi_goto (tgt := 17) h dT_isDigit_13 rfl ?_
      exact gs_zret h hE dT_isDigit_17 (by omega) (⟨by rw [if_pos (by unfold isD; omega)], rfl⟩)
set_option maxRecDepth 4000 in
theorem cT_next (X : XT) {S : Sg} (hz : 0 ≤ S.1 2 1 ∧ S.1 2 1 ≤ 120) (hf : ∀ j : Int, 0 ≤ j → j < S.1 2 1 → 0 ≤ S.1 3 j ∧ S.1 3 j ≤ 255) (hi : 0 ≤ S.1 1 1 ∧ S.1 1 1 ≤ S.1 2 1) : Ctr X 1 yT_nextToken bT_nextToken 2 none [.ref 1] (mk S) (PV (fun S' => S' = aset S 1 (nxW (S.1 3) (S.1 2 1) (S.1 1)))) 0 0 := by
  refine Ctr.ofS (by decide) rfl (Nat.le_of_ble_eq_true rfl) (fun F h hF hE => ?_)
  have digits : ∀ (s0 : Int), s0 = lS (S.1 3) (S.1 2 1) (S.1 1 1) → 0 ≤ s0 → s0 < S.1 2 1 → isD (S.1 3 s0) → ∀ (n : Nat) (j v : Int), S.1 2 1 - j < n → s0 ≤ j → j ≤ S.1 2 1 → 0 ≤ v ∧ v ≤ 100 → dgF (S.1 3) (S.1 2 1) 121 s0 = dgF (S.1 3) (S.1 2 1) n j → nvF (S.1 3) (S.1 2 1) 121 s0 0 = nvF (S.1 3) (S.1 2 1) n j v → Go F 2 (mk (pt (pt (pt (pt S 1 3 s0) 1 2 (S.1 3 s0)) 1 1 j) 1 4 v)) 0 0 114 [.ref 1] [] := by
    intro s0 e_S g1 g2 g3 n
    induction n with
    | zero => intro j v g4 g5 g6; exfalso; omega
    | succ n ih =>
      intro j v g4 g5 g6 g7 g8 g9
      refine go_aload_n (pc' := 115) h ⟨dT_nextToken_114, rfl⟩ rfl ?_
      refine gs_get (v := .int (iI (j))) (pc' := 118) h ⟨dT_nextToken_115, rfl⟩ fgT_25 rfl (by decide) (rfl) ?_
      refine go_aload_n (pc' := 119) h ⟨dT_nextToken_118, rfl⟩ rfl ?_
      refine gs_get (v := .ref 2) (pc' := 122) h ⟨dT_nextToken_119, rfl⟩ fgT_14 rfl (by decide) (rfl) ?_
      refine gd_callVI (e := S.1 2 1) (E := pt (pt (pt (pt S 1 3 s0) 1 2 (S.1 3 s0)) 1 1 j) 1 4 v) (pc' := 125) (As := []) (st := [.int (iI (j))]) h hF ⟨dT_nextToken_122, rfl⟩ kvT_94 (cR_size X rfl) (by omega) rfl (by decide) ⟨_, _, rfl⟩ rfl (Nat.le_of_ble_eq_true rfl) rfl ?_
      refine gi_icmp_ge (tgt := 189) (pc' := 128) h dT_nextToken_125 rfl rfl (by omega) (fun c125 => ?_) (fun c125 => ?_)
      · have e_d : dgF (S.1 3) (S.1 2 1) 121 s0 = j := by rw [g8, dgF, if_neg (by omega)]
        have e_v : nvF (S.1 3) (S.1 2 1) 121 s0 0 = v := by rw [g9, nvF, if_neg (by omega)]
        have e_K : lK (S.1 3) (S.1 2 1) (S.1 1 1) = 2 := by unfold lK; rw [← e_S, if_neg (by omega), if_pos g3]
        have e_E : lE (S.1 3) (S.1 2 1) (S.1 1 1) = j := by unfold lE; rw [← e_S, if_neg (by omega), if_pos g3, e_d]
        refine go_aload_n (pc' := 190) h ⟨dT_nextToken_189, rfl⟩ rfl ?_
        refine gs_get (v := .int (iI (S.1 3 s0))) (pc' := 193) h ⟨dT_nextToken_190, rfl⟩ fgT_39 rfl (by decide) (rfl) ?_
        refine gi_bipush (pc' := 195) h ⟨dT_nextToken_193, rfl⟩ rfl ?_
        refine gi_icmp_ne (tgt := 215) (pc' := 198) h dT_nextToken_195 rfl rfl (by omega) (fun c195 => ?_) (fun c195 => ?_)
        · refine gi_iconst (pc' := 216) h ⟨dT_nextToken_215, rfl⟩ ?_
          refine go_istore_n (L' := [.ref 1, .int (iI (0))]) (pc' := 217) h ⟨dT_nextToken_216, rfl⟩ (by decide) rfl rfl ?_
          refine go_iload_n (pc' := 218) h ⟨dT_nextToken_217, rfl⟩ rfl ?_
          refine gi_if_ne (tgt := 230) (pc' := 221) h dT_nextToken_218 rfl rfl (by omega) (fun c218 => ?_) (fun c218 => ?_)
          · exact absurd c218 (by decide)
          · refine go_aload_n (pc' := 222) h ⟨dT_nextToken_221, rfl⟩ rfl ?_
            refine gs_get (v := .int (iI (v))) (pc' := 225) h ⟨dT_nextToken_222, rfl⟩ fgT_75 rfl (by decide) (rfl) ?_
            refine gi_bipush (pc' := 227) h ⟨dT_nextToken_225, rfl⟩ rfl ?_
            refine gi_icmp_le (tgt := 235) (pc' := 230) h dT_nextToken_227 rfl rfl (by omega) (fun c227 => ?_) (fun c227 => ?_)
            · refine go_aload_n (pc' := 236) h ⟨dT_nextToken_235, rfl⟩ rfl ?_
              refine gi_sipush (pc' := 239) h ⟨dT_nextToken_236, rfl⟩ rfl ?_
              refine gd_putI (i := 2) (pc' := 242) h ⟨dT_nextToken_239, rfl⟩ fpT_39 rfl (by decide) rfl rfl ?_
              have e_V : lV (S.1 3) (S.1 2 1) (S.1 1 1) = v := by unfold lV; rw [← e_S, if_pos g3, e_d, e_v, if_neg (by omega)]
              exact gs_vret h hE dT_nextToken_242 (by simp only [pt_aset, aset_eq, aset_aset]; refine congrArg (aset S 1) (funext fun q => ?_); simp only [nxW, uF, tkF, ← e_S, e_K, e_E, e_V]; by_cases q1 : q = 1 <;> by_cases q2 : q = 2 <;> by_cases q3 : q = 3 <;> by_cases q4 : q = 4 <;> simp [q1, q2, q3, q4] <;> omega)
            · refine go_aload_n (pc' := 231) h ⟨dT_nextToken_230, rfl⟩ rfl ?_
              refine gi_iconst (pc' := 232) h ⟨dT_nextToken_231, rfl⟩ ?_
              refine gd_putI (i := 4) (pc' := 235) h ⟨dT_nextToken_232, rfl⟩ fpT_75 rfl (by decide) rfl rfl ?_
              refine go_aload_n (pc' := 236) h ⟨dT_nextToken_235, rfl⟩ rfl ?_
              refine gi_sipush (pc' := 239) h ⟨dT_nextToken_236, rfl⟩ rfl ?_
              refine gd_putI (i := 2) (pc' := 242) h ⟨dT_nextToken_239, rfl⟩ fpT_39 rfl (by decide) rfl rfl ?_
              have e_V : lV (S.1 3) (S.1 2 1) (S.1 1 1) = -1 := by unfold lV; rw [← e_S, if_pos g3, e_d, e_v, if_pos (by omega)]
              exact gs_vret h hE dT_nextToken_242 (by simp only [pt_aset, aset_eq, aset_aset]; refine congrArg (aset S 1) (funext fun q => ?_); simp only [nxW, uF, tkF, ← e_S, e_K, e_E, e_V]; by_cases q1 : q = 1 <;> by_cases q2 : q = 2 <;> by_cases q3 : q = 3 <;> by_cases q4 : q = 4 <;> simp [q1, q2, q3, q4] <;> omega)
        · refine go_aload_n (pc' := 199) h ⟨dT_nextToken_198, rfl⟩ rfl ?_
          refine gs_get (v := .int (iI (j))) (pc' := 202) h ⟨dT_nextToken_199, rfl⟩ fgT_25 rfl (by decide) (rfl) ?_
          refine go_aload_n (pc' := 203) h ⟨dT_nextToken_202, rfl⟩ rfl ?_
          refine gs_get (v := .int (iI (s0))) (pc' := 206) h ⟨dT_nextToken_203, rfl⟩ fgT_46 rfl (by decide) (rfl) ?_
          refine gi_iconst (pc' := 207) h ⟨dT_nextToken_206, rfl⟩ ?_
          refine gi_iadd (pc' := 208) h ⟨dT_nextToken_207, rfl⟩ ?_
          refine gi_icmp_le (tgt := 215) (pc' := 211) h dT_nextToken_208 rfl rfl (by omega) (fun c208 => ?_) (fun c208 => ?_)
          · refine gi_iconst (pc' := 216) h ⟨dT_nextToken_215, rfl⟩ ?_
            refine go_istore_n (L' := [.ref 1, .int (iI (0))]) (pc' := 217) h ⟨dT_nextToken_216, rfl⟩ (by decide) rfl rfl ?_
            refine go_iload_n (pc' := 218) h ⟨dT_nextToken_217, rfl⟩ rfl ?_
            refine gi_if_ne (tgt := 230) (pc' := 221) h dT_nextToken_218 rfl rfl (by omega) (fun c218 => ?_) (fun c218 => ?_)
            · exact absurd c218 (by decide)
            · refine go_aload_n (pc' := 222) h ⟨dT_nextToken_221, rfl⟩ rfl ?_
              refine gs_get (v := .int (iI (v))) (pc' := 225) h ⟨dT_nextToken_222, rfl⟩ fgT_75 rfl (by decide) (rfl) ?_
              refine gi_bipush (pc' := 227) h ⟨dT_nextToken_225, rfl⟩ rfl ?_
              refine gi_icmp_le (tgt := 235) (pc' := 230) h dT_nextToken_227 rfl rfl (by omega) (fun c227 => ?_) (fun c227 => ?_)
              · refine go_aload_n (pc' := 236) h ⟨dT_nextToken_235, rfl⟩ rfl ?_
                refine gi_sipush (pc' := 239) h ⟨dT_nextToken_236, rfl⟩ rfl ?_
                refine gd_putI (i := 2) (pc' := 242) h ⟨dT_nextToken_239, rfl⟩ fpT_39 rfl (by decide) rfl rfl ?_
                have e_V : lV (S.1 3) (S.1 2 1) (S.1 1 1) = v := by unfold lV; rw [← e_S, if_pos g3, e_d, e_v, if_neg (by omega)]
                exact gs_vret h hE dT_nextToken_242 (by simp only [pt_aset, aset_eq, aset_aset]; refine congrArg (aset S 1) (funext fun q => ?_); simp only [nxW, uF, tkF, ← e_S, e_K, e_E, e_V]; by_cases q1 : q = 1 <;> by_cases q2 : q = 2 <;> by_cases q3 : q = 3 <;> by_cases q4 : q = 4 <;> simp [q1, q2, q3, q4] <;> omega)
              · refine go_aload_n (pc' := 231) h ⟨dT_nextToken_230, rfl⟩ rfl ?_
                refine gi_iconst (pc' := 232) h ⟨dT_nextToken_231, rfl⟩ ?_
                refine gd_putI (i := 4) (pc' := 235) h ⟨dT_nextToken_232, rfl⟩ fpT_75 rfl (by decide) rfl rfl ?_
                refine go_aload_n (pc' := 236) h ⟨dT_nextToken_235, rfl⟩ rfl ?_
                refine gi_sipush (pc' := 239) h ⟨dT_nextToken_236, rfl⟩ rfl ?_
                refine gd_putI (i := 2) (pc' := 242) h ⟨dT_nextToken_239, rfl⟩ fpT_39 rfl (by decide) rfl rfl ?_
                have e_V : lV (S.1 3) (S.1 2 1) (S.1 1 1) = -1 := by unfold lV; rw [← e_S, if_pos g3, e_d, e_v, if_pos (by omega)]
                exact gs_vret h hE dT_nextToken_242 (by simp only [pt_aset, aset_eq, aset_aset]; refine congrArg (aset S 1) (funext fun q => ?_); simp only [nxW, uF, tkF, ← e_S, e_K, e_E, e_V]; by_cases q1 : q = 1 <;> by_cases q2 : q = 2 <;> by_cases q3 : q = 3 <;> by_cases q4 : q = 4 <;> simp [q1, q2, q3, q4] <;> omega)
          · refine gi_iconst (pc' := 212) h ⟨dT_nextToken_211, rfl⟩ ?_
            refine gi_goto (tgt := 216) h dT_nextToken_212 rfl ?_
            refine go_istore_n (L' := [.ref 1, .int (iI (1))]) (pc' := 217) h ⟨dT_nextToken_216, rfl⟩ (by decide) rfl rfl ?_
            refine go_iload_n (pc' := 218) h ⟨dT_nextToken_217, rfl⟩ rfl ?_
            refine gi_if_ne (tgt := 230) (pc' := 221) h dT_nextToken_218 rfl rfl (by omega) (fun c218 => ?_) (fun c218 => ?_)
            · refine go_aload_n (pc' := 231) h ⟨dT_nextToken_230, rfl⟩ rfl ?_
              refine gi_iconst (pc' := 232) h ⟨dT_nextToken_231, rfl⟩ ?_
              refine gd_putI (i := 4) (pc' := 235) h ⟨dT_nextToken_232, rfl⟩ fpT_75 rfl (by decide) rfl rfl ?_
              refine go_aload_n (pc' := 236) h ⟨dT_nextToken_235, rfl⟩ rfl ?_
              refine gi_sipush (pc' := 239) h ⟨dT_nextToken_236, rfl⟩ rfl ?_
              refine gd_putI (i := 2) (pc' := 242) h ⟨dT_nextToken_239, rfl⟩ fpT_39 rfl (by decide) rfl rfl ?_
              have e_V : lV (S.1 3) (S.1 2 1) (S.1 1 1) = -1 := by unfold lV; rw [← e_S, if_pos g3, e_d, e_v, if_pos (by omega)]
              exact gs_vret h hE dT_nextToken_242 (by simp only [pt_aset, aset_eq, aset_aset]; refine congrArg (aset S 1) (funext fun q => ?_); simp only [nxW, uF, tkF, ← e_S, e_K, e_E, e_V]; by_cases q1 : q = 1 <;> by_cases q2 : q = 2 <;> by_cases q3 : q = 3 <;> by_cases q4 : q = 4 <;> simp [q1, q2, q3, q4] <;> omega)
            · exact absurd c218 (by decide)
      · refine go_aload_n (pc' := 129) h ⟨dT_nextToken_128, rfl⟩ rfl ?_
        refine gs_get (v := .ref 2) (pc' := 132) h ⟨dT_nextToken_129, rfl⟩ fgT_14 rfl (by decide) (rfl) ?_
        refine go_aload_n (pc' := 133) h ⟨dT_nextToken_132, rfl⟩ rfl ?_
        refine gs_get (v := .int (iI (j))) (pc' := 136) h ⟨dT_nextToken_133, rfl⟩ fgT_25 rfl (by decide) (rfl) ?_
        refine gd_callVI (e := S.1 3 j) (E := pt (pt (pt (pt S 1 3 s0) 1 2 (S.1 3 s0)) 1 1 j) 1 4 v) (pc' := 139) (As := [.int (iI (j))]) (st := []) h hF ⟨dT_nextToken_136, rfl⟩ kvT_98 (cR_ati X (n := 120) rfl rfl (by omega)) (by omega) rfl (by decide) ⟨_, _, rfl⟩ rfl (Nat.le_of_ble_eq_true rfl) rfl ?_
        have gf_136 := hf j (by omega) (by omega)
        refine gd_callSI (e := if isD (S.1 3 j) then 1 else 0) (E := pt (pt (pt (pt S 1 3 s0) 1 2 (S.1 3 s0)) 1 1 j) 1 4 v) (pc' := 142) (As := [.int (iI (S.1 3 j))]) (st := []) h hF ⟨dT_nextToken_139, rfl⟩ kvT_102 (cT_isDigit X (by omega)) (by omega) rfl (Nat.le_of_ble_eq_true rfl) rfl ?_
        refine gi_if_eq (tgt := 189) (pc' := 145) h dT_nextToken_142 rfl rfl (by split <;> omega) (fun c142 => ?_) (fun c142 => ?_)
        · have c142 := b0 c142
          have e_d : dgF (S.1 3) (S.1 2 1) 121 s0 = j := by rw [g8, dgF, if_neg (by omega)]
          have e_v : nvF (S.1 3) (S.1 2 1) 121 s0 0 = v := by rw [g9, nvF, if_neg (by omega)]
          have e_K : lK (S.1 3) (S.1 2 1) (S.1 1 1) = 2 := by unfold lK; rw [← e_S, if_neg (by omega), if_pos g3]
          have e_E : lE (S.1 3) (S.1 2 1) (S.1 1 1) = j := by unfold lE; rw [← e_S, if_neg (by omega), if_pos g3, e_d]
          refine go_aload_n (pc' := 190) h ⟨dT_nextToken_189, rfl⟩ rfl ?_
          refine gs_get (v := .int (iI (S.1 3 s0))) (pc' := 193) h ⟨dT_nextToken_190, rfl⟩ fgT_39 rfl (by decide) (rfl) ?_
          refine gi_bipush (pc' := 195) h ⟨dT_nextToken_193, rfl⟩ rfl ?_
          refine gi_icmp_ne (tgt := 215) (pc' := 198) h dT_nextToken_195 rfl rfl (by omega) (fun c195 => ?_) (fun c195 => ?_)
          · refine gi_iconst (pc' := 216) h ⟨dT_nextToken_215, rfl⟩ ?_
            refine go_istore_n (L' := [.ref 1, .int (iI (0))]) (pc' := 217) h ⟨dT_nextToken_216, rfl⟩ (by decide) rfl rfl ?_
            refine go_iload_n (pc' := 218) h ⟨dT_nextToken_217, rfl⟩ rfl ?_
            refine gi_if_ne (tgt := 230) (pc' := 221) h dT_nextToken_218 rfl rfl (by omega) (fun c218 => ?_) (fun c218 => ?_)
            · exact absurd c218 (by decide)
            · refine go_aload_n (pc' := 222) h ⟨dT_nextToken_221, rfl⟩ rfl ?_
              refine gs_get (v := .int (iI (v))) (pc' := 225) h ⟨dT_nextToken_222, rfl⟩ fgT_75 rfl (by decide) (rfl) ?_
              refine gi_bipush (pc' := 227) h ⟨dT_nextToken_225, rfl⟩ rfl ?_
              refine gi_icmp_le (tgt := 235) (pc' := 230) h dT_nextToken_227 rfl rfl (by omega) (fun c227 => ?_) (fun c227 => ?_)
              · refine go_aload_n (pc' := 236) h ⟨dT_nextToken_235, rfl⟩ rfl ?_
                refine gi_sipush (pc' := 239) h ⟨dT_nextToken_236, rfl⟩ rfl ?_
                refine gd_putI (i := 2) (pc' := 242) h ⟨dT_nextToken_239, rfl⟩ fpT_39 rfl (by decide) rfl rfl ?_
                have e_V : lV (S.1 3) (S.1 2 1) (S.1 1 1) = v := by unfold lV; rw [← e_S, if_pos g3, e_d, e_v, if_neg (by omega)]
                exact gs_vret h hE dT_nextToken_242 (by simp only [pt_aset, aset_eq, aset_aset]; refine congrArg (aset S 1) (funext fun q => ?_); simp only [nxW, uF, tkF, ← e_S, e_K, e_E, e_V]; by_cases q1 : q = 1 <;> by_cases q2 : q = 2 <;> by_cases q3 : q = 3 <;> by_cases q4 : q = 4 <;> simp [q1, q2, q3, q4] <;> omega)
              · refine go_aload_n (pc' := 231) h ⟨dT_nextToken_230, rfl⟩ rfl ?_
                refine gi_iconst (pc' := 232) h ⟨dT_nextToken_231, rfl⟩ ?_
                refine gd_putI (i := 4) (pc' := 235) h ⟨dT_nextToken_232, rfl⟩ fpT_75 rfl (by decide) rfl rfl ?_
                refine go_aload_n (pc' := 236) h ⟨dT_nextToken_235, rfl⟩ rfl ?_
                refine gi_sipush (pc' := 239) h ⟨dT_nextToken_236, rfl⟩ rfl ?_
                refine gd_putI (i := 2) (pc' := 242) h ⟨dT_nextToken_239, rfl⟩ fpT_39 rfl (by decide) rfl rfl ?_
                have e_V : lV (S.1 3) (S.1 2 1) (S.1 1 1) = -1 := by unfold lV; rw [← e_S, if_pos g3, e_d, e_v, if_pos (by omega)]
                exact gs_vret h hE dT_nextToken_242 (by simp only [pt_aset, aset_eq, aset_aset]; refine congrArg (aset S 1) (funext fun q => ?_); simp only [nxW, uF, tkF, ← e_S, e_K, e_E, e_V]; by_cases q1 : q = 1 <;> by_cases q2 : q = 2 <;> by_cases q3 : q = 3 <;> by_cases q4 : q = 4 <;> simp [q1, q2, q3, q4] <;> omega)
          · refine go_aload_n (pc' := 199) h ⟨dT_nextToken_198, rfl⟩ rfl ?_
            refine gs_get (v := .int (iI (j))) (pc' := 202) h ⟨dT_nextToken_199, rfl⟩ fgT_25 rfl (by decide) (rfl) ?_
            refine go_aload_n (pc' := 203) h ⟨dT_nextToken_202, rfl⟩ rfl ?_
            refine gs_get (v := .int (iI (s0))) (pc' := 206) h ⟨dT_nextToken_203, rfl⟩ fgT_46 rfl (by decide) (rfl) ?_
            refine gi_iconst (pc' := 207) h ⟨dT_nextToken_206, rfl⟩ ?_
            refine gi_iadd (pc' := 208) h ⟨dT_nextToken_207, rfl⟩ ?_
            refine gi_icmp_le (tgt := 215) (pc' := 211) h dT_nextToken_208 rfl rfl (by omega) (fun c208 => ?_) (fun c208 => ?_)
            · refine gi_iconst (pc' := 216) h ⟨dT_nextToken_215, rfl⟩ ?_
              refine go_istore_n (L' := [.ref 1, .int (iI (0))]) (pc' := 217) h ⟨dT_nextToken_216, rfl⟩ (by decide) rfl rfl ?_
              refine go_iload_n (pc' := 218) h ⟨dT_nextToken_217, rfl⟩ rfl ?_
              refine gi_if_ne (tgt := 230) (pc' := 221) h dT_nextToken_218 rfl rfl (by omega) (fun c218 => ?_) (fun c218 => ?_)
              · exact absurd c218 (by decide)
              · refine go_aload_n (pc' := 222) h ⟨dT_nextToken_221, rfl⟩ rfl ?_
                refine gs_get (v := .int (iI (v))) (pc' := 225) h ⟨dT_nextToken_222, rfl⟩ fgT_75 rfl (by decide) (rfl) ?_
                refine gi_bipush (pc' := 227) h ⟨dT_nextToken_225, rfl⟩ rfl ?_
                refine gi_icmp_le (tgt := 235) (pc' := 230) h dT_nextToken_227 rfl rfl (by omega) (fun c227 => ?_) (fun c227 => ?_)
                · refine go_aload_n (pc' := 236) h ⟨dT_nextToken_235, rfl⟩ rfl ?_
                  refine gi_sipush (pc' := 239) h ⟨dT_nextToken_236, rfl⟩ rfl ?_
                  refine gd_putI (i := 2) (pc' := 242) h ⟨dT_nextToken_239, rfl⟩ fpT_39 rfl (by decide) rfl rfl ?_
                  have e_V : lV (S.1 3) (S.1 2 1) (S.1 1 1) = v := by unfold lV; rw [← e_S, if_pos g3, e_d, e_v, if_neg (by omega)]
                  exact gs_vret h hE dT_nextToken_242 (by simp only [pt_aset, aset_eq, aset_aset]; refine congrArg (aset S 1) (funext fun q => ?_); simp only [nxW, uF, tkF, ← e_S, e_K, e_E, e_V]; by_cases q1 : q = 1 <;> by_cases q2 : q = 2 <;> by_cases q3 : q = 3 <;> by_cases q4 : q = 4 <;> simp [q1, q2, q3, q4] <;> omega)
                · refine go_aload_n (pc' := 231) h ⟨dT_nextToken_230, rfl⟩ rfl ?_
                  refine gi_iconst (pc' := 232) h ⟨dT_nextToken_231, rfl⟩ ?_
                  refine gd_putI (i := 4) (pc' := 235) h ⟨dT_nextToken_232, rfl⟩ fpT_75 rfl (by decide) rfl rfl ?_
                  refine go_aload_n (pc' := 236) h ⟨dT_nextToken_235, rfl⟩ rfl ?_
                  refine gi_sipush (pc' := 239) h ⟨dT_nextToken_236, rfl⟩ rfl ?_
                  refine gd_putI (i := 2) (pc' := 242) h ⟨dT_nextToken_239, rfl⟩ fpT_39 rfl (by decide) rfl rfl ?_
                  have e_V : lV (S.1 3) (S.1 2 1) (S.1 1 1) = -1 := by unfold lV; rw [← e_S, if_pos g3, e_d, e_v, if_pos (by omega)]
                  exact gs_vret h hE dT_nextToken_242 (by simp only [pt_aset, aset_eq, aset_aset]; refine congrArg (aset S 1) (funext fun q => ?_); simp only [nxW, uF, tkF, ← e_S, e_K, e_E, e_V]; by_cases q1 : q = 1 <;> by_cases q2 : q = 2 <;> by_cases q3 : q = 3 <;> by_cases q4 : q = 4 <;> simp [q1, q2, q3, q4] <;> omega)
            · refine gi_iconst (pc' := 212) h ⟨dT_nextToken_211, rfl⟩ ?_
              refine gi_goto (tgt := 216) h dT_nextToken_212 rfl ?_
              refine go_istore_n (L' := [.ref 1, .int (iI (1))]) (pc' := 217) h ⟨dT_nextToken_216, rfl⟩ (by decide) rfl rfl ?_
              refine go_iload_n (pc' := 218) h ⟨dT_nextToken_217, rfl⟩ rfl ?_
              refine gi_if_ne (tgt := 230) (pc' := 221) h dT_nextToken_218 rfl rfl (by omega) (fun c218 => ?_) (fun c218 => ?_)
              · refine go_aload_n (pc' := 231) h ⟨dT_nextToken_230, rfl⟩ rfl ?_
                refine gi_iconst (pc' := 232) h ⟨dT_nextToken_231, rfl⟩ ?_
                refine gd_putI (i := 4) (pc' := 235) h ⟨dT_nextToken_232, rfl⟩ fpT_75 rfl (by decide) rfl rfl ?_
                refine go_aload_n (pc' := 236) h ⟨dT_nextToken_235, rfl⟩ rfl ?_
                refine gi_sipush (pc' := 239) h ⟨dT_nextToken_236, rfl⟩ rfl ?_
                refine gd_putI (i := 2) (pc' := 242) h ⟨dT_nextToken_239, rfl⟩ fpT_39 rfl (by decide) rfl rfl ?_
                have e_V : lV (S.1 3) (S.1 2 1) (S.1 1 1) = -1 := by unfold lV; rw [← e_S, if_pos g3, e_d, e_v, if_pos (by omega)]
                exact gs_vret h hE dT_nextToken_242 (by simp only [pt_aset, aset_eq, aset_aset]; refine congrArg (aset S 1) (funext fun q => ?_); simp only [nxW, uF, tkF, ← e_S, e_K, e_E, e_V]; by_cases q1 : q = 1 <;> by_cases q2 : q = 2 <;> by_cases q3 : q = 3 <;> by_cases q4 : q = 4 <;> simp [q1, q2, q3, q4] <;> omega)
              · exact absurd c218 (by decide)
        · have c142 := b1 c142
          refine go_aload_n (pc' := 146) h ⟨dT_nextToken_145, rfl⟩ rfl ?_
          refine gi_bipush (pc' := 148) h ⟨dT_nextToken_146, rfl⟩ rfl ?_
          refine gi_bipush (pc' := 150) h ⟨dT_nextToken_148, rfl⟩ rfl ?_
          refine go_aload_n (pc' := 151) h ⟨dT_nextToken_150, rfl⟩ rfl ?_
          refine gs_get (v := .int (iI (v))) (pc' := 154) h ⟨dT_nextToken_151, rfl⟩ fgT_75 rfl (by decide) (rfl) ?_
          refine gi_imul (pc' := 155) h ⟨dT_nextToken_154, rfl⟩ ?_
          refine go_aload_n (pc' := 156) h ⟨dT_nextToken_155, rfl⟩ rfl ?_
          refine gs_get (v := .ref 2) (pc' := 159) h ⟨dT_nextToken_156, rfl⟩ fgT_14 rfl (by decide) (rfl) ?_
          refine go_aload_n (pc' := 160) h ⟨dT_nextToken_159, rfl⟩ rfl ?_
          refine gs_get (v := .int (iI (j))) (pc' := 163) h ⟨dT_nextToken_160, rfl⟩ fgT_25 rfl (by decide) (rfl) ?_
          refine gd_callVI (e := S.1 3 j) (E := pt (pt (pt (pt S 1 3 s0) 1 2 (S.1 3 s0)) 1 1 j) 1 4 v) (pc' := 166) (As := [.int (iI (j))]) (st := [.int (iI (10 * v)), .int (iI (100)), .ref 1]) h hF ⟨dT_nextToken_163, rfl⟩ kvT_98 (cR_ati X (n := 120) rfl rfl (by omega)) (by omega) rfl (by decide) ⟨_, _, rfl⟩ rfl (Nat.le_of_ble_eq_true rfl) rfl ?_
          have gf_163 := hf j (by omega) (by omega)
          refine gi_iadd (pc' := 167) h ⟨dT_nextToken_166, rfl⟩ ?_
          refine gi_bipush (pc' := 169) h ⟨dT_nextToken_167, rfl⟩ rfl ?_
          refine gi_isub (pc' := 170) h ⟨dT_nextToken_169, rfl⟩ ?_
          refine gd_callSI (e := min 100 (((10 * v) + (S.1 3 j)) - 48)) (E := pt (pt (pt (pt S 1 3 s0) 1 2 (S.1 3 s0)) 1 1 j) 1 4 v) (pc' := 173) (As := [.int (iI (100)), .int (iI (((10 * v) + (S.1 3 j)) - 48))]) (st := [.ref 1]) h hF ⟨dT_nextToken_170, rfl⟩ kvT_106 (cK_min X (by omega)) (by omega) rfl (Nat.le_of_ble_eq_true rfl) rfl ?_
          refine gd_putI (i := 4) (pc' := 176) h ⟨dT_nextToken_173, rfl⟩ fpT_75 rfl (by decide) rfl rfl ?_
          refine go_aload_n (pc' := 177) h ⟨dT_nextToken_176, rfl⟩ rfl ?_
          refine go_dup (pc' := 178) h ⟨dT_nextToken_177, rfl⟩ rfl ?_
          refine gs_get (v := .int (iI (j))) (pc' := 181) h ⟨dT_nextToken_178, rfl⟩ fgT_25 rfl (by decide) (rfl) ?_
          refine gi_iconst (pc' := 182) h ⟨dT_nextToken_181, rfl⟩ ?_
          refine gi_iadd (pc' := 183) h ⟨dT_nextToken_182, rfl⟩ ?_
          refine gd_putI (i := 1) (pc' := 186) h ⟨dT_nextToken_183, rfl⟩ fpT_25 rfl (by decide) rfl rfl ?_
          refine gi_goto (tgt := 114) h dT_nextToken_186 rfl ?_
          rw [pt_num]
          exact ih (j + 1) _ (by omega) (by omega) (by omega) (by omega) (by rw [g8, dgF, if_pos ⟨by omega, c142⟩]) (by rw [g9, nvF, if_pos ⟨by omega, c142⟩])
  have blanks : ∀ (n : Nat) (j : Int), S.1 2 1 - j < n → 0 ≤ j → j ≤ S.1 2 1 → skF (S.1 3) (S.1 2 1) 121 (S.1 1 1) = skF (S.1 3) (S.1 2 1) n j → Go F 2 (mk (pt S 1 1 j)) 0 0 0 [.ref 1] [] := by
    intro n
    induction n with
    | zero => intro j g4 g5 g6; exfalso; omega
    | succ n ih =>
      intro j g4 g5 g6 g7
      refine go_aload_n (pc' := 1) h ⟨dT_nextToken_0, rfl⟩ rfl ?_
      refine gs_get (v := .int (iI (j))) (pc' := 4) h ⟨dT_nextToken_1, rfl⟩ fgT_25 rfl (by decide) (rfl) ?_
      refine go_aload_n (pc' := 5) h ⟨dT_nextToken_4, rfl⟩ rfl ?_
      refine gs_get (v := .ref 2) (pc' := 8) h ⟨dT_nextToken_5, rfl⟩ fgT_14 rfl (by decide) (rfl) ?_
      refine gd_callVI (e := S.1 2 1) (E := pt S 1 1 j) (pc' := 11) (As := []) (st := [.int (iI (j))]) h hF ⟨dT_nextToken_8, rfl⟩ kvT_94 (cR_size X rfl) (by omega) rfl (by decide) ⟨_, _, rfl⟩ rfl (Nat.le_of_ble_eq_true rfl) rfl ?_
      refine gi_icmp_ge (tgt := 43) (pc' := 14) h dT_nextToken_11 rfl rfl (by omega) (fun c11 => ?_) (fun c11 => ?_)
      · have e_S : lS (S.1 3) (S.1 2 1) (S.1 1 1) = j := by unfold lS; rw [g7, skF, if_neg (by omega)]
        refine go_aload_n (pc' := 44) h ⟨dT_nextToken_43, rfl⟩ rfl ?_
        refine go_aload_n (pc' := 45) h ⟨dT_nextToken_44, rfl⟩ rfl ?_
        refine gs_get (v := .int (iI (j))) (pc' := 48) h ⟨dT_nextToken_45, rfl⟩ fgT_25 rfl (by decide) (rfl) ?_
        refine gd_putI (i := 3) (pc' := 51) h ⟨dT_nextToken_48, rfl⟩ fpT_46 rfl (by decide) rfl rfl ?_
        refine go_aload_n (pc' := 52) h ⟨dT_nextToken_51, rfl⟩ rfl ?_
        refine gs_get (v := .int (iI (j))) (pc' := 55) h ⟨dT_nextToken_52, rfl⟩ fgT_25 rfl (by decide) (rfl) ?_
        refine go_aload_n (pc' := 56) h ⟨dT_nextToken_55, rfl⟩ rfl ?_
        refine gs_get (v := .ref 2) (pc' := 59) h ⟨dT_nextToken_56, rfl⟩ fgT_14 rfl (by decide) (rfl) ?_
        refine gd_callVI (e := S.1 2 1) (E := pt (pt S 1 1 j) 1 3 j) (pc' := 62) (As := []) (st := [.int (iI (j))]) h hF ⟨dT_nextToken_59, rfl⟩ kvT_94 (cR_size X rfl) (by omega) rfl (by decide) ⟨_, _, rfl⟩ rfl (Nat.le_of_ble_eq_true rfl) rfl ?_
        refine gi_icmp_lt (tgt := 73) (pc' := 65) h dT_nextToken_62 rfl rfl (by omega) (fun c62 => ?_) (fun c62 => ?_)
        · refine go_aload_n (pc' := 74) h ⟨dT_nextToken_73, rfl⟩ rfl ?_
          refine go_aload_n (pc' := 75) h ⟨dT_nextToken_74, rfl⟩ rfl ?_
          refine gs_get (v := .ref 2) (pc' := 78) h ⟨dT_nextToken_75, rfl⟩ fgT_14 rfl (by decide) (rfl) ?_
          refine go_aload_n (pc' := 79) h ⟨dT_nextToken_78, rfl⟩ rfl ?_
          refine gs_get (v := .int (iI (j))) (pc' := 82) h ⟨dT_nextToken_79, rfl⟩ fgT_25 rfl (by decide) (rfl) ?_
          refine gd_callVI (e := S.1 3 j) (E := pt (pt S 1 1 j) 1 3 j) (pc' := 85) (As := [.int (iI (j))]) (st := [.ref 1]) h hF ⟨dT_nextToken_82, rfl⟩ kvT_98 (cR_ati X (n := 120) rfl rfl (by omega)) (by omega) rfl (by decide) ⟨_, _, rfl⟩ rfl (Nat.le_of_ble_eq_true rfl) rfl ?_
          have gf_82 := hf j (by omega) (by omega)
          refine gd_putI (i := 2) (pc' := 88) h ⟨dT_nextToken_85, rfl⟩ fpT_39 rfl (by decide) rfl rfl ?_
          refine go_aload_n (pc' := 89) h ⟨dT_nextToken_88, rfl⟩ rfl ?_
          refine gs_get (v := .int (iI (S.1 3 j))) (pc' := 92) h ⟨dT_nextToken_89, rfl⟩ fgT_39 rfl (by decide) (rfl) ?_
          refine gd_callSI (e := if isD (S.1 3 j) then 1 else 0) (E := pt (pt (pt S 1 1 j) 1 3 j) 1 2 (S.1 3 j)) (pc' := 95) (As := [.int (iI (S.1 3 j))]) (st := []) h hF ⟨dT_nextToken_92, rfl⟩ kvT_102 (cT_isDigit X (by omega)) (by omega) rfl (Nat.le_of_ble_eq_true rfl) rfl ?_
          refine gi_if_ne (tgt := 109) (pc' := 98) h dT_nextToken_95 rfl rfl (by split <;> omega) (fun c95 => ?_) (fun c95 => ?_)
          · have c95 := b1 c95
            refine go_aload_n (pc' := 110) h ⟨dT_nextToken_109, rfl⟩ rfl ?_
            refine gi_iconst (pc' := 111) h ⟨dT_nextToken_110, rfl⟩ ?_
            refine gd_putI (i := 4) (pc' := 114) h ⟨dT_nextToken_111, rfl⟩ fpT_75 rfl (by decide) rfl rfl ?_
            have h0 := digits j e_S.symm g5 (by omega) c95 121 j 0 (by omega) (by omega) (by omega) (by omega) rfl rfl
            rw [show pt (pt (pt (pt S 1 3 j) 1 2 (S.1 3 j)) 1 1 j) 1 4 0 = pt (pt (pt (pt S 1 1 j) 1 3 j) 1 2 (S.1 3 j)) 1 4 0 from by
              simp only [pt_aset, aset_eq, aset_aset]
              refine congrArg (aset S 1) (funext fun q => ?_)
              simp only [uF]
              by_cases q1 : q = 1 <;> by_cases q2 : q = 2 <;> by_cases q3 : q = 3 <;> by_cases q4 : q = 4 <;> simp [q1, q2, q3, q4] <;> omega] at h0
            exact h0
          · have c95 := b0 c95
            refine go_aload_n (pc' := 99) h ⟨dT_nextToken_98, rfl⟩ rfl ?_
            refine go_dup (pc' := 100) h ⟨dT_nextToken_99, rfl⟩ rfl ?_
            refine gs_get (v := .int (iI (j))) (pc' := 103) h ⟨dT_nextToken_100, rfl⟩ fgT_25 rfl (by decide) (rfl) ?_
            refine gi_iconst (pc' := 104) h ⟨dT_nextToken_103, rfl⟩ ?_
            refine gi_iadd (pc' := 105) h ⟨dT_nextToken_104, rfl⟩ ?_
            refine gd_putI (i := 1) (pc' := 108) h ⟨dT_nextToken_105, rfl⟩ fpT_25 rfl (by decide) rfl rfl ?_
            have e_K : lK (S.1 3) (S.1 2 1) (S.1 1 1) = 1 := by unfold lK; rw [e_S, if_neg (by omega), if_neg c95]
            have e_E : lE (S.1 3) (S.1 2 1) (S.1 1 1) = j + 1 := by unfold lE; rw [e_S, if_neg (by omega), if_neg c95]
            have e_V : lV (S.1 3) (S.1 2 1) (S.1 1 1) = S.1 3 j := by unfold lV; rw [e_S, if_neg c95]
            exact gs_vret h hE dT_nextToken_108 (by simp only [pt_aset, aset_eq, aset_aset]; refine congrArg (aset S 1) (funext fun q => ?_); simp only [nxW, uF, tkF, e_S, e_K, e_E, e_V]; by_cases q1 : q = 1 <;> by_cases q2 : q = 2 <;> by_cases q3 : q = 3 <;> by_cases q4 : q = 4 <;> simp [q1, q2, q3, q4] <;> omega)
        · refine go_aload_n (pc' := 66) h ⟨dT_nextToken_65, rfl⟩ rfl ?_
          refine gi_sipush (pc' := 69) h ⟨dT_nextToken_66, rfl⟩ rfl ?_
          refine gd_putI (i := 2) (pc' := 72) h ⟨dT_nextToken_69, rfl⟩ fpT_39 rfl (by decide) rfl rfl ?_
          have e_K : lK (S.1 3) (S.1 2 1) (S.1 1 1) = 0 := by unfold lK; rw [e_S, if_pos (by omega)]
          have e_E : lE (S.1 3) (S.1 2 1) (S.1 1 1) = j := by unfold lE; rw [e_S, if_pos (by omega)]
          exact gs_vret h hE dT_nextToken_72 (by simp only [pt_aset, aset_eq, aset_aset]; refine congrArg (aset S 1) (funext fun q => ?_); simp only [nxW, uF, tkF, e_S, e_K, e_E]; by_cases q1 : q = 1 <;> by_cases q2 : q = 2 <;> by_cases q3 : q = 3 <;> by_cases q4 : q = 4 <;> simp [q1, q2, q3, q4] <;> omega)
      · refine go_aload_n (pc' := 15) h ⟨dT_nextToken_14, rfl⟩ rfl ?_
        refine gs_get (v := .ref 2) (pc' := 18) h ⟨dT_nextToken_15, rfl⟩ fgT_14 rfl (by decide) (rfl) ?_
        refine go_aload_n (pc' := 19) h ⟨dT_nextToken_18, rfl⟩ rfl ?_
        refine gs_get (v := .int (iI (j))) (pc' := 22) h ⟨dT_nextToken_19, rfl⟩ fgT_25 rfl (by decide) (rfl) ?_
        refine gd_callVI (e := S.1 3 j) (E := pt S 1 1 j) (pc' := 25) (As := [.int (iI (j))]) (st := []) h hF ⟨dT_nextToken_22, rfl⟩ kvT_98 (cR_ati X (n := 120) rfl rfl (by omega)) (by omega) rfl (by decide) ⟨_, _, rfl⟩ rfl (Nat.le_of_ble_eq_true rfl) rfl ?_
        have gf_22 := hf j (by omega) (by omega)
        refine gi_bipush (pc' := 27) h ⟨dT_nextToken_25, rfl⟩ rfl ?_
        refine gi_icmp_ne (tgt := 43) (pc' := 30) h dT_nextToken_27 rfl rfl (by omega) (fun c27 => ?_) (fun c27 => ?_)
        · have e_S : lS (S.1 3) (S.1 2 1) (S.1 1 1) = j := by unfold lS; rw [g7, skF, if_neg (by omega)]
          refine go_aload_n (pc' := 44) h ⟨dT_nextToken_43, rfl⟩ rfl ?_
          refine go_aload_n (pc' := 45) h ⟨dT_nextToken_44, rfl⟩ rfl ?_
          refine gs_get (v := .int (iI (j))) (pc' := 48) h ⟨dT_nextToken_45, rfl⟩ fgT_25 rfl (by decide) (rfl) ?_
          refine gd_putI (i := 3) (pc' := 51) h ⟨dT_nextToken_48, rfl⟩ fpT_46 rfl (by decide) rfl rfl ?_
          refine go_aload_n (pc' := 52) h ⟨dT_nextToken_51, rfl⟩ rfl ?_
          refine gs_get (v := .int (iI (j))) (pc' := 55) h ⟨dT_nextToken_52, rfl⟩ fgT_25 rfl (by decide) (rfl) ?_
          refine go_aload_n (pc' := 56) h ⟨dT_nextToken_55, rfl⟩ rfl ?_
          refine gs_get (v := .ref 2) (pc' := 59) h ⟨dT_nextToken_56, rfl⟩ fgT_14 rfl (by decide) (rfl) ?_
          refine gd_callVI (e := S.1 2 1) (E := pt (pt S 1 1 j) 1 3 j) (pc' := 62) (As := []) (st := [.int (iI (j))]) h hF ⟨dT_nextToken_59, rfl⟩ kvT_94 (cR_size X rfl) (by omega) rfl (by decide) ⟨_, _, rfl⟩ rfl (Nat.le_of_ble_eq_true rfl) rfl ?_
          refine gi_icmp_lt (tgt := 73) (pc' := 65) h dT_nextToken_62 rfl rfl (by omega) (fun c62 => ?_) (fun c62 => ?_)
          · refine go_aload_n (pc' := 74) h ⟨dT_nextToken_73, rfl⟩ rfl ?_
            refine go_aload_n (pc' := 75) h ⟨dT_nextToken_74, rfl⟩ rfl ?_
            refine gs_get (v := .ref 2) (pc' := 78) h ⟨dT_nextToken_75, rfl⟩ fgT_14 rfl (by decide) (rfl) ?_
            refine go_aload_n (pc' := 79) h ⟨dT_nextToken_78, rfl⟩ rfl ?_
            refine gs_get (v := .int (iI (j))) (pc' := 82) h ⟨dT_nextToken_79, rfl⟩ fgT_25 rfl (by decide) (rfl) ?_
            refine gd_callVI (e := S.1 3 j) (E := pt (pt S 1 1 j) 1 3 j) (pc' := 85) (As := [.int (iI (j))]) (st := [.ref 1]) h hF ⟨dT_nextToken_82, rfl⟩ kvT_98 (cR_ati X (n := 120) rfl rfl (by omega)) (by omega) rfl (by decide) ⟨_, _, rfl⟩ rfl (Nat.le_of_ble_eq_true rfl) rfl ?_
            have gf_82 := hf j (by omega) (by omega)
            refine gd_putI (i := 2) (pc' := 88) h ⟨dT_nextToken_85, rfl⟩ fpT_39 rfl (by decide) rfl rfl ?_
            refine go_aload_n (pc' := 89) h ⟨dT_nextToken_88, rfl⟩ rfl ?_
            refine gs_get (v := .int (iI (S.1 3 j))) (pc' := 92) h ⟨dT_nextToken_89, rfl⟩ fgT_39 rfl (by decide) (rfl) ?_
            refine gd_callSI (e := if isD (S.1 3 j) then 1 else 0) (E := pt (pt (pt S 1 1 j) 1 3 j) 1 2 (S.1 3 j)) (pc' := 95) (As := [.int (iI (S.1 3 j))]) (st := []) h hF ⟨dT_nextToken_92, rfl⟩ kvT_102 (cT_isDigit X (by omega)) (by omega) rfl (Nat.le_of_ble_eq_true rfl) rfl ?_
            refine gi_if_ne (tgt := 109) (pc' := 98) h dT_nextToken_95 rfl rfl (by split <;> omega) (fun c95 => ?_) (fun c95 => ?_)
            · have c95 := b1 c95
              refine go_aload_n (pc' := 110) h ⟨dT_nextToken_109, rfl⟩ rfl ?_
              refine gi_iconst (pc' := 111) h ⟨dT_nextToken_110, rfl⟩ ?_
              refine gd_putI (i := 4) (pc' := 114) h ⟨dT_nextToken_111, rfl⟩ fpT_75 rfl (by decide) rfl rfl ?_
              have h0 := digits j e_S.symm g5 (by omega) c95 121 j 0 (by omega) (by omega) (by omega) (by omega) rfl rfl
              rw [show pt (pt (pt (pt S 1 3 j) 1 2 (S.1 3 j)) 1 1 j) 1 4 0 = pt (pt (pt (pt S 1 1 j) 1 3 j) 1 2 (S.1 3 j)) 1 4 0 from by
                simp only [pt_aset, aset_eq, aset_aset]
                refine congrArg (aset S 1) (funext fun q => ?_)
                simp only [uF]
                by_cases q1 : q = 1 <;> by_cases q2 : q = 2 <;> by_cases q3 : q = 3 <;> by_cases q4 : q = 4 <;> simp [q1, q2, q3, q4] <;> omega] at h0
              exact h0
            · have c95 := b0 c95
              refine go_aload_n (pc' := 99) h ⟨dT_nextToken_98, rfl⟩ rfl ?_
              refine go_dup (pc' := 100) h ⟨dT_nextToken_99, rfl⟩ rfl ?_
              refine gs_get (v := .int (iI (j))) (pc' := 103) h ⟨dT_nextToken_100, rfl⟩ fgT_25 rfl (by decide) (rfl) ?_
              refine gi_iconst (pc' := 104) h ⟨dT_nextToken_103, rfl⟩ ?_
              refine gi_iadd (pc' := 105) h ⟨dT_nextToken_104, rfl⟩ ?_
              refine gd_putI (i := 1) (pc' := 108) h ⟨dT_nextToken_105, rfl⟩ fpT_25 rfl (by decide) rfl rfl ?_
              have e_K : lK (S.1 3) (S.1 2 1) (S.1 1 1) = 1 := by unfold lK; rw [e_S, if_neg (by omega), if_neg c95]
              have e_E : lE (S.1 3) (S.1 2 1) (S.1 1 1) = j + 1 := by unfold lE; rw [e_S, if_neg (by omega), if_neg c95]
              have e_V : lV (S.1 3) (S.1 2 1) (S.1 1 1) = S.1 3 j := by unfold lV; rw [e_S, if_neg c95]
              exact gs_vret h hE dT_nextToken_108 (by simp only [pt_aset, aset_eq, aset_aset]; refine congrArg (aset S 1) (funext fun q => ?_); simp only [nxW, uF, tkF, e_S, e_K, e_E, e_V]; by_cases q1 : q = 1 <;> by_cases q2 : q = 2 <;> by_cases q3 : q = 3 <;> by_cases q4 : q = 4 <;> simp [q1, q2, q3, q4] <;> omega)
          · refine go_aload_n (pc' := 66) h ⟨dT_nextToken_65, rfl⟩ rfl ?_
            refine gi_sipush (pc' := 69) h ⟨dT_nextToken_66, rfl⟩ rfl ?_
            refine gd_putI (i := 2) (pc' := 72) h ⟨dT_nextToken_69, rfl⟩ fpT_39 rfl (by decide) rfl rfl ?_
            have e_K : lK (S.1 3) (S.1 2 1) (S.1 1 1) = 0 := by unfold lK; rw [e_S, if_pos (by omega)]
            have e_E : lE (S.1 3) (S.1 2 1) (S.1 1 1) = j := by unfold lE; rw [e_S, if_pos (by omega)]
            exact gs_vret h hE dT_nextToken_72 (by simp only [pt_aset, aset_eq, aset_aset]; refine congrArg (aset S 1) (funext fun q => ?_); simp only [nxW, uF, tkF, e_S, e_K, e_E]; by_cases q1 : q = 1 <;> by_cases q2 : q = 2 <;> by_cases q3 : q = 3 <;> by_cases q4 : q = 4 <;> simp [q1, q2, q3, q4] <;> omega)
        · refine go_aload_n (pc' := 31) h ⟨dT_nextToken_30, rfl⟩ rfl ?_
          refine go_dup (pc' := 32) h ⟨dT_nextToken_31, rfl⟩ rfl ?_
          refine gs_get (v := .int (iI (j))) (pc' := 35) h ⟨dT_nextToken_32, rfl⟩ fgT_25 rfl (by decide) (rfl) ?_
          refine gi_iconst (pc' := 36) h ⟨dT_nextToken_35, rfl⟩ ?_
          refine gi_iadd (pc' := 37) h ⟨dT_nextToken_36, rfl⟩ ?_
          refine gd_putI (i := 1) (pc' := 40) h ⟨dT_nextToken_37, rfl⟩ fpT_25 rfl (by decide) rfl rfl ?_
          refine gi_goto (tgt := 0) h dT_nextToken_40 rfl ?_
          rw [pt_pt]
          exact ih (j + 1) (by omega) (by omega) (by omega) (by rw [g7, skF, if_pos (by omega)])
  have h0 := blanks 121 (S.1 1 1) (by omega) (by omega) (by omega) rfl
  rw [pt_aset, show uF (S.1 1) 1 (S.1 1 1) = S.1 1 from by funext q; unfold uF; by_cases q1 : q = 1 <;> simp [q1], aset_self] at h0
  exact h0
