/-! the reference: how landings hang together by measures -/
def hst (S : Sg) (f g : Int → Int) : Sg := aset (aset S 104 f) 105 g
theorem hst_self (S : Sg) : hst S (S.1 104) (S.1 105) = S := by
  unfold hst
  rw [aset_self, aset_self]
theorem hst_p4 (S : Sg) (f g : Int → Int) (i x : Int) : pt (hst S f g) 104 i x = hst S (uF f i x) g := by
  unfold hst
  rw [pt_sw _ _ _ _ (by decide), pt_aset, aset_eq, aset_aset]
theorem hst_p5 (S : Sg) (f g : Int → Int) (i x : Int) : pt (hst S f g) 105 i x = hst S f (uF g i x) := by
  unfold hst
  rw [pt_aset, aset_eq, aset_aset]
theorem hst_hst (S : Sg) (f g f' g' : Int → Int) : hst (hst S f g) f' g' = hst S f' g' := by
  unfold hst
  rw [aset_comm (aset S 104 f) g f' (by decide), aset_aset, aset_aset]
def hgL (f g : Int → Int) (a b y : Int) : Int → Int := fun l => if g l = b ∧ a ≠ b then f l + y else f l
def hgG (g : Int → Int) (a b : Int) : Int → Int := fun l => if g l = b ∧ a ≠ b then a else g l
def hgF (fr to am : Int → Int) (set : Int) : Nat → (Int → Int) × (Int → Int) × Int
  | 0 => (fun _ => 0, fun l => l, 1)
  | k + 1 => if bitI set (k : Int) = 1 then (hgL (hgF fr to am set k).1 (hgF fr to am set k).2.1 ((hgF fr to am set k).2.1 (fr k)) ((hgF fr to am set k).2.1 (to k)) ((hgF fr to am set k).1 (fr k) + am k - (hgF fr to am set k).1 (to k)), hgG (hgF fr to am set k).2.1 ((hgF fr to am set k).2.1 (fr k)) ((hgF fr to am set k).2.1 (to k)), if (hgF fr to am set k).2.2 = 1 ∧ (hgF fr to am set k).2.1 (fr k) ≠ (hgF fr to am set k).2.1 (to k) then 1 else 0) else hgF fr to am set k
def eq6 (f g : Int → Int) : Prop := ∀ l : Int, 0 ≤ l → l ≤ 5 → f l = g l
def whF (g fr to : Int → Int) : Nat → Int
  | 0 => 1
  | k + 1 => if whF g fr to k = 1 ∧ g (fr k) = g (to k) then 1 else 0
theorem wh01 (g fr to : Int → Int) : ∀ n : Nat, whF g fr to n = 0 ∨ whF g fr to n = 1
  | 0 => Or.inr rfl
  | n + 1 => by rw [whF]; split <;> omega
theorem wh_all {g fr to : Int → Int} : ∀ n : Nat, whF g fr to n = 1 → ∀ k : Nat, k < n → g (fr k) = g (to k)
  | n + 1, h, k, hk => by
    rw [whF] at h
    split at h
    · rename_i h1
      by_cases e : k = n
      · rw [e]; exact h1.2
      · exact wh_all n h1.1 k (by omega)
    · omega
theorem wh_of {g fr to : Int → Int} : ∀ n : Nat, (∀ k : Nat, k < n → g (fr k) = g (to k)) → whF g fr to n = 1
  | 0, _ => rfl
  | n + 1, h => by
    rw [whF, if_pos ⟨wh_of n (fun k hk => h k (by omega)), h n (by omega)⟩]
theorem fr01 (fr to am : Int → Int) (set : Int) : ∀ n : Nat, (hgF fr to am set n).2.2 = 0 ∨ (hgF fr to am set n).2.2 = 1
  | 0 => Or.inr rfl
  | n + 1 => by
    rw [hgF]
    split
    · show (if _ then (1 : Int) else 0) = 0 ∨ (if _ then (1 : Int) else 0) = 1
      split <;> omega
    · exact fr01 fr to am set n
theorem hgG_bd {g : Int → Int} {a b : Int} (hg : ∀ l : Int, 0 ≤ l → l ≤ 5 → 0 ≤ g l ∧ g l ≤ 5) (ha : 0 ≤ a ∧ a ≤ 5) : ∀ l : Int, 0 ≤ l → l ≤ 5 → 0 ≤ hgG g a b l ∧ hgG g a b l ≤ 5 := fun l h1 h2 => by
  unfold hgG
  split
  · exact ha
  · exact hg l h1 h2
def frOk (S : Sg) : Prop := (0 ≤ S.1 88 26 ∧ S.1 88 26 ≤ 6) ∧ (∀ k : Int, 0 ≤ k → k < S.1 88 26 → 0 ≤ S.1 101 k ∧ S.1 101 k < S.1 102 k ∧ S.1 102 k ≤ 5 ∧ 0 ≤ S.1 103 k ∧ S.1 103 k ≤ 999999)
def hgZ (S : Sg) (set : Int) : (Int → Int) × (Int → Int) × Int := hgF (S.1 101) (S.1 102) (S.1 103) set (S.1 88 26).toNat
def hgO (S : Sg) (set : Int) : Int := if (hgZ S set).2.2 = 1 ∧ whF (hgZ S set).2.1 (S.1 101) (S.1 102) (S.1 88 26).toNat = 1 then 1 else 0
theorem hgF_bd {S : Sg} (h : frOk S) (set : Int) : ∀ k : Nat, (k : Int) ≤ S.1 88 26 → ∀ l : Int, 0 ≤ l → l ≤ 5 → 0 ≤ (hgF (S.1 101) (S.1 102) (S.1 103) set k).2.1 l ∧ (hgF (S.1 101) (S.1 102) (S.1 103) set k).2.1 l ≤ 5
  | 0, _, l, h1, h2 => by show 0 ≤ l ∧ l ≤ 5; omega
  | k + 1, hk, l, h1, h2 => by
    have ih := hgF_bd h set k (by omega)
    have h3 := h.2 k (by omega) (by omega)
    rw [hgF]
    split
    · exact hgG_bd ih (ih _ (by omega) (by omega)) l h1 h2
    · exact ih l h1 h2
theorem eq6_uF {f g h : Int → Int} {x j : Int} (e : ∀ l : Int, 0 ≤ l → l ≤ 5 → f l = if l < j then g l else h l) (hx : x = g j) : ∀ l : Int, 0 ≤ l → l ≤ 5 → uF f j x l = if l < j + 1 then g l else h l := fun l h1 h2 => by
  unfold uF
  by_cases hl : l = j
  · rw [if_pos hl, if_pos (by omega), hl, hx]
  · rw [if_neg hl, e l h1 h2]
    by_cases h3 : l < j
    · rw [if_pos h3, if_pos (by omega)]
    · rw [if_neg h3, if_neg (by omega)]
theorem eq6_nx {f g h : Int → Int} {j : Int} (e : ∀ l : Int, 0 ≤ l → l ≤ 5 → f l = if l < j then g l else h l) (hx : f j = g j) : ∀ l : Int, 0 ≤ l → l ≤ 5 → f l = if l < j + 1 then g l else h l := fun l h1 h2 => by
  by_cases hl : l = j
  · rw [if_pos (by omega), hl, hx]
  · rw [e l h1 h2]
    by_cases h3 : l < j
    · rw [if_pos h3, if_pos (by omega)]
    · rw [if_neg h3, if_neg (by omega)]
set_option maxRecDepth 4000 in
theorem cZ_hangs (X : XT) {S : Sg} (hO : frOk S) {f0 g0 : Int → Int} {x : Int} (hx : 0 ≤ x ∧ x ≤ 64) : Ctr X 0 yZ_hangs bZ_hangs 8 (some .boolean) [.ref 88, .int (iI (x))] (mk (hst S f0 g0)) (PI (fun r S' => r = hgO S x ∧ ∃ f g, S' = hst S f g ∧ eq6 f (hgZ S x).1)) 0 0 := by
  refine Ctr.ofS (by decide) rfl (Nat.le_of_ble_eq_true rfl) (fun F h hF hE => ?_)
  obtain ⟨zme, zmk⟩ := id hO
  have l4 : ∀ (n j : Nat) (f g : Int → Int) (e : Int) (LL : List Value), LL.take 5 = [.ref 88, .int (iI x), .int (iI e), .int (iI (whF (hgZ S x).2.1 (S.1 101) (S.1 102) j)), .int (iI (j : Int))] → 6 < j + n → (j : Int) ≤ S.1 88 26 → e = (hgZ S x).2.2 → eq6 f (hgZ S x).1 → eq6 g (hgZ S x).2.1 → Go F 8 (mk (hst S f g)) 0 0 191 LL [] := by
    intro n
    induction n with
    | zero => intro j f g e LL hL g4 g6; exfalso; omega
    | succ n ih =>
      intro j f g e LL hL g4 g6 g7 g8 g9
      have h01 := wh01 (hgZ S x).2.1 (S.1 101) (S.1 102) j
      have he := fr01 (S.1 101) (S.1 102) (S.1 103) x (S.1 88 26).toNat
      have he : e = 0 ∨ e = 1 := by rw [g7]; exact he
      refine Go.cut [.ref 88, .int (iI x), .int (iI e), .int (iI (whF (hgZ S x).2.1 (S.1 101) (S.1 102) j)), .int (iI (j : Int))] 5 hL ?_
      refine go_iload (pc' := 193) h ⟨dZ_hangs_191, rfl⟩ rfl ?_
      refine go_aload_n (pc' := 194) h ⟨dZ_hangs_193, rfl⟩ rfl ?_
      refine gs_get (v := .int (iI (S.1 88 26))) (pc' := 197) h ⟨dZ_hangs_194, rfl⟩ fgZ_130 rfl (by decide) (rfl) ?_
      refine gi_icmp_ge (tgt := 243) (pc' := 200) h dZ_hangs_197 rfl rfl (by omega) (fun c197 => ?_) (fun c197 => ?_)
      · refine go_iload_n (pc' := 244) h ⟨dZ_hangs_243, rfl⟩ rfl ?_
        refine gi_if_eq (tgt := 255) (pc' := 247) h dZ_hangs_244 rfl rfl (by omega) (fun c244 => ?_) (fun c244 => ?_)
        · refine gi_iconst (pc' := 256) h ⟨dZ_hangs_255, rfl⟩ ?_
          exact gs_zret h hE dZ_hangs_256 (by omega) (⟨by unfold hgO; rw [← g7, show (S.1 88 26).toNat = j by omega, if_neg (by omega)], f, g, rfl, g8⟩)
        · refine go_iload_n (pc' := 248) h ⟨dZ_hangs_247, rfl⟩ rfl ?_
          refine gi_if_eq (tgt := 255) (pc' := 251) h dZ_hangs_248 rfl rfl (by omega) (fun c248 => ?_) (fun c248 => ?_)
          · refine gi_iconst (pc' := 256) h ⟨dZ_hangs_255, rfl⟩ ?_
            exact gs_zret h hE dZ_hangs_256 (by omega) (⟨by unfold hgO; rw [← g7, show (S.1 88 26).toNat = j by omega, if_neg (by omega)], f, g, rfl, g8⟩)
          · refine gi_iconst (pc' := 252) h ⟨dZ_hangs_251, rfl⟩ ?_
            refine gi_goto (tgt := 256) h dZ_hangs_252 rfl ?_
            exact gs_zret h hE dZ_hangs_256 (by omega) (⟨by unfold hgO; rw [← g7, show (S.1 88 26).toNat = j by omega, if_pos (by omega)], f, g, rfl, g8⟩)
      · refine go_iload_n (pc' := 201) h ⟨dZ_hangs_200, rfl⟩ rfl ?_
        refine gi_if_eq (tgt := 235) (pc' := 204) h dZ_hangs_201 rfl rfl (by omega) (fun c201 => ?_) (fun c201 => ?_)
        · refine gi_iconst (pc' := 236) h ⟨dZ_hangs_235, rfl⟩ ?_
          refine go_istore_n (L' := [.ref 88, .int (iI (x)), .int (iI (e)), .int (iI (0)), .int (iI ((j : Int)))]) (pc' := 237) h ⟨dZ_hangs_236, rfl⟩ (by decide) rfl rfl ?_
          refine gi_iinc (L' := [.ref 88, .int (iI (x)), .int (iI (e)), .int (iI (0)), .int (iI ((j : Int) + 1))]) (pc' := 240) h ⟨dZ_hangs_237, rfl⟩ rfl (by decide) rfl rfl ?_
          refine gi_goto (tgt := 191) h dZ_hangs_240 rfl ?_
          exact ih (j + 1) f g e _ (by show [_, _, _, _, _] = _; rw [whF, if_neg (by omega)]; rfl) (by omega) (by omega) g7 g8 g9
        · have hk := zmk j (by omega) (by omega)
          have hk1 := g9 (S.1 101 j) (by omega) (by omega)
          have hk2 := g9 (S.1 102 j) (by omega) (by omega)
          have hk3 := hgF_bd hO x (S.1 88 26).toNat (by omega) (S.1 101 j) (by omega) (by omega)
          have hk4 := hgF_bd hO x (S.1 88 26).toNat (by omega) (S.1 102 j) (by omega) (by omega)
          change 0 ≤ (hgZ S x).2.1 (S.1 101 j) ∧ (hgZ S x).2.1 (S.1 101 j) ≤ 5 at hk3
          change 0 ≤ (hgZ S x).2.1 (S.1 102 j) ∧ (hgZ S x).2.1 (S.1 102 j) ≤ 5 at hk4
          refine go_aload_n (pc' := 205) h ⟨dZ_hangs_204, rfl⟩ rfl ?_
          refine gs_get (v := .ref 105) (pc' := 208) h ⟨dZ_hangs_205, rfl⟩ fgZ_59 rfl (by decide) (rfl) ?_
          refine go_aload_n (pc' := 209) h ⟨dZ_hangs_208, rfl⟩ rfl ?_
          refine gs_get (v := .ref 101) (pc' := 212) h ⟨dZ_hangs_209, rfl⟩ fgZ_47 rfl (by decide) (rfl) ?_
          refine go_iload (pc' := 214) h ⟨dZ_hangs_212, rfl⟩ rfl ?_
          refine gs_iald (pc' := 215) h ⟨dZ_hangs_214, rfl⟩ rfl (by have hln : (ln 101 : Int) = 6 := rfl; omega) ?_
          rw [show ((hst S f g).1 101 ((j : Int)) : Int) = S.1 101 ((j : Int)) from rfl]
          refine gs_iald (pc' := 216) h ⟨dZ_hangs_215, rfl⟩ rfl (by have hln : (ln 105 : Int) = 6 := rfl; omega) ?_
          rw [show ((hst S f g).1 105 (S.1 101 ((j : Int))) : Int) = g (S.1 101 ((j : Int))) from rfl]
          refine go_aload_n (pc' := 217) h ⟨dZ_hangs_216, rfl⟩ rfl ?_
          refine gs_get (v := .ref 105) (pc' := 220) h ⟨dZ_hangs_217, rfl⟩ fgZ_59 rfl (by decide) (rfl) ?_
          refine go_aload_n (pc' := 221) h ⟨dZ_hangs_220, rfl⟩ rfl ?_
          refine gs_get (v := .ref 102) (pc' := 224) h ⟨dZ_hangs_221, rfl⟩ fgZ_50 rfl (by decide) (rfl) ?_
          refine go_iload (pc' := 226) h ⟨dZ_hangs_224, rfl⟩ rfl ?_
          refine gs_iald (pc' := 227) h ⟨dZ_hangs_226, rfl⟩ rfl (by have hln : (ln 102 : Int) = 6 := rfl; omega) ?_
          rw [show ((hst S f g).1 102 ((j : Int)) : Int) = S.1 102 ((j : Int)) from rfl]
          refine gs_iald (pc' := 228) h ⟨dZ_hangs_227, rfl⟩ rfl (by have hln : (ln 105 : Int) = 6 := rfl; omega) ?_
          rw [show ((hst S f g).1 105 (S.1 102 ((j : Int))) : Int) = g (S.1 102 ((j : Int))) from rfl]
          refine gi_icmp_ne (tgt := 235) (pc' := 231) h dZ_hangs_228 rfl rfl (by omega) (fun c228 => ?_) (fun c228 => ?_)
          · refine gi_iconst (pc' := 236) h ⟨dZ_hangs_235, rfl⟩ ?_
            refine go_istore_n (L' := [.ref 88, .int (iI (x)), .int (iI (e)), .int (iI (0)), .int (iI ((j : Int)))]) (pc' := 237) h ⟨dZ_hangs_236, rfl⟩ (by decide) rfl rfl ?_
            refine gi_iinc (L' := [.ref 88, .int (iI (x)), .int (iI (e)), .int (iI (0)), .int (iI ((j : Int) + 1))]) (pc' := 240) h ⟨dZ_hangs_237, rfl⟩ rfl (by decide) rfl rfl ?_
            refine gi_goto (tgt := 191) h dZ_hangs_240 rfl ?_
            exact ih (j + 1) f g e _ (by show [_, _, _, _, _] = _; rw [whF, if_neg (by omega)]; rfl) (by omega) (by omega) g7 g8 g9
          · refine gi_iconst (pc' := 232) h ⟨dZ_hangs_231, rfl⟩ ?_
            refine gi_goto (tgt := 236) h dZ_hangs_232 rfl ?_
            refine go_istore_n (L' := [.ref 88, .int (iI (x)), .int (iI (e)), .int (iI (1)), .int (iI ((j : Int)))]) (pc' := 237) h ⟨dZ_hangs_236, rfl⟩ (by decide) rfl rfl ?_
            refine gi_iinc (L' := [.ref 88, .int (iI (x)), .int (iI (e)), .int (iI (1)), .int (iI ((j : Int) + 1))]) (pc' := 240) h ⟨dZ_hangs_237, rfl⟩ rfl (by decide) rfl rfl ?_
            refine gi_goto (tgt := 191) h dZ_hangs_240 rfl ?_
            exact ih (j + 1) f g e _ (by show [_, _, _, _, _] = _; rw [whF, if_pos (by omega)]; rfl) (by omega) (by omega) g7 g8 g9
  have l2 : ∀ (n j : Nat) (f g : Int → Int) (e : Int) (LL : List Value), LL.take 4 = [.ref 88, .int (iI x), .int (iI e), .int (iI (j : Int))] → 6 < j + n → (j : Int) ≤ S.1 88 26 → e = (hgF (S.1 101) (S.1 102) (S.1 103) x j).2.2 → eq6 f (hgF (S.1 101) (S.1 102) (S.1 103) x j).1 → eq6 g (hgF (S.1 101) (S.1 102) (S.1 103) x j).2.1 → Go F 8 (mk (hst S f g)) 0 0 32 LL [] := by
    intro n
    induction n with
    | zero => intro j f g e LL hL g4 g6; exfalso; omega
    | succ n ih =>
      intro j f g e LL hL g4 g6 g7 g8 g9
      have he := fr01 (S.1 101) (S.1 102) (S.1 103) x j
      have he : e = 0 ∨ e = 1 := by rw [g7]; exact he
      have hgb : ∀ l : Int, 0 ≤ l → l ≤ 5 → 0 ≤ g l ∧ g l ≤ 5 := fun l h1 h2 => by rw [g9 l h1 h2]; exact hgF_bd hO x j (by omega) l h1 h2
      have inner : ∀ (a b y e' : Int), (j : Int) < S.1 88 26 → (0 ≤ a ∧ a ≤ 5) → (0 ≤ b ∧ b ≤ 5) → bitI x j = 1 → a = (hgF (S.1 101) (S.1 102) (S.1 103) x j).2.1 (S.1 101 j) → b = (hgF (S.1 101) (S.1 102) (S.1 103) x j).2.1 (S.1 102 j) → y = (hgF (S.1 101) (S.1 102) (S.1 103) x j).1 (S.1 101 j) + S.1 103 j - (hgF (S.1 101) (S.1 102) (S.1 103) x j).1 (S.1 102 j) → e' = (hgF (S.1 101) (S.1 102) (S.1 103) x (j + 1)).2.2 → ∀ (m : Nat) (l : Int) (f' g' : Int → Int), 6 < l + m → 0 ≤ l → l ≤ 6 → (∀ q : Int, 0 ≤ q → q ≤ 5 → f' q = if q < l then hgL f g a b y q else f q) → (∀ q : Int, 0 ≤ q → q ≤ 5 → g' q = if q < l then hgG g a b q else g q) → Go F 8 (mk (hst S f' g')) 0 0 127 [.ref 88, .int (iI x), .int (iI e'), .int (iI (j : Int)), .int (iI a), .int (iI b), .int (iI y), .int (iI l)] [] := by
        intro a b y e' hj ha hb hbit q1 q2 q3 q4 m
        induction m with
        | zero => intro l f' g' k1 k2 k3; exfalso; omega
        | succ m ihm =>
          intro l f' g' k1 k2 k3 k4 k5
          refine go_iload (pc' := 129) h ⟨dZ_hangs_127, rfl⟩ rfl ?_
          refine gi_bipush (pc' := 131) h ⟨dZ_hangs_129, rfl⟩ rfl ?_
          refine gi_icmp_ge (tgt := 180) (pc' := 134) h dZ_hangs_131 rfl rfl (by omega) (fun c131 => ?_) (fun c131 => ?_)
          · refine Go.cut [.ref 88, .int (iI x), .int (iI e'), .int (iI (j : Int))] 4 rfl ?_
            refine gi_iinc (L' := [.ref 88, .int (iI x), .int (iI e'), .int (iI ((j : Int) + 1))]) (pc' := 183) h ⟨dZ_hangs_180, rfl⟩ rfl (by decide) rfl rfl ?_
            refine gi_goto (tgt := 32) h dZ_hangs_183 rfl ?_
            have hl : l = 6 := by omega
            subst hl
            refine ih (j + 1) f' g' e' _ rfl (by omega) (by omega) q4 (fun q h1 h2 => ?_) (fun q h1 h2 => ?_)
            · rw [k4 q h1 h2, if_pos (by omega), hgF, if_pos hbit]; show hgL f g a b y q = hgL _ _ _ _ _ q; unfold hgL; rw [g9 q h1 h2, g8 q h1 h2, q1, q2, q3]
            · rw [k5 q h1 h2, if_pos (by omega), hgF, if_pos hbit]; show hgG g a b q = hgG _ _ _ q; unfold hgG; rw [g9 q h1 h2, q1, q2]
          · have hgl : 0 ≤ g' l ∧ g' l ≤ 5 := by
              rw [k5 l k2 (by omega), if_neg (by omega)]
              exact hgb l k2 (by omega)
            refine go_aload_n (pc' := 135) h ⟨dZ_hangs_134, rfl⟩ rfl ?_
            refine gs_get (v := .ref 105) (pc' := 138) h ⟨dZ_hangs_135, rfl⟩ fgZ_59 rfl (by decide) (rfl) ?_
            refine go_iload (pc' := 140) h ⟨dZ_hangs_138, rfl⟩ rfl ?_
            refine gs_iald (pc' := 141) h ⟨dZ_hangs_140, rfl⟩ rfl (by have hln : (ln 105 : Int) = 6 := rfl; omega) ?_
            rw [show ((hst S f' g').1 105 l : Int) = g' l from rfl]
            refine go_iload (pc' := 143) h ⟨dZ_hangs_141, rfl⟩ rfl ?_
            refine gi_icmp_ne (tgt := 174) (pc' := 146) h dZ_hangs_143 rfl rfl (by omega) (fun c143 => ?_) (fun c143 => ?_)
            · refine gi_iinc (L' := [.ref 88, .int (iI (x)), .int (iI (e')), .int (iI ((j : Int))), .int (iI (a)), .int (iI (b)), .int (iI (y)), .int (iI (l + 1))]) (pc' := 177) h ⟨dZ_hangs_174, rfl⟩ rfl (by decide) rfl rfl ?_
              refine gi_goto (tgt := 127) h dZ_hangs_177 rfl ?_
              have e1 := k4 l k2 (by omega)
              have e2 := k5 l k2 (by omega)
              rw [if_neg (by omega)] at e1 e2
              exact ihm (l + 1) f' g' (by omega) (by omega) (by omega) (eq6_nx k4 (by unfold hgL; rw [if_neg (by omega), e1])) (eq6_nx k5 (by unfold hgG; rw [if_neg (by omega), e2]))
            · refine go_iload (pc' := 148) h ⟨dZ_hangs_146, rfl⟩ rfl ?_
              refine go_iload (pc' := 150) h ⟨dZ_hangs_148, rfl⟩ rfl ?_
              refine gi_icmp_eq (tgt := 174) (pc' := 153) h dZ_hangs_150 rfl rfl (by omega) (fun c150 => ?_) (fun c150 => ?_)
              · refine gi_iinc (L' := [.ref 88, .int (iI (x)), .int (iI (e')), .int (iI ((j : Int))), .int (iI (a)), .int (iI (b)), .int (iI (y)), .int (iI (l + 1))]) (pc' := 177) h ⟨dZ_hangs_174, rfl⟩ rfl (by decide) rfl rfl ?_
                refine gi_goto (tgt := 127) h dZ_hangs_177 rfl ?_
                have e1 := k4 l k2 (by omega)
                have e2 := k5 l k2 (by omega)
                rw [if_neg (by omega)] at e1 e2
                exact ihm (l + 1) f' g' (by omega) (by omega) (by omega) (eq6_nx k4 (by unfold hgL; rw [if_neg (by omega), e1])) (eq6_nx k5 (by unfold hgG; rw [if_neg (by omega), e2]))
              · refine go_aload_n (pc' := 154) h ⟨dZ_hangs_153, rfl⟩ rfl ?_
                refine gs_get (v := .ref 105) (pc' := 157) h ⟨dZ_hangs_154, rfl⟩ fgZ_59 rfl (by decide) (rfl) ?_
                refine go_iload (pc' := 159) h ⟨dZ_hangs_157, rfl⟩ rfl ?_
                refine go_iload (pc' := 161) h ⟨dZ_hangs_159, rfl⟩ rfl ?_
                refine gs_iast (pc' := 162) h ⟨dZ_hangs_161, rfl⟩ rfl (by have hln : (ln 105 : Int) = 6 := rfl; omega) ?_
                refine go_aload_n (pc' := 163) h ⟨dZ_hangs_162, rfl⟩ rfl ?_
                refine gs_get (v := .ref 104) (pc' := 166) h ⟨dZ_hangs_163, rfl⟩ fgZ_56 rfl (by decide) (rfl) ?_
                refine go_iload (pc' := 168) h ⟨dZ_hangs_166, rfl⟩ rfl ?_
                refine go_dup2 (pc' := 169) h ⟨dZ_hangs_168, rfl⟩ rfl rfl ?_
                refine gs_iald (pc' := 170) h ⟨dZ_hangs_169, rfl⟩ rfl (by have hln : (ln 104 : Int) = 6 := rfl; omega) ?_
                rw [show ((pt (hst S f' g') 105 l a).1 104 l : Int) = f' l from rfl]
                refine go_iload (pc' := 172) h ⟨dZ_hangs_170, rfl⟩ rfl ?_
                refine gi_iadd (pc' := 173) h ⟨dZ_hangs_172, rfl⟩ ?_
                refine gs_iast (pc' := 174) h ⟨dZ_hangs_173, rfl⟩ rfl (by have hln : (ln 104 : Int) = 6 := rfl; omega) ?_
                refine gi_iinc (L' := [.ref 88, .int (iI (x)), .int (iI (e')), .int (iI ((j : Int))), .int (iI (a)), .int (iI (b)), .int (iI (y)), .int (iI (l + 1))]) (pc' := 177) h ⟨dZ_hangs_174, rfl⟩ rfl (by decide) rfl rfl ?_
                refine gi_goto (tgt := 127) h dZ_hangs_177 rfl ?_
                rw [hst_p5, hst_p4]
                have e1 := k4 l k2 (by omega)
                have e2 := k5 l k2 (by omega)
                rw [if_neg (by omega)] at e1 e2
                exact ihm (l + 1) _ _ (by omega) (by omega) (by omega) (eq6_uF k4 (by unfold hgL; rw [if_pos (by omega), e1])) (eq6_uF k5 (by unfold hgG; rw [if_pos (by omega)]))
      refine Go.cut [.ref 88, .int (iI x), .int (iI e), .int (iI (j : Int))] 4 hL ?_
      refine go_iload_n (pc' := 33) h ⟨dZ_hangs_32, rfl⟩ rfl ?_
      refine go_aload_n (pc' := 34) h ⟨dZ_hangs_33, rfl⟩ rfl ?_
      refine gs_get (v := .int (iI (S.1 88 26))) (pc' := 37) h ⟨dZ_hangs_34, rfl⟩ fgZ_130 rfl (by decide) (rfl) ?_
      refine gi_icmp_ge (tgt := 186) (pc' := 40) h dZ_hangs_37 rfl rfl (by omega) (fun c37 => ?_) (fun c37 => ?_)
      · refine gi_iconst (pc' := 187) h ⟨dZ_hangs_186, rfl⟩ ?_
        refine go_istore_n (L' := [.ref 88, .int (iI (x)), .int (iI (e)), .int (iI (1))]) (pc' := 188) h ⟨dZ_hangs_187, rfl⟩ (by decide) rfl rfl ?_
        refine gi_iconst (pc' := 189) h ⟨dZ_hangs_188, rfl⟩ ?_
        refine go_istore (L' := [.ref 88, .int (iI (x)), .int (iI (e)), .int (iI (1)), .int (iI (0))]) (pc' := 191) h ⟨dZ_hangs_189, rfl⟩ (by decide) rfl rfl ?_
        have e_j : (S.1 88 26).toNat = j := by omega
        exact l4 7 0 f g e _ rfl (by omega) (by omega) (by unfold hgZ; rw [e_j]; exact g7) (by unfold hgZ; rw [e_j]; exact g8) (by unfold hgZ; rw [e_j]; exact g9)
      · refine go_iload_n (pc' := 41) h ⟨dZ_hangs_40, rfl⟩ rfl ?_
        refine go_iload_n (pc' := 42) h ⟨dZ_hangs_41, rfl⟩ rfl ?_
        refine gi_ishr (c := x / 2 ^ (j : Int).toNat) (pc' := 43) h ⟨dZ_hangs_42, rfl⟩ (shrI (by omega) (by omega)) ?_
        refine gi_iconst (pc' := 44) h ⟨dZ_hangs_43, rfl⟩ ?_
        refine gi_iand (c := bitI x j) (pc' := 45) h ⟨dZ_hangs_44, rfl⟩ (bitI_1 (by omega)) ?_
        have hb1 := bitI_01 x j
        refine gi_iconst (pc' := 46) h ⟨dZ_hangs_45, rfl⟩ ?_
        refine gi_icmp_ne (tgt := 180) (pc' := 49) h dZ_hangs_46 rfl rfl (by omega) (fun c46 => ?_) (fun c46 => ?_)
        · refine gi_iinc (L' := [.ref 88, .int (iI (x)), .int (iI (e)), .int (iI ((j : Int) + 1))]) (pc' := 183) h ⟨dZ_hangs_180, rfl⟩ rfl (by decide) rfl rfl ?_
          refine gi_goto (tgt := 32) h dZ_hangs_183 rfl ?_
          exact ih (j + 1) f g e _ rfl (by omega) (by omega) (by rw [hgF, if_neg (by omega)]; exact g7) (by rw [hgF, if_neg (by omega)]; exact g8) (by rw [hgF, if_neg (by omega)]; exact g9)
        · have hk := zmk j (by omega) (by omega)
          have hq1 := hgb (S.1 101 j) (by omega) (by omega)
          have hq2 := hgb (S.1 102 j) (by omega) (by omega)
          refine go_aload_n (pc' := 50) h ⟨dZ_hangs_49, rfl⟩ rfl ?_
          refine gs_get (v := .ref 105) (pc' := 53) h ⟨dZ_hangs_50, rfl⟩ fgZ_59 rfl (by decide) (rfl) ?_
          refine go_aload_n (pc' := 54) h ⟨dZ_hangs_53, rfl⟩ rfl ?_
          refine gs_get (v := .ref 101) (pc' := 57) h ⟨dZ_hangs_54, rfl⟩ fgZ_47 rfl (by decide) (rfl) ?_
          refine go_iload_n (pc' := 58) h ⟨dZ_hangs_57, rfl⟩ rfl ?_
          refine gs_iald (pc' := 59) h ⟨dZ_hangs_58, rfl⟩ rfl (by have hln : (ln 101 : Int) = 6 := rfl; omega) ?_
          rw [show ((hst S f g).1 101 ((j : Int)) : Int) = S.1 101 ((j : Int)) from rfl]
          refine gs_iald (pc' := 60) h ⟨dZ_hangs_59, rfl⟩ rfl (by have hln : (ln 105 : Int) = 6 := rfl; omega) ?_
          rw [show ((hst S f g).1 105 (S.1 101 ((j : Int))) : Int) = g (S.1 101 ((j : Int))) from rfl]
          refine go_istore (L' := [.ref 88, .int (iI (x)), .int (iI (e)), .int (iI ((j : Int))), .int (iI (g (S.1 101 ((j : Int)))))]) (pc' := 62) h ⟨dZ_hangs_60, rfl⟩ (by decide) rfl rfl ?_
          refine go_aload_n (pc' := 63) h ⟨dZ_hangs_62, rfl⟩ rfl ?_
          refine gs_get (v := .ref 105) (pc' := 66) h ⟨dZ_hangs_63, rfl⟩ fgZ_59 rfl (by decide) (rfl) ?_
          refine go_aload_n (pc' := 67) h ⟨dZ_hangs_66, rfl⟩ rfl ?_
          refine gs_get (v := .ref 102) (pc' := 70) h ⟨dZ_hangs_67, rfl⟩ fgZ_50 rfl (by decide) (rfl) ?_
          refine go_iload_n (pc' := 71) h ⟨dZ_hangs_70, rfl⟩ rfl ?_
          refine gs_iald (pc' := 72) h ⟨dZ_hangs_71, rfl⟩ rfl (by have hln : (ln 102 : Int) = 6 := rfl; omega) ?_
          rw [show ((hst S f g).1 102 ((j : Int)) : Int) = S.1 102 ((j : Int)) from rfl]
          refine gs_iald (pc' := 73) h ⟨dZ_hangs_72, rfl⟩ rfl (by have hln : (ln 105 : Int) = 6 := rfl; omega) ?_
          rw [show ((hst S f g).1 105 (S.1 102 ((j : Int))) : Int) = g (S.1 102 ((j : Int))) from rfl]
          refine go_istore (L' := [.ref 88, .int (iI (x)), .int (iI (e)), .int (iI ((j : Int))), .int (iI (g (S.1 101 ((j : Int))))), .int (iI (g (S.1 102 ((j : Int)))))]) (pc' := 75) h ⟨dZ_hangs_73, rfl⟩ (by decide) rfl rfl ?_
          refine go_iload_n (pc' := 76) h ⟨dZ_hangs_75, rfl⟩ rfl ?_
          refine gi_if_eq (tgt := 90) (pc' := 79) h dZ_hangs_76 rfl rfl (by omega) (fun c76 => ?_) (fun c76 => ?_)
          · refine gi_iconst (pc' := 91) h ⟨dZ_hangs_90, rfl⟩ ?_
            refine go_istore_n (L' := [.ref 88, .int (iI (x)), .int (iI (0)), .int (iI ((j : Int))), .int (iI (g (S.1 101 ((j : Int))))), .int (iI (g (S.1 102 ((j : Int)))))]) (pc' := 92) h ⟨dZ_hangs_91, rfl⟩ (by decide) rfl rfl ?_
            refine go_aload_n (pc' := 93) h ⟨dZ_hangs_92, rfl⟩ rfl ?_
            refine gs_get (v := .ref 104) (pc' := 96) h ⟨dZ_hangs_93, rfl⟩ fgZ_56 rfl (by decide) (rfl) ?_
            refine go_aload_n (pc' := 97) h ⟨dZ_hangs_96, rfl⟩ rfl ?_
            refine gs_get (v := .ref 101) (pc' := 100) h ⟨dZ_hangs_97, rfl⟩ fgZ_47 rfl (by decide) (rfl) ?_
            refine go_iload_n (pc' := 101) h ⟨dZ_hangs_100, rfl⟩ rfl ?_
            refine gs_iald (pc' := 102) h ⟨dZ_hangs_101, rfl⟩ rfl (by have hln : (ln 101 : Int) = 6 := rfl; omega) ?_
            rw [show ((hst S f g).1 101 ((j : Int)) : Int) = S.1 101 ((j : Int)) from rfl]
            refine gs_iald (pc' := 103) h ⟨dZ_hangs_102, rfl⟩ rfl (by have hln : (ln 104 : Int) = 6 := rfl; omega) ?_
            rw [show ((hst S f g).1 104 (S.1 101 ((j : Int))) : Int) = f (S.1 101 ((j : Int))) from rfl]
            refine go_aload_n (pc' := 104) h ⟨dZ_hangs_103, rfl⟩ rfl ?_
            refine gs_get (v := .ref 103) (pc' := 107) h ⟨dZ_hangs_104, rfl⟩ fgZ_53 rfl (by decide) (rfl) ?_
            refine go_iload_n (pc' := 108) h ⟨dZ_hangs_107, rfl⟩ rfl ?_
            refine gs_iald (pc' := 109) h ⟨dZ_hangs_108, rfl⟩ rfl (by have hln : (ln 103 : Int) = 6 := rfl; omega) ?_
            rw [show ((hst S f g).1 103 ((j : Int)) : Int) = S.1 103 ((j : Int)) from rfl]
            refine gi_iadd (pc' := 110) h ⟨dZ_hangs_109, rfl⟩ ?_
            refine go_aload_n (pc' := 111) h ⟨dZ_hangs_110, rfl⟩ rfl ?_
            refine gs_get (v := .ref 104) (pc' := 114) h ⟨dZ_hangs_111, rfl⟩ fgZ_56 rfl (by decide) (rfl) ?_
            refine go_aload_n (pc' := 115) h ⟨dZ_hangs_114, rfl⟩ rfl ?_
            refine gs_get (v := .ref 102) (pc' := 118) h ⟨dZ_hangs_115, rfl⟩ fgZ_50 rfl (by decide) (rfl) ?_
            refine go_iload_n (pc' := 119) h ⟨dZ_hangs_118, rfl⟩ rfl ?_
            refine gs_iald (pc' := 120) h ⟨dZ_hangs_119, rfl⟩ rfl (by have hln : (ln 102 : Int) = 6 := rfl; omega) ?_
            rw [show ((hst S f g).1 102 ((j : Int)) : Int) = S.1 102 ((j : Int)) from rfl]
            refine gs_iald (pc' := 121) h ⟨dZ_hangs_120, rfl⟩ rfl (by have hln : (ln 104 : Int) = 6 := rfl; omega) ?_
            rw [show ((hst S f g).1 104 (S.1 102 ((j : Int))) : Int) = f (S.1 102 ((j : Int))) from rfl]
            refine gi_isub (pc' := 122) h ⟨dZ_hangs_121, rfl⟩ ?_
            refine go_istore (L' := [.ref 88, .int (iI (x)), .int (iI (0)), .int (iI ((j : Int))), .int (iI (g (S.1 101 ((j : Int))))), .int (iI (g (S.1 102 ((j : Int))))), .int (iI (((f (S.1 101 ((j : Int)))) + (S.1 103 ((j : Int)))) - (f (S.1 102 ((j : Int))))))]) (pc' := 124) h ⟨dZ_hangs_122, rfl⟩ (by decide) rfl rfl ?_
            refine gi_iconst (pc' := 125) h ⟨dZ_hangs_124, rfl⟩ ?_
            refine go_istore (L' := [.ref 88, .int (iI (x)), .int (iI (0)), .int (iI ((j : Int))), .int (iI (g (S.1 101 ((j : Int))))), .int (iI (g (S.1 102 ((j : Int))))), .int (iI (((f (S.1 101 ((j : Int)))) + (S.1 103 ((j : Int)))) - (f (S.1 102 ((j : Int)))))), .int (iI (0))]) (pc' := 127) h ⟨dZ_hangs_125, rfl⟩ (by decide) rfl rfl ?_
            have hf1 := g8 (S.1 101 j) (by omega) (by omega)
            have hf2 := g8 (S.1 102 j) (by omega) (by omega)
            exact inner (g (S.1 101 j)) (g (S.1 102 j)) _ 0 (by omega) hq1 hq2 (by omega) (g9 _ (by omega) (by omega)) (g9 _ (by omega) (by omega)) (by rw [hf1, hf2]) (by rw [hgF, if_pos (by omega)]; show _ = if _ then (1 : Int) else 0; rw [if_neg (by rw [← g9 _ (by omega) (by omega), ← g9 (S.1 102 j) (by omega) (by omega), ← g7]; omega)]) 7 0 f g (by omega) (by omega) (by omega) (fun q h1 h2 => by rw [if_neg (by omega)]) (fun q h1 h2 => by rw [if_neg (by omega)])
          · refine go_iload (pc' := 81) h ⟨dZ_hangs_79, rfl⟩ rfl ?_
            refine go_iload (pc' := 83) h ⟨dZ_hangs_81, rfl⟩ rfl ?_
            refine gi_icmp_eq (tgt := 90) (pc' := 86) h dZ_hangs_83 rfl rfl (by omega) (fun c83 => ?_) (fun c83 => ?_)
            · refine gi_iconst (pc' := 91) h ⟨dZ_hangs_90, rfl⟩ ?_
              refine go_istore_n (L' := [.ref 88, .int (iI (x)), .int (iI (0)), .int (iI ((j : Int))), .int (iI (g (S.1 101 ((j : Int))))), .int (iI (g (S.1 102 ((j : Int)))))]) (pc' := 92) h ⟨dZ_hangs_91, rfl⟩ (by decide) rfl rfl ?_
              refine go_aload_n (pc' := 93) h ⟨dZ_hangs_92, rfl⟩ rfl ?_
              refine gs_get (v := .ref 104) (pc' := 96) h ⟨dZ_hangs_93, rfl⟩ fgZ_56 rfl (by decide) (rfl) ?_
              refine go_aload_n (pc' := 97) h ⟨dZ_hangs_96, rfl⟩ rfl ?_
              refine gs_get (v := .ref 101) (pc' := 100) h ⟨dZ_hangs_97, rfl⟩ fgZ_47 rfl (by decide) (rfl) ?_
              refine go_iload_n (pc' := 101) h ⟨dZ_hangs_100, rfl⟩ rfl ?_
              refine gs_iald (pc' := 102) h ⟨dZ_hangs_101, rfl⟩ rfl (by have hln : (ln 101 : Int) = 6 := rfl; omega) ?_
              rw [show ((hst S f g).1 101 ((j : Int)) : Int) = S.1 101 ((j : Int)) from rfl]
              refine gs_iald (pc' := 103) h ⟨dZ_hangs_102, rfl⟩ rfl (by have hln : (ln 104 : Int) = 6 := rfl; omega) ?_
              rw [show ((hst S f g).1 104 (S.1 101 ((j : Int))) : Int) = f (S.1 101 ((j : Int))) from rfl]
              refine go_aload_n (pc' := 104) h ⟨dZ_hangs_103, rfl⟩ rfl ?_
              refine gs_get (v := .ref 103) (pc' := 107) h ⟨dZ_hangs_104, rfl⟩ fgZ_53 rfl (by decide) (rfl) ?_
              refine go_iload_n (pc' := 108) h ⟨dZ_hangs_107, rfl⟩ rfl ?_
              refine gs_iald (pc' := 109) h ⟨dZ_hangs_108, rfl⟩ rfl (by have hln : (ln 103 : Int) = 6 := rfl; omega) ?_
              rw [show ((hst S f g).1 103 ((j : Int)) : Int) = S.1 103 ((j : Int)) from rfl]
              refine gi_iadd (pc' := 110) h ⟨dZ_hangs_109, rfl⟩ ?_
              refine go_aload_n (pc' := 111) h ⟨dZ_hangs_110, rfl⟩ rfl ?_
              refine gs_get (v := .ref 104) (pc' := 114) h ⟨dZ_hangs_111, rfl⟩ fgZ_56 rfl (by decide) (rfl) ?_
              refine go_aload_n (pc' := 115) h ⟨dZ_hangs_114, rfl⟩ rfl ?_
              refine gs_get (v := .ref 102) (pc' := 118) h ⟨dZ_hangs_115, rfl⟩ fgZ_50 rfl (by decide) (rfl) ?_
              refine go_iload_n (pc' := 119) h ⟨dZ_hangs_118, rfl⟩ rfl ?_
              refine gs_iald (pc' := 120) h ⟨dZ_hangs_119, rfl⟩ rfl (by have hln : (ln 102 : Int) = 6 := rfl; omega) ?_
              rw [show ((hst S f g).1 102 ((j : Int)) : Int) = S.1 102 ((j : Int)) from rfl]
              refine gs_iald (pc' := 121) h ⟨dZ_hangs_120, rfl⟩ rfl (by have hln : (ln 104 : Int) = 6 := rfl; omega) ?_
              rw [show ((hst S f g).1 104 (S.1 102 ((j : Int))) : Int) = f (S.1 102 ((j : Int))) from rfl]
              refine gi_isub (pc' := 122) h ⟨dZ_hangs_121, rfl⟩ ?_
              refine go_istore (L' := [.ref 88, .int (iI (x)), .int (iI (0)), .int (iI ((j : Int))), .int (iI (g (S.1 101 ((j : Int))))), .int (iI (g (S.1 102 ((j : Int))))), .int (iI (((f (S.1 101 ((j : Int)))) + (S.1 103 ((j : Int)))) - (f (S.1 102 ((j : Int))))))]) (pc' := 124) h ⟨dZ_hangs_122, rfl⟩ (by decide) rfl rfl ?_
              refine gi_iconst (pc' := 125) h ⟨dZ_hangs_124, rfl⟩ ?_
              refine go_istore (L' := [.ref 88, .int (iI (x)), .int (iI (0)), .int (iI ((j : Int))), .int (iI (g (S.1 101 ((j : Int))))), .int (iI (g (S.1 102 ((j : Int))))), .int (iI (((f (S.1 101 ((j : Int)))) + (S.1 103 ((j : Int)))) - (f (S.1 102 ((j : Int)))))), .int (iI (0))]) (pc' := 127) h ⟨dZ_hangs_125, rfl⟩ (by decide) rfl rfl ?_
              have hf1 := g8 (S.1 101 j) (by omega) (by omega)
              have hf2 := g8 (S.1 102 j) (by omega) (by omega)
              exact inner (g (S.1 101 j)) (g (S.1 102 j)) _ 0 (by omega) hq1 hq2 (by omega) (g9 _ (by omega) (by omega)) (g9 _ (by omega) (by omega)) (by rw [hf1, hf2]) (by rw [hgF, if_pos (by omega)]; show _ = if _ then (1 : Int) else 0; rw [if_neg (by rw [← g9 _ (by omega) (by omega), ← g9 (S.1 102 j) (by omega) (by omega), ← g7]; omega)]) 7 0 f g (by omega) (by omega) (by omega) (fun q h1 h2 => by rw [if_neg (by omega)]) (fun q h1 h2 => by rw [if_neg (by omega)])
            · refine gi_iconst (pc' := 87) h ⟨dZ_hangs_86, rfl⟩ ?_
              refine gi_goto (tgt := 91) h dZ_hangs_87 rfl ?_
              refine go_istore_n (L' := [.ref 88, .int (iI (x)), .int (iI (1)), .int (iI ((j : Int))), .int (iI (g (S.1 101 ((j : Int))))), .int (iI (g (S.1 102 ((j : Int)))))]) (pc' := 92) h ⟨dZ_hangs_91, rfl⟩ (by decide) rfl rfl ?_
              refine go_aload_n (pc' := 93) h ⟨dZ_hangs_92, rfl⟩ rfl ?_
              refine gs_get (v := .ref 104) (pc' := 96) h ⟨dZ_hangs_93, rfl⟩ fgZ_56 rfl (by decide) (rfl) ?_
              refine go_aload_n (pc' := 97) h ⟨dZ_hangs_96, rfl⟩ rfl ?_
              refine gs_get (v := .ref 101) (pc' := 100) h ⟨dZ_hangs_97, rfl⟩ fgZ_47 rfl (by decide) (rfl) ?_
              refine go_iload_n (pc' := 101) h ⟨dZ_hangs_100, rfl⟩ rfl ?_
              refine gs_iald (pc' := 102) h ⟨dZ_hangs_101, rfl⟩ rfl (by have hln : (ln 101 : Int) = 6 := rfl; omega) ?_
              rw [show ((hst S f g).1 101 ((j : Int)) : Int) = S.1 101 ((j : Int)) from rfl]
              refine gs_iald (pc' := 103) h ⟨dZ_hangs_102, rfl⟩ rfl (by have hln : (ln 104 : Int) = 6 := rfl; omega) ?_
              rw [show ((hst S f g).1 104 (S.1 101 ((j : Int))) : Int) = f (S.1 101 ((j : Int))) from rfl]
              refine go_aload_n (pc' := 104) h ⟨dZ_hangs_103, rfl⟩ rfl ?_
              refine gs_get (v := .ref 103) (pc' := 107) h ⟨dZ_hangs_104, rfl⟩ fgZ_53 rfl (by decide) (rfl) ?_
              refine go_iload_n (pc' := 108) h ⟨dZ_hangs_107, rfl⟩ rfl ?_
              refine gs_iald (pc' := 109) h ⟨dZ_hangs_108, rfl⟩ rfl (by have hln : (ln 103 : Int) = 6 := rfl; omega) ?_
              rw [show ((hst S f g).1 103 ((j : Int)) : Int) = S.1 103 ((j : Int)) from rfl]
              refine gi_iadd (pc' := 110) h ⟨dZ_hangs_109, rfl⟩ ?_
              refine go_aload_n (pc' := 111) h ⟨dZ_hangs_110, rfl⟩ rfl ?_
              refine gs_get (v := .ref 104) (pc' := 114) h ⟨dZ_hangs_111, rfl⟩ fgZ_56 rfl (by decide) (rfl) ?_
              refine go_aload_n (pc' := 115) h ⟨dZ_hangs_114, rfl⟩ rfl ?_
              refine gs_get (v := .ref 102) (pc' := 118) h ⟨dZ_hangs_115, rfl⟩ fgZ_50 rfl (by decide) (rfl) ?_
              refine go_iload_n (pc' := 119) h ⟨dZ_hangs_118, rfl⟩ rfl ?_
              refine gs_iald (pc' := 120) h ⟨dZ_hangs_119, rfl⟩ rfl (by have hln : (ln 102 : Int) = 6 := rfl; omega) ?_
              rw [show ((hst S f g).1 102 ((j : Int)) : Int) = S.1 102 ((j : Int)) from rfl]
              refine gs_iald (pc' := 121) h ⟨dZ_hangs_120, rfl⟩ rfl (by have hln : (ln 104 : Int) = 6 := rfl; omega) ?_
              rw [show ((hst S f g).1 104 (S.1 102 ((j : Int))) : Int) = f (S.1 102 ((j : Int))) from rfl]
              refine gi_isub (pc' := 122) h ⟨dZ_hangs_121, rfl⟩ ?_
              refine go_istore (L' := [.ref 88, .int (iI (x)), .int (iI (1)), .int (iI ((j : Int))), .int (iI (g (S.1 101 ((j : Int))))), .int (iI (g (S.1 102 ((j : Int))))), .int (iI (((f (S.1 101 ((j : Int)))) + (S.1 103 ((j : Int)))) - (f (S.1 102 ((j : Int))))))]) (pc' := 124) h ⟨dZ_hangs_122, rfl⟩ (by decide) rfl rfl ?_
              refine gi_iconst (pc' := 125) h ⟨dZ_hangs_124, rfl⟩ ?_
              refine go_istore (L' := [.ref 88, .int (iI (x)), .int (iI (1)), .int (iI ((j : Int))), .int (iI (g (S.1 101 ((j : Int))))), .int (iI (g (S.1 102 ((j : Int))))), .int (iI (((f (S.1 101 ((j : Int)))) + (S.1 103 ((j : Int)))) - (f (S.1 102 ((j : Int)))))), .int (iI (0))]) (pc' := 127) h ⟨dZ_hangs_125, rfl⟩ (by decide) rfl rfl ?_
              have hf1 := g8 (S.1 101 j) (by omega) (by omega)
              have hf2 := g8 (S.1 102 j) (by omega) (by omega)
              exact inner (g (S.1 101 j)) (g (S.1 102 j)) _ 1 (by omega) hq1 hq2 (by omega) (g9 _ (by omega) (by omega)) (g9 _ (by omega) (by omega)) (by rw [hf1, hf2]) (by rw [hgF, if_pos (by omega)]; show _ = if _ then (1 : Int) else 0; rw [if_pos (by rw [← g9 _ (by omega) (by omega), ← g9 (S.1 102 j) (by omega) (by omega), ← g7]; omega)]) 7 0 f g (by omega) (by omega) (by omega) (fun q h1 h2 => by rw [if_neg (by omega)]) (fun q h1 h2 => by rw [if_neg (by omega)])
  have l1 : ∀ (n : Nat) (j : Int) (f g : Int → Int), 6 < j + n → 0 ≤ j → j ≤ 6 → (∀ q : Int, 0 ≤ q → q < j → f q = 0 ∧ g q = q) → Go F 8 (mk (hst S f g)) 0 0 2 [.ref 88, .int (iI x), .int (iI j)] [] := by
    intro n
    induction n with
    | zero => intro j f g g4 g5 g6; exfalso; omega
    | succ n ih =>
      intro j f g g4 g5 g6 g7
      refine go_iload_n (pc' := 3) h ⟨dZ_hangs_2, rfl⟩ rfl ?_
      refine gi_bipush (pc' := 5) h ⟨dZ_hangs_3, rfl⟩ rfl ?_
      refine gi_icmp_ge (tgt := 28) (pc' := 8) h dZ_hangs_5 rfl rfl (by omega) (fun c5 => ?_) (fun c5 => ?_)
      · refine gi_iconst (pc' := 29) h ⟨dZ_hangs_28, rfl⟩ ?_
        refine go_istore_n (L' := [.ref 88, .int (iI (x)), .int (iI (1))]) (pc' := 30) h ⟨dZ_hangs_29, rfl⟩ (by decide) rfl rfl ?_
        refine gi_iconst (pc' := 31) h ⟨dZ_hangs_30, rfl⟩ ?_
        refine go_istore_n (L' := [.ref 88, .int (iI (x)), .int (iI (1)), .int (iI (0))]) (pc' := 32) h ⟨dZ_hangs_31, rfl⟩ (by decide) rfl rfl ?_
        exact l2 7 0 f g 1 _ rfl (by omega) (by omega) rfl (fun q h1 h2 => (g7 q h1 (by omega)).1) (fun q h1 h2 => (g7 q h1 (by omega)).2)
      · refine go_aload_n (pc' := 9) h ⟨dZ_hangs_8, rfl⟩ rfl ?_
        refine gs_get (v := .ref 104) (pc' := 12) h ⟨dZ_hangs_9, rfl⟩ fgZ_56 rfl (by decide) (rfl) ?_
        refine go_iload_n (pc' := 13) h ⟨dZ_hangs_12, rfl⟩ rfl ?_
        refine gi_iconst (pc' := 14) h ⟨dZ_hangs_13, rfl⟩ ?_
        refine gs_iast (pc' := 15) h ⟨dZ_hangs_14, rfl⟩ rfl (by have hln : (ln 104 : Int) = 6 := rfl; omega) ?_
        refine go_aload_n (pc' := 16) h ⟨dZ_hangs_15, rfl⟩ rfl ?_
        refine gs_get (v := .ref 105) (pc' := 19) h ⟨dZ_hangs_16, rfl⟩ fgZ_59 rfl (by decide) (rfl) ?_
        refine go_iload_n (pc' := 20) h ⟨dZ_hangs_19, rfl⟩ rfl ?_
        refine go_iload_n (pc' := 21) h ⟨dZ_hangs_20, rfl⟩ rfl ?_
        refine gs_iast (pc' := 22) h ⟨dZ_hangs_21, rfl⟩ rfl (by have hln : (ln 105 : Int) = 6 := rfl; omega) ?_
        refine gi_iinc (L' := [.ref 88, .int (iI (x)), .int (iI (j + 1))]) (pc' := 25) h ⟨dZ_hangs_22, rfl⟩ rfl (by decide) rfl rfl ?_
        refine gi_goto (tgt := 2) h dZ_hangs_25 rfl ?_
        rw [hst_p4, hst_p5]
        refine ih (j + 1) _ _ (by omega) (by omega) (by omega) (fun q h1 h2 => ?_)
        by_cases hq : q = j
        · rw [hq, uF_eq, uF_eq]; exact ⟨rfl, rfl⟩
        · rw [uF_ne _ _ hq, uF_ne _ _ hq]; exact g7 q h1 (by omega)
  refine gi_iconst (pc' := 1) h ⟨dZ_hangs_0, rfl⟩ ?_
  refine go_istore_n (L' := [.ref 88, .int (iI (x)), .int (iI (0))]) (pc' := 2) h ⟨dZ_hangs_1, rfl⟩ (by decide) rfl rfl ?_
  exact l1 7 0 f0 g0 (by omega) (by omega) (by omega) (fun q h1 h2 => by omega)
