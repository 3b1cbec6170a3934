/-! the law's body -/
theorem nw_E0 (c : Ce) : nw E0 c = nws E0 [c] := by
  refine Prod.ext rfl (funext fun k => ?_)
  show (if k = 0 then some c else none) = if k < 0 then none else [c][k - 0]?
  match k with
  | 0 => rfl
  | k + 1 => rfl
abbrev Lw (F : FT) (sc : Nat) (i : Int) : List Value := [.ref sc, .ref (baF F + 0), .ref (baF F + 88), .int (iI i)]
section BODY
variable {F : FT} {X : XT} {cs sl sc Ln : Nat} {xs : Nat → Int32} {c i : Int} {S : Sg}
theorem law_type (h : Fok F code 4 R_law (some .boolean)) (hF : FF F X 16 cs sl) (hX : SX F sc Ln xs) (hLn : Ln ≤ 2048) (hi : 0 ≤ i ∧ i + 4 ≤ (Ln : Int)) (hR : RI c S) (hc : c + 1 ≤ 5000) (kk : ∀ S2, RI (c + 1) S2 → GL F 4 (mk S2) cs sl 855 (Lw F sc i) []) : GL F 4 (mk S) cs sl 160 (Lw F sc i) [] := by
  obtain ⟨P, cx, hz⟩ := op_type X hR hc (xI_bd xs (i + 1))
  refine gl_aload_n (x := 0) (pc' := 161) h ⟨dL_law_160, rfl⟩ rfl ?_
  refine gl_sldc (pc1 := 162) (pc2 := 163) (pc3 := 164) (pc4 := 165) (pc' := 166) h hX hLn ⟨dL_law_161, rfl⟩ ⟨dL_law_162, rfl⟩ ⟨dL_law_163, rfl⟩ ⟨dL_law_164, rfl⟩ ⟨dL_law_165, rfl⟩ rfl rfl (by omega) ?_
  refine gl_callVI (pc' := 169) (As := [.int (iI (xI xs (i + 1)))]) (st := []) h hF ⟨dL_law_166, rfl⟩ kvL_13 cx (by decide) rfl (by decide) ⟨_, _, rfl⟩ rfl (Nat.le_of_ble_eq_true rfl) rfl (fun r S1 hP => ?_)
  obtain ⟨Q, cz, hq⟩ := hz r S1 hP
  refine gl_aload_n (x := 88) (pc' := 170) h ⟨dL_law_169, rfl⟩ rfl ?_
  refine gl_sldc (pc1 := 171) (pc2 := 172) (pc3 := 173) (pc4 := 174) (pc' := 175) h hX hLn ⟨dL_law_170, rfl⟩ ⟨dL_law_171, rfl⟩ ⟨dL_law_172, rfl⟩ ⟨dL_law_173, rfl⟩ ⟨dL_law_174, rfl⟩ rfl rfl (by omega) ?_
  refine gl_callVI (pc' := 178) (As := [.int (iI (xI xs (i + 1)))]) (st := [.int (iI r)]) h hF ⟨dL_law_175, rfl⟩ kvL_17 cz (by decide) rfl (by decide) ⟨_, _, rfl⟩ rfl (Nat.le_of_ble_eq_true rfl) rfl (fun r' S2 hQ => ?_)
  obtain ⟨rfl, hR2⟩ := hq r' S2 hQ
  exact gl_icmp_eq (tgt := 855) (pc' := 181) h dL_law_178 rfl rfl (fun _ => kk S2 hR2) (fun z => absurd rfl z)
theorem law_clear (h : Fok F code 4 R_law (some .boolean)) (hF : FF F X 16 cs sl) (hX : SX F sc Ln xs) (hLn : Ln ≤ 2048) (hi : 0 ≤ i ∧ i + 4 ≤ (Ln : Int)) (hR : RI c S) (hc : c + 1 ≤ 5000) (kk : ∀ S2, RI (c + 1) S2 → GL F 4 (mk S2) cs sl 855 (Lw F sc i) []) : GL F 4 (mk S) cs sl 183 (Lw F sc i) [] := by
  obtain ⟨P, cx, hz⟩ := op_clear X hR hc
  refine gl_aload_n (x := 0) (pc' := 184) h ⟨dL_law_183, rfl⟩ rfl ?_
  refine gl_callVI (pc' := 187) (As := []) (st := []) h hF ⟨dL_law_184, rfl⟩ kvL_18 cx (by decide) rfl (by decide) ⟨_, _, rfl⟩ rfl (Nat.le_of_ble_eq_true rfl) rfl (fun r S1 hP => ?_)
  obtain ⟨Q, cz, hq⟩ := hz r S1 hP
  refine gl_aload_n (x := 88) (pc' := 188) h ⟨dL_law_187, rfl⟩ rfl ?_
  refine gl_callVI (pc' := 191) (As := []) (st := [.int (iI r)]) h hF ⟨dL_law_188, rfl⟩ kvL_22 cz (by decide) rfl (by decide) ⟨_, _, rfl⟩ rfl (Nat.le_of_ble_eq_true rfl) rfl (fun r' S2 hQ => ?_)
  obtain ⟨rfl, hR2⟩ := hq r' S2 hQ
  exact gl_icmp_eq (tgt := 855) (pc' := 194) h dL_law_191 rfl rfl (fun _ => kk S2 hR2) (fun z => absurd rfl z)
theorem law_ladder (h : Fok F code 4 R_law (some .boolean)) (hF : FF F X 16 cs sl) (hX : SX F sc Ln xs) (hLn : Ln ≤ 2048) (hi : 0 ≤ i ∧ i + 4 ≤ (Ln : Int)) (hR : RI c S) (hc : c + 1 ≤ 5000) (kk : ∀ S2, RI (c + 1) S2 → GL F 4 (mk S2) cs sl 855 (Lw F sc i) []) : GL F 4 (mk S) cs sl 196 (Lw F sc i) [] := by
  obtain ⟨P, cx, hz⟩ := op_ladder X hR hc
  refine gl_aload_n (x := 0) (pc' := 197) h ⟨dL_law_196, rfl⟩ rfl ?_
  refine gl_callVI (pc' := 200) (As := []) (st := []) h hF ⟨dL_law_197, rfl⟩ kvL_23 cx (by decide) rfl (by decide) ⟨_, _, rfl⟩ rfl (Nat.le_of_ble_eq_true rfl) rfl (fun r S1 hP => ?_)
  obtain ⟨Q, cz, hq⟩ := hz r S1 hP
  refine gl_aload_n (x := 88) (pc' := 201) h ⟨dL_law_200, rfl⟩ rfl ?_
  refine gl_callVI (pc' := 204) (As := []) (st := [.int (iI r)]) h hF ⟨dL_law_201, rfl⟩ kvL_26 cz (by decide) rfl (by decide) ⟨_, _, rfl⟩ rfl (Nat.le_of_ble_eq_true rfl) rfl (fun r' S2 hQ => ?_)
  obtain ⟨rfl, hR2⟩ := hq r' S2 hQ
  exact gl_icmp_eq (tgt := 855) (pc' := 207) h dL_law_204 rfl rfl (fun _ => kk S2 hR2) (fun z => absurd rfl z)
theorem law_stretch (h : Fok F code 4 R_law (some .boolean)) (hF : FF F X 16 cs sl) (hX : SX F sc Ln xs) (hLn : Ln ≤ 2048) (hi : 0 ≤ i ∧ i + 4 ≤ (Ln : Int)) (hR : RI c S) (hc : c + 1 ≤ 5000) (kk : ∀ S2, RI (c + 1) S2 → GL F 4 (mk S2) cs sl 855 (Lw F sc i) []) : GL F 4 (mk S) cs sl 209 (Lw F sc i) [] := by
  obtain ⟨P, cx, hz⟩ := op_stretch X hR hc (xI_bd xs (i + 1)) (xI_bd xs (i + 2))
  refine gl_aload_n (x := 0) (pc' := 210) h ⟨dL_law_209, rfl⟩ rfl ?_
  refine gl_sldc (pc1 := 211) (pc2 := 212) (pc3 := 213) (pc4 := 214) (pc' := 215) h hX hLn ⟨dL_law_210, rfl⟩ ⟨dL_law_211, rfl⟩ ⟨dL_law_212, rfl⟩ ⟨dL_law_213, rfl⟩ ⟨dL_law_214, rfl⟩ rfl rfl (by omega) ?_
  refine gl_sldc (pc1 := 216) (pc2 := 217) (pc3 := 218) (pc4 := 219) (pc' := 220) h hX hLn ⟨dL_law_215, rfl⟩ ⟨dL_law_216, rfl⟩ ⟨dL_law_217, rfl⟩ ⟨dL_law_218, rfl⟩ ⟨dL_law_219, rfl⟩ rfl rfl (by omega) ?_
  refine gl_callVI (pc' := 223) (As := [.int (iI (xI xs (i + 1))), .int (iI (xI xs (i + 2)))]) (st := []) h hF ⟨dL_law_220, rfl⟩ kvL_27 cx (by decide) rfl (by decide) ⟨_, _, rfl⟩ rfl (Nat.le_of_ble_eq_true rfl) rfl (fun r S1 hP => ?_)
  obtain ⟨Q, cz, hq⟩ := hz r S1 hP
  refine gl_aload_n (x := 88) (pc' := 224) h ⟨dL_law_223, rfl⟩ rfl ?_
  refine gl_sldc (pc1 := 225) (pc2 := 226) (pc3 := 227) (pc4 := 228) (pc' := 229) h hX hLn ⟨dL_law_224, rfl⟩ ⟨dL_law_225, rfl⟩ ⟨dL_law_226, rfl⟩ ⟨dL_law_227, rfl⟩ ⟨dL_law_228, rfl⟩ rfl rfl (by omega) ?_
  refine gl_sldc (pc1 := 230) (pc2 := 231) (pc3 := 232) (pc4 := 233) (pc' := 234) h hX hLn ⟨dL_law_229, rfl⟩ ⟨dL_law_230, rfl⟩ ⟨dL_law_231, rfl⟩ ⟨dL_law_232, rfl⟩ ⟨dL_law_233, rfl⟩ rfl rfl (by omega) ?_
  refine gl_callVI (pc' := 237) (As := [.int (iI (xI xs (i + 1))), .int (iI (xI xs (i + 2)))]) (st := [.int (iI r)]) h hF ⟨dL_law_234, rfl⟩ kvL_31 cz (by decide) rfl (by decide) ⟨_, _, rfl⟩ rfl (Nat.le_of_ble_eq_true rfl) rfl (fun r' S2 hQ => ?_)
  obtain ⟨rfl, hR2⟩ := hq r' S2 hQ
  exact gl_icmp_eq (tgt := 855) (pc' := 240) h dL_law_237 rfl rfl (fun _ => kk S2 hR2) (fun z => absurd rfl z)
theorem law_traveller (h : Fok F code 4 R_law (some .boolean)) (hF : FF F X 16 cs sl) (hX : SX F sc Ln xs) (hLn : Ln ≤ 2048) (hi : 0 ≤ i ∧ i + 4 ≤ (Ln : Int)) (hR : RI c S) (hc : c + 1 ≤ 5000) (kk : ∀ S2, RI (c + 1) S2 → GL F 4 (mk S2) cs sl 855 (Lw F sc i) []) : GL F 4 (mk S) cs sl 242 (Lw F sc i) [] := by
  obtain ⟨P, cx, hz⟩ := op_traveller X hR hc (xI_bd xs (i + 1)) (xI_bd xs (i + 2))
  refine gl_aload_n (x := 0) (pc' := 243) h ⟨dL_law_242, rfl⟩ rfl ?_
  refine gl_sldc (pc1 := 244) (pc2 := 245) (pc3 := 246) (pc4 := 247) (pc' := 248) h hX hLn ⟨dL_law_243, rfl⟩ ⟨dL_law_244, rfl⟩ ⟨dL_law_245, rfl⟩ ⟨dL_law_246, rfl⟩ ⟨dL_law_247, rfl⟩ rfl rfl (by omega) ?_
  refine gl_sldc (pc1 := 249) (pc2 := 250) (pc3 := 251) (pc4 := 252) (pc' := 253) h hX hLn ⟨dL_law_248, rfl⟩ ⟨dL_law_249, rfl⟩ ⟨dL_law_250, rfl⟩ ⟨dL_law_251, rfl⟩ ⟨dL_law_252, rfl⟩ rfl rfl (by omega) ?_
  refine gl_callVI (pc' := 256) (As := [.int (iI (xI xs (i + 1))), .int (iI (xI xs (i + 2)))]) (st := []) h hF ⟨dL_law_253, rfl⟩ kvL_32 cx (by decide) rfl (by decide) ⟨_, _, rfl⟩ rfl (Nat.le_of_ble_eq_true rfl) rfl (fun r S1 hP => ?_)
  obtain ⟨Q, cz, hq⟩ := hz r S1 hP
  refine gl_aload_n (x := 88) (pc' := 257) h ⟨dL_law_256, rfl⟩ rfl ?_
  refine gl_sldc (pc1 := 258) (pc2 := 259) (pc3 := 260) (pc4 := 261) (pc' := 262) h hX hLn ⟨dL_law_257, rfl⟩ ⟨dL_law_258, rfl⟩ ⟨dL_law_259, rfl⟩ ⟨dL_law_260, rfl⟩ ⟨dL_law_261, rfl⟩ rfl rfl (by omega) ?_
  refine gl_sldc (pc1 := 263) (pc2 := 264) (pc3 := 265) (pc4 := 266) (pc' := 267) h hX hLn ⟨dL_law_262, rfl⟩ ⟨dL_law_263, rfl⟩ ⟨dL_law_264, rfl⟩ ⟨dL_law_265, rfl⟩ ⟨dL_law_266, rfl⟩ rfl rfl (by omega) ?_
  refine gl_callVI (pc' := 270) (As := [.int (iI (xI xs (i + 1))), .int (iI (xI xs (i + 2)))]) (st := [.int (iI r)]) h hF ⟨dL_law_267, rfl⟩ kvL_35 cz (by decide) rfl (by decide) ⟨_, _, rfl⟩ rfl (Nat.le_of_ble_eq_true rfl) rfl (fun r' S2 hQ => ?_)
  obtain ⟨rfl, hR2⟩ := hq r' S2 hQ
  exact gl_icmp_eq (tgt := 855) (pc' := 273) h dL_law_270 rfl rfl (fun _ => kk S2 hR2) (fun z => absurd rfl z)
theorem law_wear (h : Fok F code 4 R_law (some .boolean)) (hF : FF F X 16 cs sl) (hX : SX F sc Ln xs) (hLn : Ln ≤ 2048) (hi : 0 ≤ i ∧ i + 4 ≤ (Ln : Int)) (hR : RI c S) (hc : c + 1 ≤ 5000) (kk : ∀ S2, RI (c + 1) S2 → GL F 4 (mk S2) cs sl 855 (Lw F sc i) []) : GL F 4 (mk S) cs sl 275 (Lw F sc i) [] := by
  obtain ⟨P, cx, hz⟩ := op_wear X hR hc (xI_bd xs (i + 1)) (xI_bd xs (i + 2))
  refine gl_aload_n (x := 0) (pc' := 276) h ⟨dL_law_275, rfl⟩ rfl ?_
  refine gl_sldc (pc1 := 277) (pc2 := 278) (pc3 := 279) (pc4 := 280) (pc' := 281) h hX hLn ⟨dL_law_276, rfl⟩ ⟨dL_law_277, rfl⟩ ⟨dL_law_278, rfl⟩ ⟨dL_law_279, rfl⟩ ⟨dL_law_280, rfl⟩ rfl rfl (by omega) ?_
  refine gl_sldc (pc1 := 282) (pc2 := 283) (pc3 := 284) (pc4 := 285) (pc' := 286) h hX hLn ⟨dL_law_281, rfl⟩ ⟨dL_law_282, rfl⟩ ⟨dL_law_283, rfl⟩ ⟨dL_law_284, rfl⟩ ⟨dL_law_285, rfl⟩ rfl rfl (by omega) ?_
  refine gl_callVI (pc' := 289) (As := [.int (iI (xI xs (i + 1))), .int (iI (xI xs (i + 2)))]) (st := []) h hF ⟨dL_law_286, rfl⟩ kvL_36 cx (by decide) rfl (by decide) ⟨_, _, rfl⟩ rfl (Nat.le_of_ble_eq_true rfl) rfl (fun r S1 hP => ?_)
  obtain ⟨Q, cz, hq⟩ := hz r S1 hP
  refine gl_aload_n (x := 88) (pc' := 290) h ⟨dL_law_289, rfl⟩ rfl ?_
  refine gl_sldc (pc1 := 291) (pc2 := 292) (pc3 := 293) (pc4 := 294) (pc' := 295) h hX hLn ⟨dL_law_290, rfl⟩ ⟨dL_law_291, rfl⟩ ⟨dL_law_292, rfl⟩ ⟨dL_law_293, rfl⟩ ⟨dL_law_294, rfl⟩ rfl rfl (by omega) ?_
  refine gl_sldc (pc1 := 296) (pc2 := 297) (pc3 := 298) (pc4 := 299) (pc' := 300) h hX hLn ⟨dL_law_295, rfl⟩ ⟨dL_law_296, rfl⟩ ⟨dL_law_297, rfl⟩ ⟨dL_law_298, rfl⟩ ⟨dL_law_299, rfl⟩ rfl rfl (by omega) ?_
  refine gl_callVI (pc' := 303) (As := [.int (iI (xI xs (i + 1))), .int (iI (xI xs (i + 2)))]) (st := [.int (iI r)]) h hF ⟨dL_law_300, rfl⟩ kvL_39 cz (by decide) rfl (by decide) ⟨_, _, rfl⟩ rfl (Nat.le_of_ble_eq_true rfl) rfl (fun r' S2 hQ => ?_)
  obtain ⟨rfl, hR2⟩ := hq r' S2 hQ
  exact gl_icmp_eq (tgt := 855) (pc' := 306) h dL_law_303 rfl rfl (fun _ => kk S2 hR2) (fun z => absurd rfl z)
theorem law_thing (h : Fok F code 4 R_law (some .boolean)) (hF : FF F X 16 cs sl) (hX : SX F sc Ln xs) (hLn : Ln ≤ 2048) (hi : 0 ≤ i ∧ i + 4 ≤ (Ln : Int)) (hR : RI c S) (hc : c + 1 ≤ 5000) (kk : ∀ S2, RI (c + 1) S2 → GL F 4 (mk S2) cs sl 855 (Lw F sc i) []) : GL F 4 (mk S) cs sl 308 (Lw F sc i) [] := by
  obtain ⟨P, cx, hz⟩ := op_thing X hR hc (xI_bd xs (i + 1))
  refine gl_aload_n (x := 0) (pc' := 309) h ⟨dL_law_308, rfl⟩ rfl ?_
  refine gl_sldc (pc1 := 310) (pc2 := 311) (pc3 := 312) (pc4 := 313) (pc' := 314) h hX hLn ⟨dL_law_309, rfl⟩ ⟨dL_law_310, rfl⟩ ⟨dL_law_311, rfl⟩ ⟨dL_law_312, rfl⟩ ⟨dL_law_313, rfl⟩ rfl rfl (by omega) ?_
  refine gl_callVI (pc' := 317) (As := [.int (iI (xI xs (i + 1)))]) (st := []) h hF ⟨dL_law_314, rfl⟩ kvL_40 cx (by decide) rfl (by decide) ⟨_, _, rfl⟩ rfl (Nat.le_of_ble_eq_true rfl) rfl (fun r S1 hP => ?_)
  obtain ⟨Q, cz, hq⟩ := hz r S1 hP
  refine gl_aload_n (x := 88) (pc' := 318) h ⟨dL_law_317, rfl⟩ rfl ?_
  refine gl_sldc (pc1 := 319) (pc2 := 320) (pc3 := 321) (pc4 := 322) (pc' := 323) h hX hLn ⟨dL_law_318, rfl⟩ ⟨dL_law_319, rfl⟩ ⟨dL_law_320, rfl⟩ ⟨dL_law_321, rfl⟩ ⟨dL_law_322, rfl⟩ rfl rfl (by omega) ?_
  refine gl_callVI (pc' := 326) (As := [.int (iI (xI xs (i + 1)))]) (st := [.int (iI r)]) h hF ⟨dL_law_323, rfl⟩ kvL_43 cz (by decide) rfl (by decide) ⟨_, _, rfl⟩ rfl (Nat.le_of_ble_eq_true rfl) rfl (fun r' S2 hQ => ?_)
  obtain ⟨rfl, hR2⟩ := hq r' S2 hQ
  exact gl_icmp_eq (tgt := 855) (pc' := 329) h dL_law_326 rfl rfl (fun _ => kk S2 hR2) (fun z => absurd rfl z)
theorem law_now (h : Fok F code 4 R_law (some .boolean)) (hF : FF F X 16 cs sl) (hX : SX F sc Ln xs) (hLn : Ln ≤ 2048) (hi : 0 ≤ i ∧ i + 4 ≤ (Ln : Int)) (hR : RI c S) (hc : c + 1 ≤ 5000) (kk : ∀ S2, RI (c + 1) S2 → GL F 4 (mk S2) cs sl 855 (Lw F sc i) []) : GL F 4 (mk S) cs sl 331 (Lw F sc i) [] := by
  obtain ⟨P, cx, hz⟩ := op_now X hR hc (xI_bd xs (i + 1))
  refine gl_aload_n (x := 0) (pc' := 332) h ⟨dL_law_331, rfl⟩ rfl ?_
  refine gl_sldc (pc1 := 333) (pc2 := 334) (pc3 := 335) (pc4 := 336) (pc' := 337) h hX hLn ⟨dL_law_332, rfl⟩ ⟨dL_law_333, rfl⟩ ⟨dL_law_334, rfl⟩ ⟨dL_law_335, rfl⟩ ⟨dL_law_336, rfl⟩ rfl rfl (by omega) ?_
  refine gl_callVI (pc' := 340) (As := [.int (iI (xI xs (i + 1)))]) (st := []) h hF ⟨dL_law_337, rfl⟩ kvL_44 cx (by decide) rfl (by decide) ⟨_, _, rfl⟩ rfl (Nat.le_of_ble_eq_true rfl) rfl (fun r S1 hP => ?_)
  obtain ⟨Q, cz, hq⟩ := hz r S1 hP
  refine gl_aload_n (x := 88) (pc' := 341) h ⟨dL_law_340, rfl⟩ rfl ?_
  refine gl_sldc (pc1 := 342) (pc2 := 343) (pc3 := 344) (pc4 := 345) (pc' := 346) h hX hLn ⟨dL_law_341, rfl⟩ ⟨dL_law_342, rfl⟩ ⟨dL_law_343, rfl⟩ ⟨dL_law_344, rfl⟩ ⟨dL_law_345, rfl⟩ rfl rfl (by omega) ?_
  refine gl_callVI (pc' := 349) (As := [.int (iI (xI xs (i + 1)))]) (st := [.int (iI r)]) h hF ⟨dL_law_346, rfl⟩ kvL_47 cz (by decide) rfl (by decide) ⟨_, _, rfl⟩ rfl (Nat.le_of_ble_eq_true rfl) rfl (fun r' S2 hQ => ?_)
  obtain ⟨rfl, hR2⟩ := hq r' S2 hQ
  exact gl_icmp_eq (tgt := 855) (pc' := 352) h dL_law_349 rfl rfl (fun _ => kk S2 hR2) (fun z => absurd rfl z)
theorem law_goes (h : Fok F code 4 R_law (some .boolean)) (hF : FF F X 16 cs sl) (hX : SX F sc Ln xs) (hLn : Ln ≤ 2048) (hi : 0 ≤ i ∧ i + 4 ≤ (Ln : Int)) (hR : RI c S) (hc : c + 1 ≤ 5000) (kk : ∀ S2, RI (c + 1) S2 → GL F 4 (mk S2) cs sl 855 (Lw F sc i) []) : GL F 4 (mk S) cs sl 354 (Lw F sc i) [] := by
  obtain ⟨P, cx, hz⟩ := op_goes X hR hc (xI_bd xs (i + 1)) (xI_bd xs (i + 2))
  refine gl_aload_n (x := 0) (pc' := 355) h ⟨dL_law_354, rfl⟩ rfl ?_
  refine gl_sldc (pc1 := 356) (pc2 := 357) (pc3 := 358) (pc4 := 359) (pc' := 360) h hX hLn ⟨dL_law_355, rfl⟩ ⟨dL_law_356, rfl⟩ ⟨dL_law_357, rfl⟩ ⟨dL_law_358, rfl⟩ ⟨dL_law_359, rfl⟩ rfl rfl (by omega) ?_
  refine gl_sldc (pc1 := 361) (pc2 := 362) (pc3 := 363) (pc4 := 364) (pc' := 365) h hX hLn ⟨dL_law_360, rfl⟩ ⟨dL_law_361, rfl⟩ ⟨dL_law_362, rfl⟩ ⟨dL_law_363, rfl⟩ ⟨dL_law_364, rfl⟩ rfl rfl (by omega) ?_
  refine gl_callVI (pc' := 368) (As := [.int (iI (xI xs (i + 1))), .int (iI (xI xs (i + 2)))]) (st := []) h hF ⟨dL_law_365, rfl⟩ kvL_48 cx (by decide) rfl (by decide) ⟨_, _, rfl⟩ rfl (Nat.le_of_ble_eq_true rfl) rfl (fun r S1 hP => ?_)
  obtain ⟨Q, cz, hq⟩ := hz r S1 hP
  refine gl_aload_n (x := 88) (pc' := 369) h ⟨dL_law_368, rfl⟩ rfl ?_
  refine gl_sldc (pc1 := 370) (pc2 := 371) (pc3 := 372) (pc4 := 373) (pc' := 374) h hX hLn ⟨dL_law_369, rfl⟩ ⟨dL_law_370, rfl⟩ ⟨dL_law_371, rfl⟩ ⟨dL_law_372, rfl⟩ ⟨dL_law_373, rfl⟩ rfl rfl (by omega) ?_
  refine gl_sldc (pc1 := 375) (pc2 := 376) (pc3 := 377) (pc4 := 378) (pc' := 379) h hX hLn ⟨dL_law_374, rfl⟩ ⟨dL_law_375, rfl⟩ ⟨dL_law_376, rfl⟩ ⟨dL_law_377, rfl⟩ ⟨dL_law_378, rfl⟩ rfl rfl (by omega) ?_
  refine gl_callVI (pc' := 382) (As := [.int (iI (xI xs (i + 1))), .int (iI (xI xs (i + 2)))]) (st := [.int (iI r)]) h hF ⟨dL_law_379, rfl⟩ kvL_51 cz (by decide) rfl (by decide) ⟨_, _, rfl⟩ rfl (Nat.le_of_ble_eq_true rfl) rfl (fun r' S2 hQ => ?_)
  obtain ⟨rfl, hR2⟩ := hq r' S2 hQ
  exact gl_icmp_eq (tgt := 855) (pc' := 385) h dL_law_382 rfl rfl (fun _ => kk S2 hR2) (fun z => absurd rfl z)
theorem law_stays (h : Fok F code 4 R_law (some .boolean)) (hF : FF F X 16 cs sl) (hX : SX F sc Ln xs) (hLn : Ln ≤ 2048) (hi : 0 ≤ i ∧ i + 4 ≤ (Ln : Int)) (hR : RI c S) (hc : c + 1 ≤ 5000) (kk : ∀ S2, RI (c + 1) S2 → GL F 4 (mk S2) cs sl 855 (Lw F sc i) []) : GL F 4 (mk S) cs sl 387 (Lw F sc i) [] := by
  obtain ⟨P, cx, hz⟩ := op_stays X hR hc (xI_bd xs (i + 1))
  refine gl_aload_n (x := 0) (pc' := 388) h ⟨dL_law_387, rfl⟩ rfl ?_
  refine gl_sldc (pc1 := 389) (pc2 := 390) (pc3 := 391) (pc4 := 392) (pc' := 393) h hX hLn ⟨dL_law_388, rfl⟩ ⟨dL_law_389, rfl⟩ ⟨dL_law_390, rfl⟩ ⟨dL_law_391, rfl⟩ ⟨dL_law_392, rfl⟩ rfl rfl (by omega) ?_
  refine gl_callVI (pc' := 396) (As := [.int (iI (xI xs (i + 1)))]) (st := []) h hF ⟨dL_law_393, rfl⟩ kvL_52 cx (by decide) rfl (by decide) ⟨_, _, rfl⟩ rfl (Nat.le_of_ble_eq_true rfl) rfl (fun r S1 hP => ?_)
  obtain ⟨Q, cz, hq⟩ := hz r S1 hP
  refine gl_aload_n (x := 88) (pc' := 397) h ⟨dL_law_396, rfl⟩ rfl ?_
  refine gl_sldc (pc1 := 398) (pc2 := 399) (pc3 := 400) (pc4 := 401) (pc' := 402) h hX hLn ⟨dL_law_397, rfl⟩ ⟨dL_law_398, rfl⟩ ⟨dL_law_399, rfl⟩ ⟨dL_law_400, rfl⟩ ⟨dL_law_401, rfl⟩ rfl rfl (by omega) ?_
  refine gl_callVI (pc' := 405) (As := [.int (iI (xI xs (i + 1)))]) (st := [.int (iI r)]) h hF ⟨dL_law_402, rfl⟩ kvL_55 cz (by decide) rfl (by decide) ⟨_, _, rfl⟩ rfl (Nat.le_of_ble_eq_true rfl) rfl (fun r' S2 hQ => ?_)
  obtain ⟨rfl, hR2⟩ := hq r' S2 hQ
  exact gl_icmp_eq (tgt := 855) (pc' := 408) h dL_law_405 rfl rfl (fun _ => kk S2 hR2) (fun z => absurd rfl z)
theorem law_loses (h : Fok F code 4 R_law (some .boolean)) (hF : FF F X 16 cs sl) (hX : SX F sc Ln xs) (hLn : Ln ≤ 2048) (hi : 0 ≤ i ∧ i + 4 ≤ (Ln : Int)) (hR : RI c S) (hc : c + 1 ≤ 5000) (kk : ∀ S2, RI (c + 1) S2 → GL F 4 (mk S2) cs sl 855 (Lw F sc i) []) : GL F 4 (mk S) cs sl 410 (Lw F sc i) [] := by
  obtain ⟨P, cx, hz⟩ := op_loses X hR hc (xI_bd xs (i + 1))
  refine gl_aload_n (x := 0) (pc' := 411) h ⟨dL_law_410, rfl⟩ rfl ?_
  refine gl_sldc (pc1 := 412) (pc2 := 413) (pc3 := 414) (pc4 := 415) (pc' := 416) h hX hLn ⟨dL_law_411, rfl⟩ ⟨dL_law_412, rfl⟩ ⟨dL_law_413, rfl⟩ ⟨dL_law_414, rfl⟩ ⟨dL_law_415, rfl⟩ rfl rfl (by omega) ?_
  refine gl_callVI (pc' := 419) (As := [.int (iI (xI xs (i + 1)))]) (st := []) h hF ⟨dL_law_416, rfl⟩ kvL_56 cx (by decide) rfl (by decide) ⟨_, _, rfl⟩ rfl (Nat.le_of_ble_eq_true rfl) rfl (fun r S1 hP => ?_)
  obtain ⟨Q, cz, hq⟩ := hz r S1 hP
  refine gl_aload_n (x := 88) (pc' := 420) h ⟨dL_law_419, rfl⟩ rfl ?_
  refine gl_sldc (pc1 := 421) (pc2 := 422) (pc3 := 423) (pc4 := 424) (pc' := 425) h hX hLn ⟨dL_law_420, rfl⟩ ⟨dL_law_421, rfl⟩ ⟨dL_law_422, rfl⟩ ⟨dL_law_423, rfl⟩ ⟨dL_law_424, rfl⟩ rfl rfl (by omega) ?_
  refine gl_callVI (pc' := 428) (As := [.int (iI (xI xs (i + 1)))]) (st := [.int (iI r)]) h hF ⟨dL_law_425, rfl⟩ kvL_59 cz (by decide) rfl (by decide) ⟨_, _, rfl⟩ rfl (Nat.le_of_ble_eq_true rfl) rfl (fun r' S2 hQ => ?_)
  obtain ⟨rfl, hR2⟩ := hq r' S2 hQ
  exact gl_icmp_eq (tgt := 855) (pc' := 431) h dL_law_428 rfl rfl (fun _ => kk S2 hR2) (fun z => absurd rfl z)
theorem law_picks (h : Fok F code 4 R_law (some .boolean)) (hF : FF F X 16 cs sl) (hX : SX F sc Ln xs) (hLn : Ln ≤ 2048) (hi : 0 ≤ i ∧ i + 4 ≤ (Ln : Int)) (hR : RI c S) (hc : c + 1 ≤ 5000) (kk : ∀ S2, RI (c + 1) S2 → GL F 4 (mk S2) cs sl 855 (Lw F sc i) []) : GL F 4 (mk S) cs sl 433 (Lw F sc i) [] := by
  obtain ⟨P, cx, hz⟩ := op_picks X hR hc (xI_bd xs (i + 1))
  refine gl_aload_n (x := 0) (pc' := 434) h ⟨dL_law_433, rfl⟩ rfl ?_
  refine gl_sldc (pc1 := 435) (pc2 := 436) (pc3 := 437) (pc4 := 438) (pc' := 439) h hX hLn ⟨dL_law_434, rfl⟩ ⟨dL_law_435, rfl⟩ ⟨dL_law_436, rfl⟩ ⟨dL_law_437, rfl⟩ ⟨dL_law_438, rfl⟩ rfl rfl (by omega) ?_
  refine gl_callVI (pc' := 442) (As := [.int (iI (xI xs (i + 1)))]) (st := []) h hF ⟨dL_law_439, rfl⟩ kvL_60 cx (by decide) rfl (by decide) ⟨_, _, rfl⟩ rfl (Nat.le_of_ble_eq_true rfl) rfl (fun r S1 hP => ?_)
  obtain ⟨Q, cz, hq⟩ := hz r S1 hP
  refine gl_aload_n (x := 88) (pc' := 443) h ⟨dL_law_442, rfl⟩ rfl ?_
  refine gl_sldc (pc1 := 444) (pc2 := 445) (pc3 := 446) (pc4 := 447) (pc' := 448) h hX hLn ⟨dL_law_443, rfl⟩ ⟨dL_law_444, rfl⟩ ⟨dL_law_445, rfl⟩ ⟨dL_law_446, rfl⟩ ⟨dL_law_447, rfl⟩ rfl rfl (by omega) ?_
  refine gl_callVI (pc' := 451) (As := [.int (iI (xI xs (i + 1)))]) (st := [.int (iI r)]) h hF ⟨dL_law_448, rfl⟩ kvL_63 cz (by decide) rfl (by decide) ⟨_, _, rfl⟩ rfl (Nat.le_of_ble_eq_true rfl) rfl (fun r' S2 hQ => ?_)
  obtain ⟨rfl, hR2⟩ := hq r' S2 hQ
  exact gl_icmp_eq (tgt := 855) (pc' := 454) h dL_law_451 rfl rfl (fun _ => kk S2 hR2) (fun z => absurd rfl z)
theorem law_undo (h : Fok F code 4 R_law (some .boolean)) (hF : FF F X 16 cs sl) (hX : SX F sc Ln xs) (hLn : Ln ≤ 2048) (hi : 0 ≤ i ∧ i + 4 ≤ (Ln : Int)) (hR : RI c S) (hc : c + 1 ≤ 5000) (kk : ∀ S2, RI (c + 1) S2 → GL F 4 (mk S2) cs sl 855 (Lw F sc i) []) : GL F 4 (mk S) cs sl 456 (Lw F sc i) [] := by
  obtain ⟨P, cx, hz⟩ := op_undo X hR hc
  refine gl_aload_n (x := 0) (pc' := 457) h ⟨dL_law_456, rfl⟩ rfl ?_
  refine gl_callVI (pc' := 460) (As := []) (st := []) h hF ⟨dL_law_457, rfl⟩ kvL_64 cx (by decide) rfl (by decide) ⟨_, _, rfl⟩ rfl (Nat.le_of_ble_eq_true rfl) rfl (fun r S1 hP => ?_)
  obtain ⟨Q, cz, hq⟩ := hz r S1 hP
  refine gl_aload_n (x := 88) (pc' := 461) h ⟨dL_law_460, rfl⟩ rfl ?_
  refine gl_callVI (pc' := 464) (As := []) (st := [.int (iI r)]) h hF ⟨dL_law_461, rfl⟩ kvL_67 cz (by decide) rfl (by decide) ⟨_, _, rfl⟩ rfl (Nat.le_of_ble_eq_true rfl) rfl (fun r' S2 hQ => ?_)
  obtain ⟨rfl, hR2⟩ := hq r' S2 hQ
  exact gl_icmp_eq (tgt := 855) (pc' := 467) h dL_law_464 rfl rfl (fun _ => kk S2 hR2) (fun z => absurd rfl z)
theorem law_altitude (h : Fok F code 4 R_law (some .boolean)) (hF : FF F X 16 cs sl) (hX : SX F sc Ln xs) (hLn : Ln ≤ 2048) (hi : 0 ≤ i ∧ i + 4 ≤ (Ln : Int)) (hR : RI c S) (hc : c + 1 ≤ 5000) (kk : ∀ S2, RI (c + 1) S2 → GL F 4 (mk S2) cs sl 855 (Lw F sc i) []) : GL F 4 (mk S) cs sl 469 (Lw F sc i) [] := by
  obtain ⟨P, cx, hz⟩ := op_altitude X hR hc (xI_bd xs (i + 1))
  refine gl_aload_n (x := 0) (pc' := 470) h ⟨dL_law_469, rfl⟩ rfl ?_
  refine gl_sldc (pc1 := 471) (pc2 := 472) (pc3 := 473) (pc4 := 474) (pc' := 475) h hX hLn ⟨dL_law_470, rfl⟩ ⟨dL_law_471, rfl⟩ ⟨dL_law_472, rfl⟩ ⟨dL_law_473, rfl⟩ ⟨dL_law_474, rfl⟩ rfl rfl (by omega) ?_
  refine gl_callVI (pc' := 478) (As := [.int (iI (xI xs (i + 1)))]) (st := []) h hF ⟨dL_law_475, rfl⟩ kvL_68 cx (by decide) rfl (by decide) ⟨_, _, rfl⟩ rfl (Nat.le_of_ble_eq_true rfl) rfl (fun r S1 hP => ?_)
  obtain ⟨Q, cz, hq⟩ := hz r S1 hP
  refine gl_aload_n (x := 88) (pc' := 479) h ⟨dL_law_478, rfl⟩ rfl ?_
  refine gl_sldc (pc1 := 480) (pc2 := 481) (pc3 := 482) (pc4 := 483) (pc' := 484) h hX hLn ⟨dL_law_479, rfl⟩ ⟨dL_law_480, rfl⟩ ⟨dL_law_481, rfl⟩ ⟨dL_law_482, rfl⟩ ⟨dL_law_483, rfl⟩ rfl rfl (by omega) ?_
  refine gl_callVI (pc' := 487) (As := [.int (iI (xI xs (i + 1)))]) (st := [.int (iI r)]) h hF ⟨dL_law_484, rfl⟩ kvL_71 cz (by decide) rfl (by decide) ⟨_, _, rfl⟩ rfl (Nat.le_of_ble_eq_true rfl) rfl (fun r' S2 hQ => ?_)
  obtain ⟨rfl, hR2⟩ := hq r' S2 hQ
  exact gl_icmp_eq (tgt := 855) (pc' := 490) h dL_law_487 rfl rfl (fun _ => kk S2 hR2) (fun z => absurd rfl z)
theorem law_step (h : Fok F code 4 R_law (some .boolean)) (hF : FF F X 16 cs sl) (hX : SX F sc Ln xs) (hLn : Ln ≤ 2048) (hi : 0 ≤ i ∧ i + 4 ≤ (Ln : Int)) (hR : RI c S) (hc : c + 1 ≤ 5000) (kk : ∀ S2, RI (c + 1) S2 → GL F 4 (mk S2) cs sl 855 (Lw F sc i) []) : GL F 4 (mk S) cs sl 492 (Lw F sc i) [] := by
  obtain ⟨P, cx, hz⟩ := op_step X hR hc (xI_bd xs (i + 1))
  refine gl_aload_n (x := 0) (pc' := 493) h ⟨dL_law_492, rfl⟩ rfl ?_
  refine gl_sldc (pc1 := 494) (pc2 := 495) (pc3 := 496) (pc4 := 497) (pc' := 498) h hX hLn ⟨dL_law_493, rfl⟩ ⟨dL_law_494, rfl⟩ ⟨dL_law_495, rfl⟩ ⟨dL_law_496, rfl⟩ ⟨dL_law_497, rfl⟩ rfl rfl (by omega) ?_
  refine gl_callVI (pc' := 501) (As := [.int (iI (xI xs (i + 1)))]) (st := []) h hF ⟨dL_law_498, rfl⟩ kvL_72 cx (by decide) rfl (by decide) ⟨_, _, rfl⟩ rfl (Nat.le_of_ble_eq_true rfl) rfl (fun r S1 hP => ?_)
  obtain ⟨Q, cz, hq⟩ := hz r S1 hP
  refine gl_aload_n (x := 88) (pc' := 502) h ⟨dL_law_501, rfl⟩ rfl ?_
  refine gl_sldc (pc1 := 503) (pc2 := 504) (pc3 := 505) (pc4 := 506) (pc' := 507) h hX hLn ⟨dL_law_502, rfl⟩ ⟨dL_law_503, rfl⟩ ⟨dL_law_504, rfl⟩ ⟨dL_law_505, rfl⟩ ⟨dL_law_506, rfl⟩ rfl rfl (by omega) ?_
  refine gl_callVI (pc' := 510) (As := [.int (iI (xI xs (i + 1)))]) (st := [.int (iI r)]) h hF ⟨dL_law_507, rfl⟩ kvL_75 cz (by decide) rfl (by decide) ⟨_, _, rfl⟩ rfl (Nat.le_of_ble_eq_true rfl) rfl (fun r' S2 hQ => ?_)
  obtain ⟨rfl, hR2⟩ := hq r' S2 hQ
  exact gl_icmp_eq (tgt := 855) (pc' := 513) h dL_law_510 rfl rfl (fun _ => kk S2 hR2) (fun z => absurd rfl z)
theorem law_hands (h : Fok F code 4 R_law (some .boolean)) (hF : FF F X 16 cs sl) (hX : SX F sc Ln xs) (hLn : Ln ≤ 2048) (hi : 0 ≤ i ∧ i + 4 ≤ (Ln : Int)) (hR : RI c S) (hc : c + 1 ≤ 5000) (kk : ∀ S2, RI (c + 1) S2 → GL F 4 (mk S2) cs sl 855 (Lw F sc i) []) : GL F 4 (mk S) cs sl 515 (Lw F sc i) [] := by
  obtain ⟨P, cx, hz⟩ := op_hands X hR hc (xI_bd xs (i + 1))
  refine gl_aload_n (x := 0) (pc' := 516) h ⟨dL_law_515, rfl⟩ rfl ?_
  refine gl_sldc (pc1 := 517) (pc2 := 518) (pc3 := 519) (pc4 := 520) (pc' := 521) h hX hLn ⟨dL_law_516, rfl⟩ ⟨dL_law_517, rfl⟩ ⟨dL_law_518, rfl⟩ ⟨dL_law_519, rfl⟩ ⟨dL_law_520, rfl⟩ rfl rfl (by omega) ?_
  refine gl_callVI (pc' := 524) (As := [.int (iI (xI xs (i + 1)))]) (st := []) h hF ⟨dL_law_521, rfl⟩ kvL_76 cx (by decide) rfl (by decide) ⟨_, _, rfl⟩ rfl (Nat.le_of_ble_eq_true rfl) rfl (fun r S1 hP => ?_)
  obtain ⟨Q, cz, hq⟩ := hz r S1 hP
  refine gl_aload_n (x := 88) (pc' := 525) h ⟨dL_law_524, rfl⟩ rfl ?_
  refine gl_sldc (pc1 := 526) (pc2 := 527) (pc3 := 528) (pc4 := 529) (pc' := 530) h hX hLn ⟨dL_law_525, rfl⟩ ⟨dL_law_526, rfl⟩ ⟨dL_law_527, rfl⟩ ⟨dL_law_528, rfl⟩ ⟨dL_law_529, rfl⟩ rfl rfl (by omega) ?_
  refine gl_callVI (pc' := 533) (As := [.int (iI (xI xs (i + 1)))]) (st := [.int (iI r)]) h hF ⟨dL_law_530, rfl⟩ kvL_79 cz (by decide) rfl (by decide) ⟨_, _, rfl⟩ rfl (Nat.le_of_ble_eq_true rfl) rfl (fun r' S2 hQ => ?_)
  obtain ⟨rfl, hR2⟩ := hq r' S2 hQ
  exact gl_icmp_eq (tgt := 855) (pc' := 536) h dL_law_533 rfl rfl (fun _ => kk S2 hR2) (fun z => absurd rfl z)
theorem law_sees (h : Fok F code 4 R_law (some .boolean)) (hF : FF F X 16 cs sl) (hX : SX F sc Ln xs) (hLn : Ln ≤ 2048) (hi : 0 ≤ i ∧ i + 4 ≤ (Ln : Int)) (hR : RI c S) (hc : c + 1 ≤ 5000) (kk : ∀ S2, RI (c + 1) S2 → GL F 4 (mk S2) cs sl 855 (Lw F sc i) []) : GL F 4 (mk S) cs sl 538 (Lw F sc i) [] := by
  obtain ⟨P, cx, hz⟩ := op_sees X hR hc (xI_bd xs (i + 1)) (xI_bd xs (i + 2))
  refine gl_aload_n (x := 0) (pc' := 539) h ⟨dL_law_538, rfl⟩ rfl ?_
  refine gl_sldc (pc1 := 540) (pc2 := 541) (pc3 := 542) (pc4 := 543) (pc' := 544) h hX hLn ⟨dL_law_539, rfl⟩ ⟨dL_law_540, rfl⟩ ⟨dL_law_541, rfl⟩ ⟨dL_law_542, rfl⟩ ⟨dL_law_543, rfl⟩ rfl rfl (by omega) ?_
  refine gl_sldc (pc1 := 545) (pc2 := 546) (pc3 := 547) (pc4 := 548) (pc' := 549) h hX hLn ⟨dL_law_544, rfl⟩ ⟨dL_law_545, rfl⟩ ⟨dL_law_546, rfl⟩ ⟨dL_law_547, rfl⟩ ⟨dL_law_548, rfl⟩ rfl rfl (by omega) ?_
  refine gl_callVI (pc' := 552) (As := [.int (iI (xI xs (i + 1))), .int (iI (xI xs (i + 2)))]) (st := []) h hF ⟨dL_law_549, rfl⟩ kvL_80 cx (by decide) rfl (by decide) ⟨_, _, rfl⟩ rfl (Nat.le_of_ble_eq_true rfl) rfl (fun r S1 hP => ?_)
  obtain ⟨Q, cz, hq⟩ := hz r S1 hP
  refine gl_aload_n (x := 88) (pc' := 553) h ⟨dL_law_552, rfl⟩ rfl ?_
  refine gl_sldc (pc1 := 554) (pc2 := 555) (pc3 := 556) (pc4 := 557) (pc' := 558) h hX hLn ⟨dL_law_553, rfl⟩ ⟨dL_law_554, rfl⟩ ⟨dL_law_555, rfl⟩ ⟨dL_law_556, rfl⟩ ⟨dL_law_557, rfl⟩ rfl rfl (by omega) ?_
  refine gl_sldc (pc1 := 559) (pc2 := 560) (pc3 := 561) (pc4 := 562) (pc' := 563) h hX hLn ⟨dL_law_558, rfl⟩ ⟨dL_law_559, rfl⟩ ⟨dL_law_560, rfl⟩ ⟨dL_law_561, rfl⟩ ⟨dL_law_562, rfl⟩ rfl rfl (by omega) ?_
  refine gl_callVI (pc' := 566) (As := [.int (iI (xI xs (i + 1))), .int (iI (xI xs (i + 2)))]) (st := [.int (iI r)]) h hF ⟨dL_law_563, rfl⟩ kvL_83 cz (by decide) rfl (by decide) ⟨_, _, rfl⟩ rfl (Nat.le_of_ble_eq_true rfl) rfl (fun r' S2 hQ => ?_)
  obtain ⟨rfl, hR2⟩ := hq r' S2 hQ
  exact gl_icmp_eq (tgt := 855) (pc' := 569) h dL_law_566 rfl rfl (fun _ => kk S2 hR2) (fun z => absurd rfl z)
theorem law_can (h : Fok F code 4 R_law (some .boolean)) (hF : FF F X 16 cs sl) (hX : SX F sc Ln xs) (hLn : Ln ≤ 2048) (hi : 0 ≤ i ∧ i + 4 ≤ (Ln : Int)) (hR : RI c S) (hc : c + 1 ≤ 5000) (kk : ∀ S2, RI (c + 1) S2 → GL F 4 (mk S2) cs sl 855 (Lw F sc i) []) : GL F 4 (mk S) cs sl 571 (Lw F sc i) [] := by
  obtain ⟨P, cx, hz⟩ := op_can X hR hc (xI_bd xs (i + 1))
  refine gl_aload_n (x := 0) (pc' := 572) h ⟨dL_law_571, rfl⟩ rfl ?_
  refine gl_sldc (pc1 := 573) (pc2 := 574) (pc3 := 575) (pc4 := 576) (pc' := 577) h hX hLn ⟨dL_law_572, rfl⟩ ⟨dL_law_573, rfl⟩ ⟨dL_law_574, rfl⟩ ⟨dL_law_575, rfl⟩ ⟨dL_law_576, rfl⟩ rfl rfl (by omega) ?_
  refine gl_callVI (pc' := 580) (As := [.int (iI (xI xs (i + 1)))]) (st := []) h hF ⟨dL_law_577, rfl⟩ kvL_84 cx (by decide) rfl (by decide) ⟨_, _, rfl⟩ rfl (Nat.le_of_ble_eq_true rfl) rfl (fun r S1 hP => ?_)
  obtain ⟨Q, cz, hq⟩ := hz r S1 hP
  refine gl_aload_n (x := 88) (pc' := 581) h ⟨dL_law_580, rfl⟩ rfl ?_
  refine gl_sldc (pc1 := 582) (pc2 := 583) (pc3 := 584) (pc4 := 585) (pc' := 586) h hX hLn ⟨dL_law_581, rfl⟩ ⟨dL_law_582, rfl⟩ ⟨dL_law_583, rfl⟩ ⟨dL_law_584, rfl⟩ ⟨dL_law_585, rfl⟩ rfl rfl (by omega) ?_
  refine gl_callVI (pc' := 589) (As := [.int (iI (xI xs (i + 1)))]) (st := [.int (iI r)]) h hF ⟨dL_law_586, rfl⟩ kvL_87 cz (by decide) rfl (by decide) ⟨_, _, rfl⟩ rfl (Nat.le_of_ble_eq_true rfl) rfl (fun r' S2 hQ => ?_)
  obtain ⟨rfl, hR2⟩ := hq r' S2 hQ
  exact gl_icmp_eq (tgt := 855) (pc' := 592) h dL_law_589 rfl rfl (fun _ => kk S2 hR2) (fun z => absurd rfl z)
theorem law_measures (h : Fok F code 4 R_law (some .boolean)) (hF : FF F X 16 cs sl) (hX : SX F sc Ln xs) (hLn : Ln ≤ 2048) (hi : 0 ≤ i ∧ i + 4 ≤ (Ln : Int)) (hR : RI c S) (hc : c + 1 ≤ 5000) (kk : ∀ S2, RI (c + 1) S2 → GL F 4 (mk S2) cs sl 855 (Lw F sc i) []) : GL F 4 (mk S) cs sl 594 (Lw F sc i) [] := by
  obtain ⟨P, cx, hz⟩ := op_measures X hR hc (xI_bd xs (i + 1)) (xI_bd xs (i + 2)) (xI_bd xs (i + 3))
  refine gl_aload_n (x := 0) (pc' := 595) h ⟨dL_law_594, rfl⟩ rfl ?_
  refine gl_sldc (pc1 := 596) (pc2 := 597) (pc3 := 598) (pc4 := 599) (pc' := 600) h hX hLn ⟨dL_law_595, rfl⟩ ⟨dL_law_596, rfl⟩ ⟨dL_law_597, rfl⟩ ⟨dL_law_598, rfl⟩ ⟨dL_law_599, rfl⟩ rfl rfl (by omega) ?_
  refine gl_sldc (pc1 := 601) (pc2 := 602) (pc3 := 603) (pc4 := 604) (pc' := 605) h hX hLn ⟨dL_law_600, rfl⟩ ⟨dL_law_601, rfl⟩ ⟨dL_law_602, rfl⟩ ⟨dL_law_603, rfl⟩ ⟨dL_law_604, rfl⟩ rfl rfl (by omega) ?_
  refine gl_sldc (pc1 := 606) (pc2 := 607) (pc3 := 608) (pc4 := 609) (pc' := 610) h hX hLn ⟨dL_law_605, rfl⟩ ⟨dL_law_606, rfl⟩ ⟨dL_law_607, rfl⟩ ⟨dL_law_608, rfl⟩ ⟨dL_law_609, rfl⟩ rfl rfl (by omega) ?_
  refine gl_callVI (pc' := 613) (As := [.int (iI (xI xs (i + 1))), .int (iI (xI xs (i + 2))), .int (iI (xI xs (i + 3)))]) (st := []) h hF ⟨dL_law_610, rfl⟩ kvL_88 cx (by decide) rfl (by decide) ⟨_, _, rfl⟩ rfl (Nat.le_of_ble_eq_true rfl) rfl (fun r S1 hP => ?_)
  obtain ⟨Q, cz, hq⟩ := hz r S1 hP
  refine gl_aload_n (x := 88) (pc' := 614) h ⟨dL_law_613, rfl⟩ rfl ?_
  refine gl_sldc (pc1 := 615) (pc2 := 616) (pc3 := 617) (pc4 := 618) (pc' := 619) h hX hLn ⟨dL_law_614, rfl⟩ ⟨dL_law_615, rfl⟩ ⟨dL_law_616, rfl⟩ ⟨dL_law_617, rfl⟩ ⟨dL_law_618, rfl⟩ rfl rfl (by omega) ?_
  refine gl_sldc (pc1 := 620) (pc2 := 621) (pc3 := 622) (pc4 := 623) (pc' := 624) h hX hLn ⟨dL_law_619, rfl⟩ ⟨dL_law_620, rfl⟩ ⟨dL_law_621, rfl⟩ ⟨dL_law_622, rfl⟩ ⟨dL_law_623, rfl⟩ rfl rfl (by omega) ?_
  refine gl_sldc (pc1 := 625) (pc2 := 626) (pc3 := 627) (pc4 := 628) (pc' := 629) h hX hLn ⟨dL_law_624, rfl⟩ ⟨dL_law_625, rfl⟩ ⟨dL_law_626, rfl⟩ ⟨dL_law_627, rfl⟩ ⟨dL_law_628, rfl⟩ rfl rfl (by omega) ?_
  refine gl_callVI (pc' := 632) (As := [.int (iI (xI xs (i + 1))), .int (iI (xI xs (i + 2))), .int (iI (xI xs (i + 3)))]) (st := [.int (iI r)]) h hF ⟨dL_law_629, rfl⟩ kvL_92 cz (by decide) rfl (by decide) ⟨_, _, rfl⟩ rfl (Nat.le_of_ble_eq_true rfl) rfl (fun r' S2 hQ => ?_)
  obtain ⟨rfl, hR2⟩ := hq r' S2 hQ
  exact gl_icmp_eq (tgt := 855) (pc' := 635) h dL_law_632 rfl rfl (fun _ => kk S2 hR2) (fun z => absurd rfl z)
theorem law_agree (h : Fok F code 4 R_law (some .boolean)) (hF : FF F X 16 cs sl) (hX : SX F sc Ln xs) (hLn : Ln ≤ 2048) (hi : 0 ≤ i ∧ i + 4 ≤ (Ln : Int)) (hR : RI c S) (hc : c + 1 ≤ 5000) (kk : ∀ S2, RI (c + 1) S2 → GL F 4 (mk S2) cs sl 855 (Lw F sc i) []) : GL F 4 (mk S) cs sl 637 (Lw F sc i) [] := by
  obtain ⟨P, cx, hz⟩ := op_agree X hR hc (xI_bd xs (i + 1))
  refine gl_aload_n (x := 0) (pc' := 638) h ⟨dL_law_637, rfl⟩ rfl ?_
  refine gl_sldc (pc1 := 639) (pc2 := 640) (pc3 := 641) (pc4 := 642) (pc' := 643) h hX hLn ⟨dL_law_638, rfl⟩ ⟨dL_law_639, rfl⟩ ⟨dL_law_640, rfl⟩ ⟨dL_law_641, rfl⟩ ⟨dL_law_642, rfl⟩ rfl rfl (by omega) ?_
  refine gl_callVI (pc' := 646) (As := [.int (iI (xI xs (i + 1)))]) (st := []) h hF ⟨dL_law_643, rfl⟩ kvL_93 cx (by decide) rfl (by decide) ⟨_, _, rfl⟩ rfl (Nat.le_of_ble_eq_true rfl) rfl (fun r S1 hP => ?_)
  obtain ⟨Q, cz, hq⟩ := hz r S1 hP
  refine gl_aload_n (x := 88) (pc' := 647) h ⟨dL_law_646, rfl⟩ rfl ?_
  refine gl_sldc (pc1 := 648) (pc2 := 649) (pc3 := 650) (pc4 := 651) (pc' := 652) h hX hLn ⟨dL_law_647, rfl⟩ ⟨dL_law_648, rfl⟩ ⟨dL_law_649, rfl⟩ ⟨dL_law_650, rfl⟩ ⟨dL_law_651, rfl⟩ rfl rfl (by omega) ?_
  refine gl_callVI (pc' := 655) (As := [.int (iI (xI xs (i + 1)))]) (st := [.int (iI r)]) h hF ⟨dL_law_652, rfl⟩ kvL_96 cz (by decide) rfl (by decide) ⟨_, _, rfl⟩ rfl (Nat.le_of_ble_eq_true rfl) rfl (fun r' S2 hQ => ?_)
  obtain ⟨rfl, hR2⟩ := hq r' S2 hQ
  exact gl_icmp_eq (tgt := 855) (pc' := 658) h dL_law_655 rfl rfl (fun _ => kk S2 hR2) (fun z => absurd rfl z)
theorem law_forget (h : Fok F code 4 R_law (some .boolean)) (hF : FF F X 16 cs sl) (hX : SX F sc Ln xs) (hLn : Ln ≤ 2048) (hi : 0 ≤ i ∧ i + 4 ≤ (Ln : Int)) (hR : RI c S) (hc : c + 1 ≤ 5000) (kk : ∀ S2, RI (c + 1) S2 → GL F 4 (mk S2) cs sl 855 (Lw F sc i) []) : GL F 4 (mk S) cs sl 660 (Lw F sc i) [] := by
  obtain ⟨P, cx, hz⟩ := op_forget X hR hc
  refine gl_aload_n (x := 0) (pc' := 661) h ⟨dL_law_660, rfl⟩ rfl ?_
  refine gl_callVI (pc' := 664) (As := []) (st := []) h hF ⟨dL_law_661, rfl⟩ kvL_97 cx (by decide) rfl (by decide) ⟨_, _, rfl⟩ rfl (Nat.le_of_ble_eq_true rfl) rfl (fun r S1 hP => ?_)
  obtain ⟨Q, cz, hq⟩ := hz r S1 hP
  refine gl_aload_n (x := 88) (pc' := 665) h ⟨dL_law_664, rfl⟩ rfl ?_
  refine gl_callVI (pc' := 668) (As := []) (st := [.int (iI r)]) h hF ⟨dL_law_665, rfl⟩ kvL_100 cz (by decide) rfl (by decide) ⟨_, _, rfl⟩ rfl (Nat.le_of_ble_eq_true rfl) rfl (fun r' S2 hQ => ?_)
  obtain ⟨rfl, hR2⟩ := hq r' S2 hQ
  exact gl_icmp_eq (tgt := 855) (pc' := 671) h dL_law_668 rfl rfl (fun _ => kk S2 hR2) (fun z => absurd rfl z)
theorem law_whose (h : Fok F code 4 R_law (some .boolean)) (hF : FF F X 16 cs sl) (hX : SX F sc Ln xs) (hLn : Ln ≤ 2048) (hi : 0 ≤ i ∧ i + 4 ≤ (Ln : Int)) (hR : RI c S) (hc : c + 1 ≤ 5000) (kk : ∀ S2, RI (c + 1) S2 → GL F 4 (mk S2) cs sl 855 (Lw F sc i) []) : GL F 4 (mk S) cs sl 673 (Lw F sc i) [] := by
  obtain ⟨P, cx, hz⟩ := op_whose X hR hc (xI_bd xs (i + 1))
  refine gl_aload_n (x := 0) (pc' := 674) h ⟨dL_law_673, rfl⟩ rfl ?_
  refine gl_sldc (pc1 := 675) (pc2 := 676) (pc3 := 677) (pc4 := 678) (pc' := 679) h hX hLn ⟨dL_law_674, rfl⟩ ⟨dL_law_675, rfl⟩ ⟨dL_law_676, rfl⟩ ⟨dL_law_677, rfl⟩ ⟨dL_law_678, rfl⟩ rfl rfl (by omega) ?_
  refine gl_callVI (pc' := 682) (As := [.int (iI (xI xs (i + 1)))]) (st := []) h hF ⟨dL_law_679, rfl⟩ kvL_101 cx (by decide) rfl (by decide) ⟨_, _, rfl⟩ rfl (Nat.le_of_ble_eq_true rfl) rfl (fun r S1 hP => ?_)
  obtain ⟨Q, cz, hq⟩ := hz r S1 hP
  refine gl_aload_n (x := 88) (pc' := 683) h ⟨dL_law_682, rfl⟩ rfl ?_
  refine gl_sldc (pc1 := 684) (pc2 := 685) (pc3 := 686) (pc4 := 687) (pc' := 688) h hX hLn ⟨dL_law_683, rfl⟩ ⟨dL_law_684, rfl⟩ ⟨dL_law_685, rfl⟩ ⟨dL_law_686, rfl⟩ ⟨dL_law_687, rfl⟩ rfl rfl (by omega) ?_
  refine gl_callVI (pc' := 691) (As := [.int (iI (xI xs (i + 1)))]) (st := [.int (iI r)]) h hF ⟨dL_law_688, rfl⟩ kvL_104 cz (by decide) rfl (by decide) ⟨_, _, rfl⟩ rfl (Nat.le_of_ble_eq_true rfl) rfl (fun r' S2 hQ => ?_)
  obtain ⟨rfl, hR2⟩ := hq r' S2 hQ
  exact gl_icmp_eq (tgt := 855) (pc' := 694) h dL_law_691 rfl rfl (fun _ => kk S2 hR2) (fun z => absurd rfl z)
theorem law_odds (h : Fok F code 4 R_law (some .boolean)) (hF : FF F X 16 cs sl) (hX : SX F sc Ln xs) (hLn : Ln ≤ 2048) (hi : 0 ≤ i ∧ i + 4 ≤ (Ln : Int)) (hR : RI c S) (hc : c + 1 ≤ 5000) (kk : ∀ S2, RI (c + 1) S2 → GL F 4 (mk S2) cs sl 855 (Lw F sc i) []) : GL F 4 (mk S) cs sl 696 (Lw F sc i) [] := by
  obtain ⟨P, cx, hz⟩ := op_odds X hR hc (xI_bd xs (i + 1)) (xI_bd xs (i + 2)) (xI_bd xs (i + 3))
  refine gl_aload_n (x := 0) (pc' := 697) h ⟨dL_law_696, rfl⟩ rfl ?_
  refine gl_sldc (pc1 := 698) (pc2 := 699) (pc3 := 700) (pc4 := 701) (pc' := 702) h hX hLn ⟨dL_law_697, rfl⟩ ⟨dL_law_698, rfl⟩ ⟨dL_law_699, rfl⟩ ⟨dL_law_700, rfl⟩ ⟨dL_law_701, rfl⟩ rfl rfl (by omega) ?_
  refine gl_sldc (pc1 := 703) (pc2 := 704) (pc3 := 705) (pc4 := 706) (pc' := 707) h hX hLn ⟨dL_law_702, rfl⟩ ⟨dL_law_703, rfl⟩ ⟨dL_law_704, rfl⟩ ⟨dL_law_705, rfl⟩ ⟨dL_law_706, rfl⟩ rfl rfl (by omega) ?_
  refine gl_sldc (pc1 := 708) (pc2 := 709) (pc3 := 710) (pc4 := 711) (pc' := 712) h hX hLn ⟨dL_law_707, rfl⟩ ⟨dL_law_708, rfl⟩ ⟨dL_law_709, rfl⟩ ⟨dL_law_710, rfl⟩ ⟨dL_law_711, rfl⟩ rfl rfl (by omega) ?_
  refine gl_callVI (pc' := 715) (As := [.int (iI (xI xs (i + 1))), .int (iI (xI xs (i + 2))), .int (iI (xI xs (i + 3)))]) (st := []) h hF ⟨dL_law_712, rfl⟩ kvL_105 cx (by decide) rfl (by decide) ⟨_, _, rfl⟩ rfl (Nat.le_of_ble_eq_true rfl) rfl (fun r S1 hP => ?_)
  obtain ⟨Q, cz, hq⟩ := hz r S1 hP
  refine gl_aload_n (x := 88) (pc' := 716) h ⟨dL_law_715, rfl⟩ rfl ?_
  refine gl_sldc (pc1 := 717) (pc2 := 718) (pc3 := 719) (pc4 := 720) (pc' := 721) h hX hLn ⟨dL_law_716, rfl⟩ ⟨dL_law_717, rfl⟩ ⟨dL_law_718, rfl⟩ ⟨dL_law_719, rfl⟩ ⟨dL_law_720, rfl⟩ rfl rfl (by omega) ?_
  refine gl_sldc (pc1 := 722) (pc2 := 723) (pc3 := 724) (pc4 := 725) (pc' := 726) h hX hLn ⟨dL_law_721, rfl⟩ ⟨dL_law_722, rfl⟩ ⟨dL_law_723, rfl⟩ ⟨dL_law_724, rfl⟩ ⟨dL_law_725, rfl⟩ rfl rfl (by omega) ?_
  refine gl_sldc (pc1 := 727) (pc2 := 728) (pc3 := 729) (pc4 := 730) (pc' := 731) h hX hLn ⟨dL_law_726, rfl⟩ ⟨dL_law_727, rfl⟩ ⟨dL_law_728, rfl⟩ ⟨dL_law_729, rfl⟩ ⟨dL_law_730, rfl⟩ rfl rfl (by omega) ?_
  refine gl_callVI (pc' := 734) (As := [.int (iI (xI xs (i + 1))), .int (iI (xI xs (i + 2))), .int (iI (xI xs (i + 3)))]) (st := [.int (iI r)]) h hF ⟨dL_law_731, rfl⟩ kvL_108 cz (by decide) rfl (by decide) ⟨_, _, rfl⟩ rfl (Nat.le_of_ble_eq_true rfl) rfl (fun r' S2 hQ => ?_)
  obtain ⟨rfl, hR2⟩ := hq r' S2 hQ
  exact gl_icmp_eq (tgt := 855) (pc' := 737) h dL_law_734 rfl rfl (fun _ => kk S2 hR2) (fun z => absurd rfl z)
theorem law_rate (h : Fok F code 4 R_law (some .boolean)) (hF : FF F X 16 cs sl) (hX : SX F sc Ln xs) (hLn : Ln ≤ 2048) (hi : 0 ≤ i ∧ i + 4 ≤ (Ln : Int)) (hR : RI c S) (hc : c + 1 ≤ 5000) (kk : ∀ S2, RI (c + 1) S2 → GL F 4 (mk S2) cs sl 855 (Lw F sc i) []) : GL F 4 (mk S) cs sl 739 (Lw F sc i) [] := by
  obtain ⟨P, cx, hz⟩ := op_rate X hR hc (xI_bd xs (i + 1)) (xI_bd xs (i + 2))
  refine gl_aload_n (x := 0) (pc' := 740) h ⟨dL_law_739, rfl⟩ rfl ?_
  refine gl_sldc (pc1 := 741) (pc2 := 742) (pc3 := 743) (pc4 := 744) (pc' := 745) h hX hLn ⟨dL_law_740, rfl⟩ ⟨dL_law_741, rfl⟩ ⟨dL_law_742, rfl⟩ ⟨dL_law_743, rfl⟩ ⟨dL_law_744, rfl⟩ rfl rfl (by omega) ?_
  refine gl_sldc (pc1 := 746) (pc2 := 747) (pc3 := 748) (pc4 := 749) (pc' := 750) h hX hLn ⟨dL_law_745, rfl⟩ ⟨dL_law_746, rfl⟩ ⟨dL_law_747, rfl⟩ ⟨dL_law_748, rfl⟩ ⟨dL_law_749, rfl⟩ rfl rfl (by omega) ?_
  refine gl_callVI (pc' := 753) (As := [.int (iI (xI xs (i + 1))), .int (iI (xI xs (i + 2)))]) (st := []) h hF ⟨dL_law_750, rfl⟩ kvL_109 cx (by decide) rfl (by decide) ⟨_, _, rfl⟩ rfl (Nat.le_of_ble_eq_true rfl) rfl (fun r S1 hP => ?_)
  obtain ⟨Q, cz, hq⟩ := hz r S1 hP
  refine gl_aload_n (x := 88) (pc' := 754) h ⟨dL_law_753, rfl⟩ rfl ?_
  refine gl_sldc (pc1 := 755) (pc2 := 756) (pc3 := 757) (pc4 := 758) (pc' := 759) h hX hLn ⟨dL_law_754, rfl⟩ ⟨dL_law_755, rfl⟩ ⟨dL_law_756, rfl⟩ ⟨dL_law_757, rfl⟩ ⟨dL_law_758, rfl⟩ rfl rfl (by omega) ?_
  refine gl_sldc (pc1 := 760) (pc2 := 761) (pc3 := 762) (pc4 := 763) (pc' := 764) h hX hLn ⟨dL_law_759, rfl⟩ ⟨dL_law_760, rfl⟩ ⟨dL_law_761, rfl⟩ ⟨dL_law_762, rfl⟩ ⟨dL_law_763, rfl⟩ rfl rfl (by omega) ?_
  refine gl_callVI (pc' := 767) (As := [.int (iI (xI xs (i + 1))), .int (iI (xI xs (i + 2)))]) (st := [.int (iI r)]) h hF ⟨dL_law_764, rfl⟩ kvL_112 cz (by decide) rfl (by decide) ⟨_, _, rfl⟩ rfl (Nat.le_of_ble_eq_true rfl) rfl (fun r' S2 hQ => ?_)
  obtain ⟨rfl, hR2⟩ := hq r' S2 hQ
  exact gl_icmp_eq (tgt := 855) (pc' := 770) h dL_law_767 rfl rfl (fun _ => kk S2 hR2) (fun z => absurd rfl z)
theorem law_keep (h : Fok F code 4 R_law (some .boolean)) (hF : FF F X 16 cs sl) (hX : SX F sc Ln xs) (hLn : Ln ≤ 2048) (hi : 0 ≤ i ∧ i + 4 ≤ (Ln : Int)) (hR : RI c S) (hc : c + 1 ≤ 5000) (kk : ∀ S2, RI (c + 1) S2 → GL F 4 (mk S2) cs sl 855 (Lw F sc i) []) : GL F 4 (mk S) cs sl 772 (Lw F sc i) [] := by
  obtain ⟨P, cx, hz⟩ := op_keep X hR hc (xI_bd xs (i + 1))
  refine gl_aload_n (x := 0) (pc' := 773) h ⟨dL_law_772, rfl⟩ rfl ?_
  refine gl_sldc (pc1 := 774) (pc2 := 775) (pc3 := 776) (pc4 := 777) (pc' := 778) h hX hLn ⟨dL_law_773, rfl⟩ ⟨dL_law_774, rfl⟩ ⟨dL_law_775, rfl⟩ ⟨dL_law_776, rfl⟩ ⟨dL_law_777, rfl⟩ rfl rfl (by omega) ?_
  refine gl_callVI (pc' := 781) (As := [.int (iI (xI xs (i + 1)))]) (st := []) h hF ⟨dL_law_778, rfl⟩ kvL_113 cx (by decide) rfl (by decide) ⟨_, _, rfl⟩ rfl (Nat.le_of_ble_eq_true rfl) rfl (fun r S1 hP => ?_)
  obtain ⟨Q, cz, hq⟩ := hz r S1 hP
  refine gl_aload_n (x := 88) (pc' := 782) h ⟨dL_law_781, rfl⟩ rfl ?_
  refine gl_sldc (pc1 := 783) (pc2 := 784) (pc3 := 785) (pc4 := 786) (pc' := 787) h hX hLn ⟨dL_law_782, rfl⟩ ⟨dL_law_783, rfl⟩ ⟨dL_law_784, rfl⟩ ⟨dL_law_785, rfl⟩ ⟨dL_law_786, rfl⟩ rfl rfl (by omega) ?_
  refine gl_callVI (pc' := 790) (As := [.int (iI (xI xs (i + 1)))]) (st := [.int (iI r)]) h hF ⟨dL_law_787, rfl⟩ kvL_116 cz (by decide) rfl (by decide) ⟨_, _, rfl⟩ rfl (Nat.le_of_ble_eq_true rfl) rfl (fun r' S2 hQ => ?_)
  obtain ⟨rfl, hR2⟩ := hq r' S2 hQ
  exact gl_icmp_eq (tgt := 855) (pc' := 793) h dL_law_790 rfl rfl (fun _ => kk S2 hR2) (fun z => absurd rfl z)
theorem law_back (h : Fok F code 4 R_law (some .boolean)) (hF : FF F X 16 cs sl) (hX : SX F sc Ln xs) (hLn : Ln ≤ 2048) (hi : 0 ≤ i ∧ i + 4 ≤ (Ln : Int)) (hR : RI c S) (hc : c + 1 ≤ 5000) (kk : ∀ S2, RI (c + 1) S2 → GL F 4 (mk S2) cs sl 855 (Lw F sc i) []) : GL F 4 (mk S) cs sl 795 (Lw F sc i) [] := by
  obtain ⟨P, cx, hz⟩ := op_back X hR hc (xI_bd xs (i + 1))
  refine gl_aload_n (x := 0) (pc' := 796) h ⟨dL_law_795, rfl⟩ rfl ?_
  refine gl_sldc (pc1 := 797) (pc2 := 798) (pc3 := 799) (pc4 := 800) (pc' := 801) h hX hLn ⟨dL_law_796, rfl⟩ ⟨dL_law_797, rfl⟩ ⟨dL_law_798, rfl⟩ ⟨dL_law_799, rfl⟩ ⟨dL_law_800, rfl⟩ rfl rfl (by omega) ?_
  refine gl_callVI (pc' := 804) (As := [.int (iI (xI xs (i + 1)))]) (st := []) h hF ⟨dL_law_801, rfl⟩ kvL_117 cx (by decide) rfl (by decide) ⟨_, _, rfl⟩ rfl (Nat.le_of_ble_eq_true rfl) rfl (fun r S1 hP => ?_)
  obtain ⟨Q, cz, hq⟩ := hz r S1 hP
  refine gl_aload_n (x := 88) (pc' := 805) h ⟨dL_law_804, rfl⟩ rfl ?_
  refine gl_sldc (pc1 := 806) (pc2 := 807) (pc3 := 808) (pc4 := 809) (pc' := 810) h hX hLn ⟨dL_law_805, rfl⟩ ⟨dL_law_806, rfl⟩ ⟨dL_law_807, rfl⟩ ⟨dL_law_808, rfl⟩ ⟨dL_law_809, rfl⟩ rfl rfl (by omega) ?_
  refine gl_callVI (pc' := 813) (As := [.int (iI (xI xs (i + 1)))]) (st := [.int (iI r)]) h hF ⟨dL_law_810, rfl⟩ kvL_120 cz (by decide) rfl (by decide) ⟨_, _, rfl⟩ rfl (Nat.le_of_ble_eq_true rfl) rfl (fun r' S2 hQ => ?_)
  obtain ⟨rfl, hR2⟩ := hq r' S2 hQ
  exact gl_icmp_eq (tgt := 855) (pc' := 816) h dL_law_813 rfl rfl (fun _ => kk S2 hR2) (fun z => absurd rfl z)
theorem law_count (h : Fok F code 4 R_law (some .boolean)) (hF : FF F X 16 cs sl) (hX : SX F sc Ln xs) (hLn : Ln ≤ 2048) (hi : 0 ≤ i ∧ i + 4 ≤ (Ln : Int)) (hR : RI c S) (hc : c + 1 ≤ 5000) (kk : ∀ S2, RI (c + 1) S2 → GL F 4 (mk S2) cs sl 855 (Lw F sc i) []) : GL F 4 (mk S) cs sl 818 (Lw F sc i) [] := by
  obtain ⟨P, cx, hz⟩ := op_count X hR hc (xI_bd xs (i + 1))
  refine gl_aload_n (x := 0) (pc' := 819) h ⟨dL_law_818, rfl⟩ rfl ?_
  refine gl_sldc (pc1 := 820) (pc2 := 821) (pc3 := 822) (pc4 := 823) (pc' := 824) h hX hLn ⟨dL_law_819, rfl⟩ ⟨dL_law_820, rfl⟩ ⟨dL_law_821, rfl⟩ ⟨dL_law_822, rfl⟩ ⟨dL_law_823, rfl⟩ rfl rfl (by omega) ?_
  refine gl_callVI (pc' := 827) (As := [.int (iI (xI xs (i + 1)))]) (st := []) h hF ⟨dL_law_824, rfl⟩ kvL_121 cx (by decide) rfl (by decide) ⟨_, _, rfl⟩ rfl (Nat.le_of_ble_eq_true rfl) rfl (fun r S1 hP => ?_)
  obtain ⟨Q, cz, hq⟩ := hz r S1 hP
  refine gl_aload_n (x := 88) (pc' := 828) h ⟨dL_law_827, rfl⟩ rfl ?_
  refine gl_sldc (pc1 := 829) (pc2 := 830) (pc3 := 831) (pc4 := 832) (pc' := 833) h hX hLn ⟨dL_law_828, rfl⟩ ⟨dL_law_829, rfl⟩ ⟨dL_law_830, rfl⟩ ⟨dL_law_831, rfl⟩ ⟨dL_law_832, rfl⟩ rfl rfl (by omega) ?_
  refine gl_callVI (pc' := 836) (As := [.int (iI (xI xs (i + 1)))]) (st := [.int (iI r)]) h hF ⟨dL_law_833, rfl⟩ kvL_124 cz (by decide) rfl (by decide) ⟨_, _, rfl⟩ rfl (Nat.le_of_ble_eq_true rfl) rfl (fun r' S2 hQ => ?_)
  obtain ⟨rfl, hR2⟩ := hq r' S2 hQ
  exact gl_icmp_eq (tgt := 855) (pc' := 839) h dL_law_836 rfl rfl (fun _ => kk S2 hR2) (fun z => absurd rfl z)
theorem law_trace (h : Fok F code 4 R_law (some .boolean)) (hF : FF F X 16 cs sl) (hX : SX F sc Ln xs) (hLn : Ln ≤ 2048) (hi : 0 ≤ i ∧ i + 4 ≤ (Ln : Int)) (hR : RI c S) (hc : c + 1 ≤ 5000) (kk : ∀ S2, RI (c + 1) S2 → GL F 4 (mk S2) cs sl 855 (Lw F sc i) []) : GL F 4 (mk S) cs sl 841 (Lw F sc i) [] := by
  obtain ⟨p, q, h0⟩ := hR
  have hz := h0.zi
  have ht : S.2.1 88 = S.2.1 0 := h0.2.2.2.2.2.2.2.2.2.2.1
  refine gl_aload_n (x := 0) (pc' := 842) h ⟨dL_law_841, rfl⟩ rfl ?_
  refine gl_callVL (pc' := 845) (As := []) (st := []) h hF ⟨dL_law_842, rfl⟩ kvL_125 (cX_trace X) (by decide) rfl (by decide) ⟨_, _, rfl⟩ rfl (Nat.le_of_ble_eq_true rfl) rfl (fun r S1 hP => ?_)
  obtain ⟨rfl, rfl⟩ := hP
  refine gl_aload_n (x := 88) (pc' := 846) h ⟨dL_law_845, rfl⟩ rfl ?_
  refine gl_callVL (pc' := 849) (As := []) (st := [.long (S1.2.1 0)]) h hF ⟨dL_law_846, rfl⟩ kvL_129 (cZ_trace X hz) (by decide) rfl (by decide) ⟨_, _, rfl⟩ rfl (Nat.le_of_ble_eq_true rfl) rfl (fun r' S2 hQ => ?_)
  obtain ⟨rfl, rfl⟩ := hQ
  refine gl_lcmp (pc' := 850) h ⟨dL_law_849, rfl⟩ ?_
  rw [ht]
  exact gl_if_eq (tgt := 855) (pc' := 853) h dL_law_850 rfl rfl (fun _ => kk _ ⟨p, q, h0.next hc⟩) (fun z => absurd (cmp_rf _) z)
theorem law_loop (h : Fok F code 4 R_law (some .boolean)) (hF : FF F X 16 cs sl) (hX : SX F sc Ln xs) (hLn : Ln ≤ 2048) (hE : ∀ (M : Mem) (L : List Value), GL F 4 M cs sl 862 L [.int 1]) : ∀ (n : Nat) (c : Int) (S : Sg), 512 < c + n → 0 ≤ c → c ≤ 512 → RI c S → GL F 4 (mk S) cs sl 18 (Lw F sc (4 * c)) []
  | 0, c, S, h1, h2, h3, hR => by omega
  | n + 1, c, S, h1, h2, h3, hR => by
    refine gl_iload_n (x := iI (4 * c)) (pc' := 19) h ⟨dL_law_18, rfl⟩ rfl ?_
    refine gl_slen (pc1 := 20) (pc' := 21) h hX ⟨dL_law_19, rfl⟩ ⟨dL_law_20, rfl⟩ rfl ?_
    refine gm_iconst (pc' := 22) h ⟨dL_law_21, rfl⟩ ?_
    refine gm_isub (pc' := 23) h ⟨dL_law_22, rfl⟩ ?_
    refine gm_icmp_gt (tgt := 861) (pc' := 26) h dL_law_23 rfl rfl (by omega) (fun c23 => ?_) (fun c23 => ?_)
    · refine gl_iconst (v := 1) (pc' := 862) h ⟨dL_law_861, rfl⟩ (by decide) ?_
      exact hE _ _
    have hi : 0 ≤ 4 * c ∧ 4 * c + 4 ≤ (Ln : Int) := by omega
    have kk : ∀ S2, RI (c + 1) S2 → GL F 4 (mk S2) cs sl 855 (Lw F sc (4 * c)) [] := fun S2 hR2 => by
      refine gm_iinc (L' := Lw F sc (4 * (c + 1))) (pc' := 858) h ⟨dL_law_855, rfl⟩ rfl (by decide) rfl (by show [_, _, _, _] = [_, _, _, _]; rw [show 4 * c + 4 = 4 * (c + 1) by omega]) ?_
      refine gm_goto (tgt := 18) h dL_law_858 rfl ?_
      exact law_loop h hF hX hLn hE n (c + 1) S2 (by omega) (by omega) (by omega) hR2
    have hc : c + 1 ≤ 5000 := by omega
    refine gl_sld0 (pc1 := 27) (pc2 := 28) (pc' := 29) h hX hLn ⟨dL_law_26, rfl⟩ ⟨dL_law_27, rfl⟩ ⟨dL_law_28, rfl⟩ rfl rfl (by omega) ?_
    refine gm_bipush (pc' := 31) h ⟨dL_law_29, rfl⟩ rfl ?_
    obtain ⟨r, hr, er⟩ := and31 (xI xs (4 * c))
    refine gm_iand (c := r) (pc' := 32) h ⟨dL_law_31, rfl⟩ er ?_
    rcases (show 27 < r ∨ r = 0 ∨ r = 1 ∨ r = 2 ∨ r = 3 ∨ r = 4 ∨ r = 5 ∨ r = 6 ∨ r = 7 ∨ r = 8 ∨ r = 9 ∨ r = 10 ∨ r = 11 ∨ r = 12 ∨ r = 13 ∨ r = 14 ∨ r = 15 ∨ r = 16 ∨ r = 17 ∨ r = 18 ∨ r = 19 ∨ r = 20 ∨ r = 21 ∨ r = 22 ∨ r = 23 ∨ r = 24 ∨ r = 25 ∨ r = 26 ∨ r = 27 by omega) with k | rfl | rfl | rfl | rfl | rfl | rfl | rfl | rfl | rfl | rfl | rfl | rfl | rfl | rfl | rfl | rfl | rfl | rfl | rfl | rfl | rfl | rfl | rfl | rfl | rfl | rfl | rfl | rfl
    · refine gm_tabOut (tgt := 855) h dL_law_32 (by omega) (Or.inr k) rfl ?_
      obtain ⟨p, q, h0⟩ := hR
      exact kk S ⟨p, q, h0.next hc⟩
    · exact gm_tabIn (tgt := 160) (a := 0) h dL_law_32 (by decide) (by decide) rfl rfl (law_type h hF hX hLn hi hR hc kk)
    · exact gm_tabIn (tgt := 183) (a := 1) h dL_law_32 (by decide) (by decide) rfl rfl (law_clear h hF hX hLn hi hR hc kk)
    · exact gm_tabIn (tgt := 196) (a := 2) h dL_law_32 (by decide) (by decide) rfl rfl (law_ladder h hF hX hLn hi hR hc kk)
    · exact gm_tabIn (tgt := 209) (a := 3) h dL_law_32 (by decide) (by decide) rfl rfl (law_stretch h hF hX hLn hi hR hc kk)
    · exact gm_tabIn (tgt := 242) (a := 4) h dL_law_32 (by decide) (by decide) rfl rfl (law_traveller h hF hX hLn hi hR hc kk)
    · exact gm_tabIn (tgt := 275) (a := 5) h dL_law_32 (by decide) (by decide) rfl rfl (law_wear h hF hX hLn hi hR hc kk)
    · exact gm_tabIn (tgt := 308) (a := 6) h dL_law_32 (by decide) (by decide) rfl rfl (law_thing h hF hX hLn hi hR hc kk)
    · exact gm_tabIn (tgt := 331) (a := 7) h dL_law_32 (by decide) (by decide) rfl rfl (law_now h hF hX hLn hi hR hc kk)
    · exact gm_tabIn (tgt := 354) (a := 8) h dL_law_32 (by decide) (by decide) rfl rfl (law_goes h hF hX hLn hi hR hc kk)
    · exact gm_tabIn (tgt := 387) (a := 9) h dL_law_32 (by decide) (by decide) rfl rfl (law_stays h hF hX hLn hi hR hc kk)
    · exact gm_tabIn (tgt := 410) (a := 10) h dL_law_32 (by decide) (by decide) rfl rfl (law_loses h hF hX hLn hi hR hc kk)
    · exact gm_tabIn (tgt := 433) (a := 11) h dL_law_32 (by decide) (by decide) rfl rfl (law_picks h hF hX hLn hi hR hc kk)
    · exact gm_tabIn (tgt := 456) (a := 12) h dL_law_32 (by decide) (by decide) rfl rfl (law_undo h hF hX hLn hi hR hc kk)
    · exact gm_tabIn (tgt := 469) (a := 13) h dL_law_32 (by decide) (by decide) rfl rfl (law_altitude h hF hX hLn hi hR hc kk)
    · exact gm_tabIn (tgt := 492) (a := 14) h dL_law_32 (by decide) (by decide) rfl rfl (law_step h hF hX hLn hi hR hc kk)
    · exact gm_tabIn (tgt := 515) (a := 15) h dL_law_32 (by decide) (by decide) rfl rfl (law_hands h hF hX hLn hi hR hc kk)
    · exact gm_tabIn (tgt := 538) (a := 16) h dL_law_32 (by decide) (by decide) rfl rfl (law_sees h hF hX hLn hi hR hc kk)
    · exact gm_tabIn (tgt := 571) (a := 17) h dL_law_32 (by decide) (by decide) rfl rfl (law_can h hF hX hLn hi hR hc kk)
    · exact gm_tabIn (tgt := 594) (a := 18) h dL_law_32 (by decide) (by decide) rfl rfl (law_measures h hF hX hLn hi hR hc kk)
    · exact gm_tabIn (tgt := 637) (a := 19) h dL_law_32 (by decide) (by decide) rfl rfl (law_agree h hF hX hLn hi hR hc kk)
    · exact gm_tabIn (tgt := 660) (a := 20) h dL_law_32 (by decide) (by decide) rfl rfl (law_forget h hF hX hLn hi hR hc kk)
    · exact gm_tabIn (tgt := 673) (a := 21) h dL_law_32 (by decide) (by decide) rfl rfl (law_whose h hF hX hLn hi hR hc kk)
    · exact gm_tabIn (tgt := 696) (a := 22) h dL_law_32 (by decide) (by decide) rfl rfl (law_odds h hF hX hLn hi hR hc kk)
    · exact gm_tabIn (tgt := 739) (a := 23) h dL_law_32 (by decide) (by decide) rfl rfl (law_rate h hF hX hLn hi hR hc kk)
    · exact gm_tabIn (tgt := 772) (a := 24) h dL_law_32 (by decide) (by decide) rfl rfl (law_keep h hF hX hLn hi hR hc kk)
    · exact gm_tabIn (tgt := 795) (a := 25) h dL_law_32 (by decide) (by decide) rfl rfl (law_back h hF hX hLn hi hR hc kk)
    · exact gm_tabIn (tgt := 818) (a := 26) h dL_law_32 (by decide) (by decide) rfl rfl (law_count h hF hX hLn hi hR hc kk)
    · exact gm_tabIn (tgt := 841) (a := 27) h dL_law_32 (by decide) (by decide) rfl rfl (law_trace h hF hX hLn hi hR hc kk)
theorem law_all (h : Fok F code 4 R_law (some .boolean)) (hx : FX F X) (hr : Rge F 16) (hro : Room3 F 106 4251) (hX : SX F sc Ln xs) (hLn : Ln ≤ 2048) (hE : ∀ (M : Mem) (L : List Value), GL F 4 M 106 4251 862 L [.int 1]) : GL F 4 E0 0 0 0 [.ref sc] [] := by
  refine gl_new (n := 11) (a := 0) (pc' := 3) h ⟨dL_law_0, rfl⟩ nwL_7 rfl (hro.le (by omega) (by omega)) rfl ?_
  refine gl_mm (M' := nws E0 [ob 7 [.null, .null, .null, .null, .null, .null, .null, .null, .null, .null, .long 0]]) (st' := [.ref 0]) (nw_E0 _) rfl ?_
  refine gl_dup (pc' := 4) h ⟨dL_law_3, rfl⟩ rfl ?_
  refine gl_callI (mc := 87) (ms := 1245) (k := 0) (pc' := 7) (As := []) (st := [.ref 0]) h ⟨dL_law_4, rfl⟩ kvL_9 hx hr (hro.le (by omega) (by omega)) (cX_init X) (by decide) rfl (Nat.le_of_ble_eq_true rfl) rfl (fun v M' hP => ?_)
  obtain ⟨rfl, rfl⟩ := hP
  refine gl_astore_n (x := 0) (L' := [.ref sc, .ref (baF F + 0)]) (pc' := 8) h ⟨dL_law_7, rfl⟩ (by decide) rfl rfl ?_
  refine gl_new (n := 29) (a := 88) (pc' := 11) h ⟨dL_law_8, rfl⟩ nwL_10 rfl (hro.le (by omega) (by omega)) rfl ?_
  refine gl_mm (M' := nws (nws E0 cX) [ob 8 [.int (iI 0), .long 0, .null, .int (iI 0), .int (iI 0), .int (iI 0), .int (iI 0), .int (iI 0), .int (iI 0), .null, .int (iI 0), .null, .null, .null, .null, .null, .null, .null, .null, .int (iI 0), .null, .null, .int (iI 0), .null, .null, .null, .int (iI 0), .null, .null]]) (st' := [.ref 88]) (nws_nw E0 cX _) rfl ?_
  refine gl_dup (pc' := 12) h ⟨dL_law_11, rfl⟩ rfl ?_
  refine gl_callI (mc := 17) (ms := 2966) (k := 88) (pc' := 15) (As := []) (st := [.ref 88]) h ⟨dL_law_12, rfl⟩ kvL_12 hx hr (hro.le (by omega) (by omega)) (cZ_init X) (by decide) rfl (Nat.le_of_ble_eq_true rfl) rfl (fun v M' hP => ?_)
  obtain ⟨rfl, rfl⟩ := hP
  refine gl_astore_n (x := 88) (L' := [.ref sc, .ref (baF F + 0), .ref (baF F + 88)]) (pc' := 16) h ⟨dL_law_15, rfl⟩ (by decide) rfl rfl ?_
  refine gm_iconst (pc' := 17) h ⟨dL_law_16, rfl⟩ ?_
  refine gl_istore_n (x := iI 0) (L' := Lw F sc (4 * 0)) (pc' := 18) h ⟨dL_law_17, rfl⟩ (by decide) rfl rfl ?_
  exact law_loop (cs := 106) (sl := 4251) h ⟨hx, hr, hro⟩ hX hLn hE 513 0 S0 (by omega) (by omega) (by omega) ri_0
end BODY
