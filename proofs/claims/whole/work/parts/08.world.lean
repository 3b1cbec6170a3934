/-! the world of this claim: the survey at 0 .. 87, the reference at 88 .. 105 -/
abbrev Sg : Type := (Nat → Int → Int) × (Nat → Int64) × (Nat × Nat)
def kdL : List Nat := [7, 6, 3, 9, 2, 3, 9, 3, 9, 3, 9, 3, 9, 3, 9, 3, 9, 2, 3, 9, 3, 9, 3, 9, 3, 9, 3, 9, 3, 9, 4, 3, 9, 3, 9, 3, 9, 3, 9, 3, 9, 4, 3, 9, 3, 9, 3, 9, 3, 9, 3, 9, 4, 3, 9, 3, 9, 3, 9, 3, 9, 3, 9, 3, 9, 0, 3, 9, 3, 9, 3, 9, 5, 3, 9, 3, 9, 3, 9, 1, 3, 9, 3, 9, 3, 9, 3, 9, 8, 9, 9, 9, 9, 9, 9, 9, 9, 10, 9, 9, 9, 9, 9, 9, 9, 9]
def lnL : List Nat := [0, 0, 0, 120, 0, 0, 5, 0, 5, 0, 5, 0, 5, 0, 100, 0, 4, 0, 0, 5, 0, 5, 0, 5, 0, 5, 0, 100, 0, 4, 0, 0, 4, 0, 4, 0, 100, 0, 100, 0, 6, 0, 0, 4, 0, 4, 0, 100, 0, 100, 0, 6, 0, 0, 4, 0, 4, 0, 100, 0, 100, 0, 6, 0, 2, 0, 0, 10, 0, 10, 0, 10, 0, 0, 6, 0, 6, 0, 41, 0, 0, 6, 0, 6, 0, 6, 0, 6, 0, 120, 8, 10, 10, 10, 8, 212, 424, 2, 2120, 6, 6, 6, 6, 6, 6, 6]
def kd (k : Nat) : Nat := kdL.getD k 11
def ln (k : Nat) : Nat := lnL.getD k 0
def fl (W : Int → Int) (t : Int64) (P : Nat × Nat) (k c : Nat) : List Value := match c with
  | 0 => [.ref (k + 1), .ref (k + 3), .ref (k + 5)]
  | 1 => [.ref (k + 1), .ref (k + 3), .ref (k + 5), .ref (k + 7)]
  | 2 => [.ref (k + 1), .ref (k + 3), .ref (k + 5), .ref (k + 7), .ref (k + 9), .ref (k + 11), .int (iI (W 6)), .int (iI (W 7))]
  | 3 => [.ref (k + 1), .int (iI (W 1))]
  | 4 => [.ref (k + 1), .ref (k + 3), .ref (k + 5), .ref (k + 7), .ref (k + 9)]
  | 5 => [.ref (k + 1), .ref (k + 3), .ref (k + 5)]
  | 6 => [.ref (k + 1), .int (iI (W 1)), .int (iI (W 2)), .int (iI (W 3)), .int (iI (W 4)), .int (iI (W 5)), .int (iI (W 6))]
  | 7 => [.ref 1, .ref P.1, .ref P.2, .ref 30, .ref 41, .ref 52, .ref 63, .ref 65, .ref 72, .ref 79, .long t]
  | 8 => [.int (iI (W 0)), .long t, .ref 89, .int (iI (W 3)), .int (iI (W 4)), .int (iI (W 5)), .int (iI (W 6)), .int (iI (W 7)), .int (iI (W 8)), .ref 90, .int (iI (W 10)), .ref 91, .ref 92, .ref 93, .ref 94, .ref 95, .ref 96, .ref 97, .ref 98, .int (iI (W 19)), .ref 99, .ref 100, .int (iI (W 22)), .ref 101, .ref 102, .ref 103, .int (iI (W 26)), .ref 104, .ref 105]
  | _ => []
def af (n : Nat) (W : Int → Int) : Nat → Int32 := fun q => if q < n then iI (W (q : Int)) else 0
theorem af_at {n : Nat} (W : Int → Int) {i : Int} (h : 0 ≤ i ∧ i < (n : Int)) : af n W i.toNat = iI (W i) := by
  unfold af
  rw [if_pos (by omega), Int.toNat_of_nonneg h.1]
def mkc (W : Int → Int) (t : Int64) (P : Nat × Nat) (k c : Nat) : Option Ce := if c ≤ 8 then some (ob c (fl W t P k c)) else if c = 9 then some (ar (ln k) (af (ln k) W)) else if c = 10 then some (zr (ln k) (af (ln k) W)) else none
def mk (S : Sg) : Mem := (106, fun k => mkc (S.1 k) (S.2.1 k) S.2.2 k (kd k))
def uF (f : Int → Int) (i x : Int) : Int → Int := fun j => if j = i then x else f j
def uA (V : Nat → Int → Int) (k : Nat) (f : Int → Int) : Nat → Int → Int := fun a => if a = k then f else V a
/-- a number put: the i-th of what k holds becomes x -/
def pt (S : Sg) (k : Nat) (i x : Int) : Sg := (uA S.1 k (uF (S.1 k) i x), S.2)
def ptT (S : Sg) (k : Nat) (x : Int64) : Sg := (S.1, (fun j => if j = k then x else S.2.1 j), S.2.2)
def ptP (S : Sg) (P : Nat × Nat) : Sg := (S.1, S.2.1, P)
theorem uA_eq (V : Nat → Int → Int) (k : Nat) (f : Int → Int) : uA V k f k = f := if_pos rfl
theorem uA_ne (V : Nat → Int → Int) {k a : Nat} (f : Int → Int) (h : a ≠ k) : uA V k f a = V a := if_neg h
theorem uF_eq (f : Int → Int) (i x : Int) : uF f i x i = x := if_pos rfl
theorem uF_ne (f : Int → Int) {i j : Int} (x : Int) (h : j ≠ i) : uF f i x j = f j := if_neg h
def isI (c : Nat) (i : Int) : Bool := (c == 2 && (i == 6 || i == 7)) || (c == 3 && i == 1) || (c == 6 && (i == 1 || i == 2 || i == 3 || i == 4 || i == 5 || i == 6)) || (c == 8 && (i == 0 || i == 3 || i == 4 || i == 5 || i == 6 || i == 7 || i == 8 || i == 10 || i == 19 || i == 22 || i == 26))
theorem fl_set (W : Int → Int) (t : Int64) (P : Nat × Nat) (k c i : Nat) (x : Int) (h : isI c (i : Int) = true) : (fl W t P k c).set i (.int (iI x)) = fl (uF W (i : Int) x) t P k c ∧ i < (fl W t P k c).length := by
  have h2 : (c = 2 ∧ (i = 6 ∨ i = 7)) ∨ (c = 3 ∧ i = 1) ∨ (c = 6 ∧ (i = 1 ∨ i = 2 ∨ i = 3 ∨ i = 4 ∨ i = 5 ∨ i = 6)) ∨ (c = 8 ∧ (i = 0 ∨ i = 3 ∨ i = 4 ∨ i = 5 ∨ i = 6 ∨ i = 7 ∨ i = 8 ∨ i = 10 ∨ i = 19 ∨ i = 22 ∨ i = 26)) := by
    simp only [isI, Bool.or_eq_true, Bool.and_eq_true, beq_iff_eq] at h
    omega
  rcases h2 with ⟨rfl, rfl | rfl⟩ | ⟨rfl, rfl⟩ | ⟨rfl, rfl | rfl | rfl | rfl | rfl | rfl⟩ | ⟨rfl, rfl | rfl | rfl | rfl | rfl | rfl | rfl | rfl | rfl | rfl | rfl⟩ <;> simp [fl, uF]
theorem gt_ob (S : Sg) {k c : Nat} (hk : kd k = c) (h8 : c ≤ 8) : gt (mk S) k = some (ob c (fl (S.1 k) (S.2.1 k) S.2.2 k c)) := by
  subst hk
  simp only [gt, mk, mkc]
  rw [if_pos h8]
theorem gt_ar (S : Sg) {k : Nat} (hk : kd k = 9) : gt (mk S) k = some (ar (ln k) (af (ln k) (S.1 k))) := by
  simp only [gt, mk, mkc, hk]
  rfl
theorem gt_zr (S : Sg) {k : Nat} (hk : kd k = 10) : gt (mk S) k = some (zr (ln k) (af (ln k) (S.1 k))) := by
  simp only [gt, mk, mkc, hk]
  rfl
theorem up_mk {S S' : Sg} {k : Nat} {c : Ce} (h1 : mkc (S'.1 k) (S'.2.1 k) S'.2.2 k (kd k) = some c) (h2 : ∀ j, j ≠ k → mkc (S'.1 j) (S'.2.1 j) S'.2.2 j (kd j) = mkc (S.1 j) (S.2.1 j) S.2.2 j (kd j)) : up (mk S) k c = mk S' := by
  unfold up mk
  congr 1
  funext j
  by_cases hj : j = k
  · subst hj; rw [if_pos rfl]; exact h1.symm
  · rw [if_neg hj]; exact (h2 j hj).symm
theorem up_pt (S : Sg) {k c i : Nat} {x : Int} (hk : kd k = c) (h8 : c ≤ 8) : up (mk S) k (ob c (fl (uF (S.1 k) (i : Int) x) (S.2.1 k) S.2.2 k c)) = mk (pt S k (i : Int) x) := by
  subst hk
  refine up_mk ?_ (fun j hj => ?_)
  · simp only [pt, uA_eq, mkc]; rw [if_pos h8]
  · simp only [pt, uA_ne _ _ hj]
theorem af_up (W : Int → Int) {n : Nat} {i x : Int} (h : 0 ≤ i ∧ i < (n : Int)) : upd (af n W) i.toNat (iI x) = af n (uF W i x) := by
  funext q
  simp only [upd, af, uF]
  by_cases hq : q = i.toNat
  · rw [if_pos hq, if_pos (by omega), if_pos (by omega)]
  · rw [if_neg hq, if_neg (show ¬ (q : Int) = i by omega)]
theorem up_ar (S : Sg) {k : Nat} {i x : Int} (hk : kd k = 9) (h : 0 ≤ i ∧ i < (ln k : Int)) : up (mk S) k (ar (ln k) (upd (af (ln k) (S.1 k)) i.toNat (iI x))) = mk (pt S k i x) := by
  refine up_mk ?_ (fun j hj => ?_)
  · simp only [pt, uA_eq, mkc, hk, af_up _ h]; rfl
  · simp only [pt, uA_ne _ _ hj]
theorem up_zr (S : Sg) {k : Nat} {i x : Int} (hk : kd k = 10) (h : 0 ≤ i ∧ i < (ln k : Int)) : up (mk S) k (zr (ln k) (upd (af (ln k) (S.1 k)) i.toNat (iI x))) = mk (pt S k i x) := by
  refine up_mk ?_ (fun j hj => ?_)
  · simp only [pt, uA_eq, mkc, hk, af_up _ h]; rfl
  · simp only [pt, uA_ne _ _ hj]
theorem kd7 : ∀ j, kd j = 7 → j = 0 := by
  intro j h
  by_cases hj : j < 106
  · have : ∀ j, j < 106 → kd j = 7 → j = 0 := by decide +kernel
    exact this j hj h
  · have : kd j = 11 := by
      unfold kd
      have h2 : kdL.length = 106 := by decide +kernel
      rw [List.getD_eq_getElem?_getD, List.getElem?_eq_none (by omega)]
      rfl
    omega
section GI
variable {F : FT} {cc : ByteArray} {nL : Nat} {own : String} {ret : Option FieldType} {M : Mem} {S : Sg} {cs sl pc pc' : Nat} {L st : List Value}
theorem gi_iconst (h : Fok F cc nL own ret) {n : Int} (hd : Dc cc pc (.iconst n) 1 pc') (k : Go F nL M cs sl pc' L (.int (iI n) :: st)) : Go F nL M cs sl pc L st := go_iconst h hd rfl k
theorem gi_bipush (h : Fok F cc nL own ret) {n : Int} (hd : Dc cc pc (.bipush n) 2 pc') (hv : (Int8.ofInt n).toInt32 = iI n) (k : Go F nL M cs sl pc' L (.int (iI n) :: st)) : Go F nL M cs sl pc L st := go_bipush h hd hv k
theorem gi_sipush (h : Fok F cc nL own ret) {n : Int} (hd : Dc cc pc (.sipush n) 3 pc') (hv : (Int16.ofInt n).toInt32 = iI n) (k : Go F nL M cs sl pc' L (.int (iI n) :: st)) : Go F nL M cs sl pc L st := go_sipush h hd hv k
theorem gi_ldc (h : Fok F cc nL own ret) {i : Nat} (n : Int) (hd : Dc cc pc (.ldc i) 2 pc') (hc : Cond.constant own i (iI n) ∈ lw_ws) (k : Go F nL M cs sl pc' L (.int (iI n) :: st)) : Go F nL M cs sl pc L st := go_ldc h hd hc k
theorem gi_iinc (h : Fok F cc nL own ret) {i : Nat} {n a : Int} {L' : List Value} (hd : Dc cc pc (.iinc i n) 3 pc') (hi : L[i]? = some (.int (iI a))) (hn : i < nL) (hc : c1 L = true) (hL : setL i (.int (iI (a + n))) L = L') (k : Go F nL M cs sl pc' L' st) : Go F nL M cs sl pc L st := go_iinc h hd hi (iI_add a n) hn hc hL k
theorem gi_iadd (h : Fok F cc nL own ret) {a b : Int} (hd : Dc cc pc .iadd 1 pc') (k : Go F nL M cs sl pc' L (.int (iI (a + b)) :: st)) : Go F nL M cs sl pc L (.int (iI b) :: .int (iI a) :: st) := go_iadd h hd (by rw [iI_add]; exact k)
theorem gi_isub (h : Fok F cc nL own ret) {a b : Int} (hd : Dc cc pc .isub 1 pc') (k : Go F nL M cs sl pc' L (.int (iI (a - b)) :: st)) : Go F nL M cs sl pc L (.int (iI b) :: .int (iI a) :: st) := go_isub h hd (by rw [iI_sub]; exact k)
theorem gi_imul (h : Fok F cc nL own ret) {a b : Int} (hd : Dc cc pc .imul 1 pc') (k : Go F nL M cs sl pc' L (.int (iI (a * b)) :: st)) : Go F nL M cs sl pc L (.int (iI b) :: .int (iI a) :: st) := go_imul h hd (by rw [iI_mul]; exact k)
theorem gi_ineg (h : Fok F cc nL own ret) {a : Int} (hd : Dc cc pc .ineg 1 pc') (k : Go F nL M cs sl pc' L (.int (iI (-a)) :: st)) : Go F nL M cs sl pc L (.int (iI a) :: st) := go_ineg h hd (by rw [iI_neg]; exact k)
theorem gi_idiv (h : Fok F cc nL own ret) {a b : Int} (hd : Dc cc pc .idiv 1 pc') (hq : 0 ≤ a ∧ a ≤ 2147483647 ∧ 0 < b ∧ b ≤ 2147483647) (k : Go F nL M cs sl pc' L (.int (iI (a / b)) :: st)) : Go F nL M cs sl pc L (.int (iI b) :: .int (iI a) :: st) := go_idiv h hd (iI_ne0 hq.2.2) (by rw [iI_div hq]; exact k)
theorem gi_irem (h : Fok F cc nL own ret) {a b : Int} (hd : Dc cc pc .irem 1 pc') (hq : 0 ≤ a ∧ a ≤ 2147483647 ∧ 0 < b ∧ b ≤ 2147483647) (k : Go F nL M cs sl pc' L (.int (iI (a % b)) :: st)) : Go F nL M cs sl pc L (.int (iI b) :: .int (iI a) :: st) := go_irem h hd (iI_ne0 hq.2.2) (by rw [iI_div hq, iI_mul, iI_sub, Int.mul_comm, show a - b * (a / b) = a % b from by have := Int.mul_ediv_add_emod a b; omega]; exact k)
theorem gi_iand (h : Fok F cc nL own ret) {a b : Int} (c : Int) (hd : Dc cc pc .iand 1 pc') (hv : iI a &&& iI b = iI c) (k : Go F nL M cs sl pc' L (.int (iI c) :: st)) : Go F nL M cs sl pc L (.int (iI b) :: .int (iI a) :: st) := go_iand h hd (by rw [hv]; exact k)
theorem gi_ior (h : Fok F cc nL own ret) {a b : Int} (c : Int) (hd : Dc cc pc .ior 1 pc') (hv : iI a ||| iI b = iI c) (k : Go F nL M cs sl pc' L (.int (iI c) :: st)) : Go F nL M cs sl pc L (.int (iI b) :: .int (iI a) :: st) := go_ior h hd (by rw [hv]; exact k)
theorem gi_ishl (h : Fok F cc nL own ret) {a b : Int} (c : Int) (hd : Dc cc pc .ishl 1 pc') (hv : iI a <<< (iI b &&& 31) = iI c) (k : Go F nL M cs sl pc' L (.int (iI c) :: st)) : Go F nL M cs sl pc L (.int (iI b) :: .int (iI a) :: st) := go_ishl h hd (by rw [hv]; exact k)
theorem gi_ishr (h : Fok F cc nL own ret) {a b : Int} (c : Int) (hd : Dc cc pc .ishr 1 pc') (hv : iI a >>> (iI b &&& 31) = iI c) (k : Go F nL M cs sl pc' L (.int (iI c) :: st)) : Go F nL M cs sl pc L (.int (iI b) :: .int (iI a) :: st) := go_ishr h hd (by rw [hv]; exact k)
theorem gi_icmp_eq (h : Fok F cc nL own ret) {a b : Int} {off : Int} {tgt : Nat} (hd : decode cc pc = .ok (.if_icmp .eq off, 3)) (ht : (pc : Int) + off = (tgt : Int)) (hp : pc + 3 = pc') (hq : -2147483648 ≤ a ∧ a ≤ 2147483647 ∧ -2147483648 ≤ b ∧ b ≤ 2147483647) (kt : a = b → Go F nL M cs sl tgt L st) (kf : ¬ a = b → Go F nL M cs sl pc' L st) : Go F nL M cs sl pc L (.int (iI b) :: .int (iI a) :: st) := go_icmp_eq h hd ht hp (fun q => kt ((iI_eq hq).mp q)) (fun q => kf (fun z => q ((iI_eq hq).mpr z)))
theorem gi_icmp_ne (h : Fok F cc nL own ret) {a b : Int} {off : Int} {tgt : Nat} (hd : decode cc pc = .ok (.if_icmp .ne off, 3)) (ht : (pc : Int) + off = (tgt : Int)) (hp : pc + 3 = pc') (hq : -2147483648 ≤ a ∧ a ≤ 2147483647 ∧ -2147483648 ≤ b ∧ b ≤ 2147483647) (kt : ¬ a = b → Go F nL M cs sl tgt L st) (kf : a = b → Go F nL M cs sl pc' L st) : Go F nL M cs sl pc L (.int (iI b) :: .int (iI a) :: st) := go_icmp_ne h hd ht hp (fun q => kt (fun z => q ((iI_eq hq).mpr z))) (fun q => kf ((iI_eq hq).mp q))
theorem gi_icmp_lt (h : Fok F cc nL own ret) {a b : Int} {off : Int} {tgt : Nat} (hd : decode cc pc = .ok (.if_icmp .lt off, 3)) (ht : (pc : Int) + off = (tgt : Int)) (hp : pc + 3 = pc') (hq : -2147483648 ≤ a ∧ a ≤ 2147483647 ∧ -2147483648 ≤ b ∧ b ≤ 2147483647) (kt : a < b → Go F nL M cs sl tgt L st) (kf : b ≤ a → Go F nL M cs sl pc' L st) : Go F nL M cs sl pc L (.int (iI b) :: .int (iI a) :: st) := go_icmp_lt h hd ht hp (fun q => kt ((iI_lt hq).mp q)) (fun q => kf (by have := mt (iI_lt hq).mpr q; omega))
theorem gi_icmp_ge (h : Fok F cc nL own ret) {a b : Int} {off : Int} {tgt : Nat} (hd : decode cc pc = .ok (.if_icmp .ge off, 3)) (ht : (pc : Int) + off = (tgt : Int)) (hp : pc + 3 = pc') (hq : -2147483648 ≤ a ∧ a ≤ 2147483647 ∧ -2147483648 ≤ b ∧ b ≤ 2147483647) (kt : b ≤ a → Go F nL M cs sl tgt L st) (kf : a < b → Go F nL M cs sl pc' L st) : Go F nL M cs sl pc L (.int (iI b) :: .int (iI a) :: st) := go_icmp_ge h hd ht hp (fun q => kt ((iI_le (by omega)).mp q)) (fun q => kf (by have := mt (iI_le (a := b) (b := a) (by omega)).mpr q; omega))
theorem gi_icmp_gt (h : Fok F cc nL own ret) {a b : Int} {off : Int} {tgt : Nat} (hd : decode cc pc = .ok (.if_icmp .gt off, 3)) (ht : (pc : Int) + off = (tgt : Int)) (hp : pc + 3 = pc') (hq : -2147483648 ≤ a ∧ a ≤ 2147483647 ∧ -2147483648 ≤ b ∧ b ≤ 2147483647) (kt : b < a → Go F nL M cs sl tgt L st) (kf : a ≤ b → Go F nL M cs sl pc' L st) : Go F nL M cs sl pc L (.int (iI b) :: .int (iI a) :: st) := go_icmp_gt h hd ht hp (fun q => kt ((iI_lt (by omega)).mp q)) (fun q => kf (by have := mt (iI_lt (a := b) (b := a) (by omega)).mpr q; omega))
theorem gi_icmp_le (h : Fok F cc nL own ret) {a b : Int} {off : Int} {tgt : Nat} (hd : decode cc pc = .ok (.if_icmp .le off, 3)) (ht : (pc : Int) + off = (tgt : Int)) (hp : pc + 3 = pc') (hq : -2147483648 ≤ a ∧ a ≤ 2147483647 ∧ -2147483648 ≤ b ∧ b ≤ 2147483647) (kt : a ≤ b → Go F nL M cs sl tgt L st) (kf : b < a → Go F nL M cs sl pc' L st) : Go F nL M cs sl pc L (.int (iI b) :: .int (iI a) :: st) := go_icmp_le h hd ht hp (fun q => kt ((iI_le hq).mp q)) (fun q => kf (by have := mt (iI_le hq).mpr q; omega))
theorem gi_if_eq (h : Fok F cc nL own ret) {a : Int} {off : Int} {tgt : Nat} (hd : decode cc pc = .ok (.ifCond .eq off, 3)) (ht : (pc : Int) + off = (tgt : Int)) (hp : pc + 3 = pc') (hq : -2147483648 ≤ a ∧ a ≤ 2147483647) (kt : a = 0 → Go F nL M cs sl tgt L st) (kf : ¬ a = 0 → Go F nL M cs sl pc' L st) : Go F nL M cs sl pc L (.int (iI a) :: st) := go_if_eq h hd ht hp (fun q => kt ((iI_eq (b := 0) (by omega)).mp q)) (fun q => kf (fun z => q ((iI_eq (b := 0) (by omega)).mpr z)))
theorem gi_if_ne (h : Fok F cc nL own ret) {a : Int} {off : Int} {tgt : Nat} (hd : decode cc pc = .ok (.ifCond .ne off, 3)) (ht : (pc : Int) + off = (tgt : Int)) (hp : pc + 3 = pc') (hq : -2147483648 ≤ a ∧ a ≤ 2147483647) (kt : ¬ a = 0 → Go F nL M cs sl tgt L st) (kf : a = 0 → Go F nL M cs sl pc' L st) : Go F nL M cs sl pc L (.int (iI a) :: st) := go_if_ne h hd ht hp (fun q => kt (fun z => q ((iI_eq (b := 0) (by omega)).mpr z))) (fun q => kf ((iI_eq (b := 0) (by omega)).mp q))
theorem gi_if_lt (h : Fok F cc nL own ret) {a : Int} {off : Int} {tgt : Nat} (hd : decode cc pc = .ok (.ifCond .lt off, 3)) (ht : (pc : Int) + off = (tgt : Int)) (hp : pc + 3 = pc') (hq : -2147483648 ≤ a ∧ a ≤ 2147483647) (kt : a < 0 → Go F nL M cs sl tgt L st) (kf : 0 ≤ a → Go F nL M cs sl pc' L st) : Go F nL M cs sl pc L (.int (iI a) :: st) := go_if_lt h hd ht hp (fun q => kt ((iI_lt (b := 0) (by omega)).mp q)) (fun q => kf (by have := mt (iI_lt (a := a) (b := 0) (by omega)).mpr q; omega))
theorem gi_if_ge (h : Fok F cc nL own ret) {a : Int} {off : Int} {tgt : Nat} (hd : decode cc pc = .ok (.ifCond .ge off, 3)) (ht : (pc : Int) + off = (tgt : Int)) (hp : pc + 3 = pc') (hq : -2147483648 ≤ a ∧ a ≤ 2147483647) (kt : 0 ≤ a → Go F nL M cs sl tgt L st) (kf : a < 0 → Go F nL M cs sl pc' L st) : Go F nL M cs sl pc L (.int (iI a) :: st) := go_if_ge h hd ht hp (fun q => kt ((iI_le (a := 0) (by omega)).mp q)) (fun q => kf (by have := mt (iI_le (a := 0) (b := a) (by omega)).mpr q; omega))
theorem gi_if_gt (h : Fok F cc nL own ret) {a : Int} {off : Int} {tgt : Nat} (hd : decode cc pc = .ok (.ifCond .gt off, 3)) (ht : (pc : Int) + off = (tgt : Int)) (hp : pc + 3 = pc') (hq : -2147483648 ≤ a ∧ a ≤ 2147483647) (kt : 0 < a → Go F nL M cs sl tgt L st) (kf : a ≤ 0 → Go F nL M cs sl pc' L st) : Go F nL M cs sl pc L (.int (iI a) :: st) := go_if_gt h hd ht hp (fun q => kt ((iI_lt (a := 0) (by omega)).mp q)) (fun q => kf (by have := mt (iI_lt (a := 0) (b := a) (by omega)).mpr q; omega))
theorem gi_if_le (h : Fok F cc nL own ret) {a : Int} {off : Int} {tgt : Nat} (hd : decode cc pc = .ok (.ifCond .le off, 3)) (ht : (pc : Int) + off = (tgt : Int)) (hp : pc + 3 = pc') (hq : -2147483648 ≤ a ∧ a ≤ 2147483647) (kt : a ≤ 0 → Go F nL M cs sl tgt L st) (kf : 0 < a → Go F nL M cs sl pc' L st) : Go F nL M cs sl pc L (.int (iI a) :: st) := go_if_le h hd ht hp (fun q => kt ((iI_le (b := 0) (by omega)).mp q)) (fun q => kf (by have := mt (iI_le (a := a) (b := 0) (by omega)).mpr q; omega))
theorem gs_get (h : Fok F cc nL own ret) {idx ci k a : Nat} {v : Value} (hd : Dc cc pc (.getfield idx) 3 pc') (lk : FL own idx ci k) (hk : kd a = ci) (h8 : ci ≤ 8) (hv : (fl (S.1 a) (S.2.1 a) S.2.2 a ci)[k]? = some v) (kk : Go F nL (mk S) cs sl pc' L (v :: st)) : Go F nL (mk S) cs sl pc L (.ref a :: st) := go_get h hd lk (gt_ob S hk h8) hv kk
theorem gs_putI (h : Fok F cc nL own ret) {idx ci k a : Nat} {x : Int} (hd : Dc cc pc (.putfield idx) 3 pc') (lk : FP own idx ci k false .int) (hk : kd a = ci) (h8 : ci ≤ 8) (hi : isI ci (k : Int) = true) (kk : Go F nL (mk (pt S a (k : Int) x)) cs sl pc' L st) : Go F nL (mk S) cs sl pc L (.int (iI x) :: .ref a :: st) := by
  have h1 := fl_set (S.1 a) (S.2.1 a) S.2.2 a ci k x hi
  refine go_put h hd lk (gt_ob S hk h8) (fun b => vp_nar_int _) (fun b => rfl) h1.2 h1.1 ?_
  rw [up_pt S hk h8]
  exact kk
theorem gs_putZ (h : Fok F cc nL own ret) {idx ci k a : Nat} {x : Int} (hd : Dc cc pc (.putfield idx) 3 pc') (lk : FP own idx ci k false .boolean) (hk : kd a = ci) (h8 : ci ≤ 8) (hi : isI ci (k : Int) = true) (hx : x = 0 ∨ x = 1) (kk : Go F nL (mk (pt S a (k : Int) x)) cs sl pc' L st) : Go F nL (mk S) cs sl pc L (.int (iI x) :: .ref a :: st) := by
  have h1 := fl_set (S.1 a) (S.2.1 a) S.2.2 a ci k x hi
  refine go_put h hd lk (gt_ob S hk h8) (fun b => by rcases hx with rfl | rfl <;> rfl) (fun b => by rcases hx with rfl | rfl <;> rfl) h1.2 h1.1 ?_
  rw [up_pt S hk h8]
  exact kk
theorem gs_alen (h : Fok F cc nL own ret) {a : Nat} (hd : Dc cc pc .arraylength 1 pc') (hk : kd a = 9) (kk : Go F nL (mk S) cs sl pc' L (.int (iI (ln a : Int)) :: st)) : Go F nL (mk S) cs sl pc L (.ref a :: st) := go_alen h hd (gt_ar S hk) (iI_nat _) kk
theorem gs_iald (h : Fok F cc nL own ret) {a : Nat} {i : Int} (hd : Dc cc pc .iaload 1 pc') (hk : kd a = 9) (hi : 0 ≤ i ∧ i < (ln a : Int) ∧ (ln a : Int) ≤ 2147483647) (kk : Go F nL (mk S) cs sl pc' L (.int (iI (S.1 a i)) :: st)) : Go F nL (mk S) cs sl pc L (.int (iI i) :: .ref a :: st) := go_iald h hd (gt_ar S hk) (iI_in hi) (by rw [iI_cl hi.1 (by omega)]; exact af_at _ ⟨hi.1, hi.2.1⟩) kk
theorem gs_zald (h : Fok F cc nL own ret) {a : Nat} {i : Int} (hd : Dc cc pc .baload 1 pc') (hk : kd a = 10) (hi : 0 ≤ i ∧ i < (ln a : Int) ∧ (ln a : Int) ≤ 2147483647) (kk : Go F nL (mk S) cs sl pc' L (.int (iI (S.1 a i)) :: st)) : Go F nL (mk S) cs sl pc L (.int (iI i) :: .ref a :: st) := go_zald h hd (gt_zr S hk) (iI_in hi) (by rw [iI_cl hi.1 (by omega)]; exact af_at _ ⟨hi.1, hi.2.1⟩) kk
theorem gs_iast (h : Fok F cc nL own ret) {a : Nat} {i x : Int} (hd : Dc cc pc .iastore 1 pc') (hk : kd a = 9) (hi : 0 ≤ i ∧ i < (ln a : Int) ∧ (ln a : Int) ≤ 2147483647) (kk : Go F nL (mk (pt S a i x)) cs sl pc' L st) : Go F nL (mk S) cs sl pc L (.int (iI x) :: .int (iI i) :: .ref a :: st) := go_iast h hd (gt_ar S hk) (iI_in hi) (by rw [iI_cl hi.1 (by omega), up_ar S hk ⟨hi.1, hi.2.1⟩]; exact kk)
theorem gs_zast (h : Fok F cc nL own ret) {a : Nat} {i x : Int} (hd : Dc cc pc .bastore 1 pc') (hk : kd a = 10) (hi : 0 ≤ i ∧ i < (ln a : Int) ∧ (ln a : Int) ≤ 2147483647) (hx : x = 0 ∨ x = 1) (kk : Go F nL (mk (pt S a i x)) cs sl pc' L st) : Go F nL (mk S) cs sl pc L (.int (iI x) :: .int (iI i) :: .ref a :: st) := go_zast h hd (gt_zr S hk) (iI_in hi) (by rcases hx with rfl | rfl <;> rfl) (by rw [iI_cl hi.1 (by omega), up_zr S hk ⟨hi.1, hi.2.1⟩]; exact kk)
theorem gs_putL7 (h : Fok F cc nL own ret) {idx : Nat} {x : Int64} (hd : Dc cc pc (.putfield idx) 3 pc') (lk : FP own idx 7 10 false .long) (kk : Go F nL (mk (ptT S 0 x)) cs sl pc' L st) : Go F nL (mk S) cs sl pc L (.long x :: .ref 0 :: st) := by
  refine go_put h hd lk (gt_ob S (k := 0) (c := 7) rfl (by decide)) (fun b => rfl) (fun b => rfl) (by simp [fl]) rfl ?_
  rw [up_mk (S := S) (S' := ptT S 0 x) (by rfl) (fun j hj => by simp only [ptT, if_neg hj])]
  exact kk
theorem gs_putL8 (h : Fok F cc nL own ret) {idx : Nat} {x : Int64} (hd : Dc cc pc (.putfield idx) 3 pc') (lk : FP own idx 8 1 false .long) (kk : Go F nL (mk (ptT S 88 x)) cs sl pc' L st) : Go F nL (mk S) cs sl pc L (.long x :: .ref 88 :: st) := by
  refine go_put h hd lk (gt_ob S (k := 88) (c := 8) rfl (by decide)) (fun b => rfl) (fun b => rfl) (by simp [fl]) rfl ?_
  rw [up_mk (S := S) (S' := ptT S 88 x) (by rfl) (fun j hj => by simp only [ptT, if_neg hj])]
  exact kk
theorem mkc_P (W : Int → Int) (t : Int64) (P P' : Nat × Nat) (k : Nat) (h : k ≠ 0) : mkc W t P k (kd k) = mkc W t P' k (kd k) := by
  by_cases h8 : kd k ≤ 8
  · have h7 : kd k ≠ 7 := fun e => h (kd7 k e)
    simp only [mkc]
    rw [if_pos h8, if_pos h8]
    have hh : kd k = 0 ∨ kd k = 1 ∨ kd k = 2 ∨ kd k = 3 ∨ kd k = 4 ∨ kd k = 5 ∨ kd k = 6 ∨ kd k = 8 := by omega
    rcases hh with e | e | e | e | e | e | e | e <;> rw [e] <;> rfl
  · simp only [mkc]
    rw [if_neg h8, if_neg h8]
theorem gs_putP1 (h : Fok F cc nL own ret) {idx x : Nat} (hd : Dc cc pc (.putfield idx) 3 pc') (lk : FP own idx 7 1 false (.object "LadderSurvey$Plan")) (kk : Go F nL (mk (ptP S (x, S.2.2.2))) cs sl pc' L st) : Go F nL (mk S) cs sl pc L (.ref x :: .ref 0 :: st) := by
  refine go_put h hd lk (gt_ob S (k := 0) (c := 7) rfl (by decide)) (fun b => rfl) (fun b => rfl) (by simp [fl]) rfl ?_
  rw [up_mk (S := S) (S' := ptP S (x, S.2.2.2)) (by rfl) (fun j hj => mkc_P _ _ _ _ j hj)]
  exact kk
theorem gs_putP2 (h : Fok F cc nL own ret) {idx x : Nat} (hd : Dc cc pc (.putfield idx) 3 pc') (lk : FP own idx 7 2 false (.object "LadderSurvey$Plan")) (kk : Go F nL (mk (ptP S (S.2.2.1, x))) cs sl pc' L st) : Go F nL (mk S) cs sl pc L (.ref x :: .ref 0 :: st) := by
  refine go_put h hd lk (gt_ob S (k := 0) (c := 7) rfl (by decide)) (fun b => rfl) (fun b => rfl) (by simp [fl]) rfl ?_
  rw [up_mk (S := S) (S' := ptP S (S.2.2.1, x)) (by rfl) (fun j hj => mkc_P _ _ _ _ j hj)]
  exact kk
end GI
theorem mk_congr {S S' : Sg} (h1 : ∀ a, kd a = 9 ∨ kd a = 10 → ∀ j : Int, 0 ≤ j → j < (ln a : Int) → S.1 a j = S'.1 a j) (h2 : ∀ a, kd a ≤ 8 → S.1 a = S'.1 a) (h3 : S.2 = S'.2) : mk S = mk S' := by
  unfold mk
  congr 1
  funext k
  rw [h3]
  by_cases h8 : kd k ≤ 8
  · rw [h2 k h8]
  · simp only [mkc]
    rw [if_neg h8, if_neg h8]
    have he : kd k = 9 ∨ kd k = 10 → af (ln k) (S.1 k) = af (ln k) (S'.1 k) := fun hk => by
      funext q
      simp only [af]
      by_cases hq : q < ln k
      · rw [if_pos hq, if_pos hq, h1 k hk q (by omega) (by omega)]
      · rw [if_neg hq, if_neg hq]
    by_cases h9 : kd k = 9
    · rw [if_pos h9, if_pos h9, he (Or.inl h9)]
    · rw [if_neg h9, if_neg h9]
      by_cases h10 : kd k = 10
      · rw [if_pos h10, if_pos h10, he (Or.inr h10)]
      · rw [if_neg h10, if_neg h10]
/-- the whole of what a holds -/
def aset (S : Sg) (a : Nat) (f : Int → Int) : Sg := (uA S.1 a f, S.2)
theorem mk_aset {S : Sg} {a : Nat} {f g : Int → Int} (hk : kd a = 9) (h : ∀ j : Int, 0 ≤ j → j < (ln a : Int) → f j = g j) : mk (aset S a f) = mk (aset S a g) := by
  refine mk_congr (fun b hb j h0 h1 => ?_) (fun b hb => ?_) rfl
  · by_cases hba : b = a
    · subst hba; simp only [aset, uA_eq]; exact h j h0 h1
    · simp only [aset, uA_ne _ _ hba]
  · have : b ≠ a := fun e => by rw [e, hk] at hb; omega
    simp only [aset, uA_ne _ _ this]
