theorem o_b {α β : Type} (a : α) (f : α → Option β) : (some a).bind f = f a := by
  by_cases h : True
  · exact Option.bind_some a f
  · exact absurd trivial h
/-! trust: who trusts whom, on both sides -/
def sgn (z : Int) : Int := if z ≤ 0 then (if 0 ≤ z then 0 else -1) else 1
def tr (a : Nat → Int) (i j : Nat) : Bool := decide (¬ i = j ∧ sgn (a i) = sgn (a j) ∧ (a j).natAbs ≤ (a i).natAbs + 10)
theorem sgn_b (z : Int) : -1 ≤ sgn z ∧ sgn z ≤ 1 := by
  unfold sgn
  split
  · split <;> omega
  · omega
def Ab (n : Nat) (a : Nat → Int) : Prop := ∀ i, i < n → -45 ≤ a i ∧ a i ≤ 45
theorem Men.ab {n : Nat} {k f : Nat → Nat} {a : Nat → Int} (h : Men n k f a) : Ab n a := fun i hi => ⟨(h.2 i hi).2.2.1, (h.2 i hi).2.2.2⟩
theorem s_far {n : Nat} {a : Nat → Int} {lean : Nat → Int32} (hn : n ≤ 8) (hl : LA n a lean) (hb : Ab n a) {i : Nat} (hi : i < n) : S_City_far (iI i) lean = some (iI ((a i).natAbs : Nat)) := by
  obtain ⟨b1, b2⟩ := hb i hi
  have e := s_abs (z := a i) (by omega) (by omega)
  unfold S_City_far
  simp (disch := omega) only [Int.toNat_natCast, if_true, if_false, iI_add, iI_sub, iI_mul, iI_neg, iI_le, iI_lt, iI_eq, iI_N, iI_Nz, c_0, c_1, c_2, c_3, c_4, c_5, c_6, c_7, c_8, c_9, c_10, c_11, c_12, c_13, c_16, c_20, c_23, c_26, c_30, c_31, c_32, c_37, c_45, c_48, c_57, c_59, c_60, c_63, c_64, c_90, c_91, c_97, c_100, c_108, c_109, c_114, c_119, c_127, c_128, c_200, c_255, c_256, c_999, c_1000, c_2000, c_12345, c_32768, c_65536, t_0, t_1, t_2, t_3, t_4, Int.natCast_add, Int.natCast_mul, Int.cast_ofNat_Int, Int.natCast_succ, if_pos, if_neg, hl i hi, e]
theorem s_side {n : Nat} {a : Nat → Int} {lean : Nat → Int32} (hn : n ≤ 8) (hl : LA n a lean) (hb : Ab n a) {i : Nat} (hi : i < n) : S_City_side (iI i) lean = some (iI (sgn (a i))) := by
  obtain ⟨b1, b2⟩ := hb i hi
  unfold S_City_side sgn
  simp (disch := omega) only [Int.toNat_natCast, if_true, if_false, iI_add, iI_sub, iI_mul, iI_neg, iI_le, iI_lt, iI_eq, iI_N, iI_Nz, c_0, c_1, c_2, c_3, c_4, c_5, c_6, c_7, c_8, c_9, c_10, c_11, c_12, c_13, c_16, c_20, c_23, c_26, c_30, c_31, c_32, c_37, c_45, c_48, c_57, c_59, c_60, c_63, c_64, c_90, c_91, c_97, c_100, c_108, c_109, c_114, c_119, c_127, c_128, c_200, c_255, c_256, c_999, c_1000, c_2000, c_12345, c_32768, c_65536, t_0, t_1, t_2, t_3, t_4, hl i hi]
  rw [if_neg (by omega)]
  by_cases h0 : a i = 0
  · rw [if_pos h0, if_pos (by omega), if_pos (by omega)]
  · rw [if_neg h0]
    by_cases h1 : 0 ≤ a i
    · rw [if_pos h1, if_neg (by omega)]
    · rw [if_neg h1, if_pos (by omega), if_neg h1]
theorem s_trusts {n : Nat} {a : Nat → Int} {lean : Nat → Int32} (hn : n ≤ 8) (hl : LA n a lean) (hb : Ab n a) {i j : Nat} (hi : i < n) (hj : j < n) : S_City_trusts (iI i) (iI j) lean = some (iI (if tr a i j then 1 else 0)) := by
  have b1 := hb i hi
  have b2 := hb j hj
  have g1 := sgn_b (a i)
  have g2 := sgn_b (a j)
  unfold S_City_trusts tr
  rw [s_side hn hl hb hi, s_side hn hl hb hj, s_far hn hl hb hi, s_far hn hl hb hj]
  simp (disch := omega) only [o_b, Int.toNat_natCast, if_true, if_false, iI_add, iI_sub, iI_mul, iI_neg, iI_le, iI_lt, iI_eq, iI_N, iI_Nz, c_0, c_1, c_2, c_3, c_4, c_5, c_6, c_7, c_8, c_9, c_10, c_11, c_12, c_13, c_16, c_20, c_23, c_26, c_30, c_31, c_32, c_37, c_45, c_48, c_57, c_59, c_60, c_63, c_64, c_90, c_91, c_97, c_100, c_108, c_109, c_114, c_119, c_127, c_128, c_200, c_255, c_256, c_999, c_1000, c_2000, c_12345, c_32768, c_65536, t_0, t_1, t_2, t_3, t_4]
  by_cases h1 : i = j
  · rw [if_pos (by omega)]
    simp [h1]
  · rw [if_neg (by omega)]
    by_cases h2 : sgn (a i) = sgn (a j)
    · rw [if_pos h2]
      by_cases h3 : (a j).natAbs ≤ (a i).natAbs + 10
      · rw [if_neg (by omega)]
        simp [h1, h2, h3]
      · rw [if_pos (by omega)]
        simp [h3]
    · rw [if_neg h2]
      simp [h2]
theorem s_trBy {n : Nat} {a : Nat → Int} {lean : Nat → Int32} (hn : n ≤ 8) (hl : LA n a lean) (hb : Ab n a) {m : Nat} (hm : m < n) : S_City_trustedBy (iI m) (iI n) lean = some (iI (setOf (fun i => tr a i m) n : Nat)) := by
  unfold S_City_trustedBy
  refine for_g (fun g j => S_City_trustedBy_L4 (iI m) (iI n) lean g (iI (setOf (fun i => tr a i m) j : Nat)) (iI j)) n _ (fun g j hj => ?_) (fun g => ?_) lfu (by unfold lfu; omega)
  · have e1 := s_trusts hn hl hb hj hm
    have e6 := b_or j (by omega) _ (setOf_lt (fun i => tr a i m) j)
    show S_City_trustedBy_L4 _ _ _ (g + 1) _ _ = _
    rw [S_City_trustedBy_L4]
    by_cases ht : tr a j m = true
    · rw [if_pos ht] at e1
      simp (disch := omega) only [Int.toNat_natCast, if_true, if_false, iI_add, iI_sub, iI_mul, iI_neg, iI_le, iI_lt, iI_eq, iI_N, iI_Nz, c_0, c_1, c_2, c_3, c_4, c_5, c_6, c_7, c_8, c_9, c_10, c_11, c_12, c_13, c_16, c_20, c_23, c_26, c_30, c_31, c_32, c_37, c_45, c_48, c_57, c_59, c_60, c_63, c_64, c_90, c_91, c_97, c_100, c_108, c_109, c_114, c_119, c_127, c_128, c_200, c_255, c_256, c_999, c_1000, c_2000, c_12345, c_32768, c_65536, t_0, t_1, t_2, t_3, t_4, Int.natCast_add, Int.natCast_mul, Int.cast_ofNat_Int, Int.natCast_succ, if_pos, if_neg, e1, e6, o_b, setOf, ht, if_true]
    · rw [if_neg ht] at e1
      simp (disch := omega) only [Int.toNat_natCast, if_true, if_false, iI_add, iI_sub, iI_mul, iI_neg, iI_le, iI_lt, iI_eq, iI_N, iI_Nz, c_0, c_1, c_2, c_3, c_4, c_5, c_6, c_7, c_8, c_9, c_10, c_11, c_12, c_13, c_16, c_20, c_23, c_26, c_30, c_31, c_32, c_37, c_45, c_48, c_57, c_59, c_60, c_63, c_64, c_90, c_91, c_97, c_100, c_108, c_109, c_114, c_119, c_127, c_128, c_200, c_255, c_256, c_999, c_1000, c_2000, c_12345, c_32768, c_65536, t_0, t_1, t_2, t_3, t_4, Int.natCast_add, Int.natCast_mul, Int.cast_ofNat_Int, Int.natCast_succ, if_pos, if_neg, e1, o_b, setOf, ht, if_false, Nat.add_zero, Bool.false_eq_true]
  · show S_City_trustedBy_L4 _ _ _ (g + 1) _ _ = _
    rw [S_City_trustedBy_L4]
    simp (disch := omega) only [Int.toNat_natCast, if_true, if_false, iI_add, iI_sub, iI_mul, iI_neg, iI_le, iI_lt, iI_eq, iI_N, iI_Nz, c_0, c_1, c_2, c_3, c_4, c_5, c_6, c_7, c_8, c_9, c_10, c_11, c_12, c_13, c_16, c_20, c_23, c_26, c_30, c_31, c_32, c_37, c_45, c_48, c_57, c_59, c_60, c_63, c_64, c_90, c_91, c_97, c_100, c_108, c_109, c_114, c_119, c_127, c_128, c_200, c_255, c_256, c_999, c_1000, c_2000, c_12345, c_32768, c_65536, t_0, t_1, t_2, t_3, t_4, Int.natCast_add, Int.natCast_mul, Int.cast_ofNat_Int, Int.natCast_succ, if_pos, if_neg]
/-- the first of the greatest -/
def bo (v : Nat → Nat) : Nat → Nat
  | 0 => 0
  | n + 1 => if n = 0 then 0 else if v (bo v n) < v n then n else bo v n
theorem bo_lt (v : Nat → Nat) : ∀ n, 0 < n → bo v n < n
  | 0, h => absurd h (Nat.lt_irrefl 0)
  | n + 1, _ => by
    simp only [bo]
    split
    · omega
    · have := bo_lt v n (by omega)
      split <;> omega
def trN (n : Nat) (a : Nat → Int) (m : Nat) : Nat := cnt (fun i => tr a i m) n
theorem trN_b (n : Nat) (a : Nat → Int) (m : Nat) : trN n a m ≤ n := cnt_le _ _
theorem s_bcSet {p : Nat → Bool} {n : Nat} (hn : n ≤ 8) : S_J_bitCount (iI (setOf p n : Nat)) = iI (cnt p n : Nat) := by
  rw [b_bc _ (setOf_256 hn), pc_setOf _ hn]
theorem s_most {n : Nat} {a : Nat → Int} {lean : Nat → Int32} (hn : n ≤ 8) (hl : LA n a lean) (hb : Ab n a) : S_City_mostTrusted (iI n) lean = some (iI (if n = 0 then -4 else (bo (trN n a) n : Nat))) := by
  unfold S_City_mostTrusted
  have z : S_City_mostTrusted_L7 (iI n) lean lfu (iI (if (0 : Nat) = 0 then -4 else (bo (trN n a) 0 : Nat))) (iI (if (0 : Nat) = 0 then -1 else (trN n a (bo (trN n a) 0) : Nat))) (iI ((0 : Nat) : Int)) = some (iI (if n = 0 then -4 else (bo (trN n a) n : Nat))) := by
   refine for_g (fun g j => S_City_mostTrusted_L7 (iI n) lean g (iI (if j = 0 then -4 else (bo (trN n a) j : Nat))) (iI (if j = 0 then -1 else (trN n a (bo (trN n a) j) : Nat))) (iI j)) n _ (fun g j hj => ?_) (fun g => ?_) lfu (by unfold lfu; omega)
   · have e1 := s_trBy hn hl hb hj
     have e2 : S_J_bitCount (iI (setOf (fun i => tr a i j) n : Nat)) = iI (trN n a j : Nat) := s_bcSet hn
     have b1 := trN_b n a j
     have b2 := trN_b n a (bo (trN n a) j)
     have h1 : ¬ j + 1 = 0 := by omega
     show S_City_mostTrusted_L7 _ _ (g + 1) _ _ _ = _
     rw [S_City_mostTrusted_L7]
     by_cases h0 : j = 0
     · subst h0
       rw [show (((0 : Nat) : Int)) = 0 from rfl] at e1
       simp (disch := omega) only [Int.toNat_natCast, if_true, if_false, iI_add, iI_sub, iI_mul, iI_neg, iI_le, iI_lt, iI_eq, iI_N, iI_Nz, c_0, c_1, c_2, c_3, c_4, c_5, c_6, c_7, c_8, c_9, c_10, c_11, c_12, c_13, c_16, c_20, c_23, c_26, c_30, c_31, c_32, c_37, c_45, c_48, c_57, c_59, c_60, c_63, c_64, c_90, c_91, c_97, c_100, c_108, c_109, c_114, c_119, c_127, c_128, c_200, c_255, c_256, c_999, c_1000, c_2000, c_12345, c_32768, c_65536, t_0, t_1, t_2, t_3, t_4, Int.natCast_add, Int.natCast_mul, Int.cast_ofNat_Int, Int.natCast_succ, if_pos, if_neg, e1, e2, o_b, bo]
     · simp (disch := omega) only [Int.toNat_natCast, if_true, if_false, iI_add, iI_sub, iI_mul, iI_neg, iI_le, iI_lt, iI_eq, iI_N, iI_Nz, c_0, c_1, c_2, c_3, c_4, c_5, c_6, c_7, c_8, c_9, c_10, c_11, c_12, c_13, c_16, c_20, c_23, c_26, c_30, c_31, c_32, c_37, c_45, c_48, c_57, c_59, c_60, c_63, c_64, c_90, c_91, c_97, c_100, c_108, c_109, c_114, c_119, c_127, c_128, c_200, c_255, c_256, c_999, c_1000, c_2000, c_12345, c_32768, c_65536, t_0, t_1, t_2, t_3, t_4, e1, e2, o_b, h0, h1, if_false]
       rw [if_neg (by omega)]
       by_cases hc : trN n a (bo (trN n a) j) < trN n a j
       · have e3 : bo (trN n a) (j + 1) = j := by simp only [bo]; rw [if_neg h0, if_pos hc]
         rw [if_neg (by omega), e3]
         rfl
       · have e3 : bo (trN n a) (j + 1) = bo (trN n a) j := by simp only [bo]; rw [if_neg h0, if_neg hc]
         rw [if_pos (by omega), e3]
         rfl
   · show S_City_mostTrusted_L7 _ _ (g + 1) _ _ _ = _
     rw [S_City_mostTrusted_L7]
     simp (disch := omega) only [Int.toNat_natCast, if_true, if_false, iI_add, iI_sub, iI_mul, iI_neg, iI_le, iI_lt, iI_eq, iI_N, iI_Nz, c_0, c_1, c_2, c_3, c_4, c_5, c_6, c_7, c_8, c_9, c_10, c_11, c_12, c_13, c_16, c_20, c_23, c_26, c_30, c_31, c_32, c_37, c_45, c_48, c_57, c_59, c_60, c_63, c_64, c_90, c_91, c_97, c_100, c_108, c_109, c_114, c_119, c_127, c_128, c_200, c_255, c_256, c_999, c_1000, c_2000, c_12345, c_32768, c_65536, t_0, t_1, t_2, t_3, t_4, Int.natCast_add, Int.natCast_mul, Int.cast_ofNat_Int, Int.natCast_succ, if_pos, if_neg]
  rw [if_pos rfl, if_pos rfl] at z
  rw [c_4, c_1, iI_neg, iI_neg]
  rw [show (((0 : Nat) : Int)) = 0 from rfl] at z
  rw [c_0]
  exact z
def riv (a : Nat → Int) (i j : Nat) : Bool := !(tr a i j) && !(tr a j i)
theorem riv_comm (a : Nat → Int) (i j : Nat) : riv a i j = riv a j i := by unfold riv; exact Bool.and_comm _ _
def rvs (a : Nat → Int) : Nat → Nat
  | 0 => 0
  | n + 1 => rvs a n + cnt (riv a n) n
theorem rvs_b (a : Nat → Int) : ∀ n, n ≤ 8 → rvs a n ≤ 8 * n
  | 0, _ => by simp [rvs]
  | n + 1, h => by
    have := rvs_b a n (by omega)
    have := cnt_le (riv a n) n
    simp only [rvs]
    omega
theorem s_rivals {n : Nat} {a : Nat → Int} {lean : Nat → Int32} (hn : n ≤ 8) (hl : LA n a lean) (hb : Ab n a) : S_City_rivals (iI n) lean = some (iI (rvs a n : Nat)) := by
  unfold S_City_rivals
  refine for_g (fun g j => S_City_rivals_L4 (iI n) lean g (iI (rvs a j : Nat)) (iI j)) n _ (fun g j hj => ?_) (fun g => ?_) lfu (by unfold lfu; omega)
  · have b0 := rvs_b a j (by omega)
    show S_City_rivals_L4 _ _ (g + 1) _ _ = _
    rw [S_City_rivals_L4, if_neg (show ¬ (iI (n : Nat) ≤ iI (j : Nat)) from fun z => absurd ((iI_le (by omega) (by omega) (by omega) (by omega)).mp z) (by omega))]
    refine for_g (fun g2 i => S_City_rivals_L14 (S_City_rivals_L4 (iI n) lean g) (iI j) lean g2 (iI ((rvs a j + cnt (riv a j) i : Nat) : Int)) (iI i)) j _ (fun g2 i hi => ?_) (fun g2 => ?_) lfu (by unfold lfu; omega)
    · have e1 := s_trusts hn hl hb hj (show i < n by omega)
      have e2 := s_trusts hn hl hb (show i < n by omega) hj
      have b1 := cnt_le (riv a j) i
      show S_City_rivals_L14 _ _ _ (g2 + 1) _ _ = _
      rw [S_City_rivals_L14, e1, e2]
      by_cases h1 : tr a j i = true
      · have h3 : riv a j i = false := by simp [riv, h1]
        rw [if_pos h1]
        simp (disch := omega) only [Int.toNat_natCast, if_true, if_false, iI_add, iI_sub, iI_mul, iI_neg, iI_le, iI_lt, iI_eq, iI_N, iI_Nz, c_0, c_1, c_2, c_3, c_4, c_5, c_6, c_7, c_8, c_9, c_10, c_11, c_12, c_13, c_16, c_20, c_23, c_26, c_30, c_31, c_32, c_37, c_45, c_48, c_57, c_59, c_60, c_63, c_64, c_90, c_91, c_97, c_100, c_108, c_109, c_114, c_119, c_127, c_128, c_200, c_255, c_256, c_999, c_1000, c_2000, c_12345, c_32768, c_65536, t_0, t_1, t_2, t_3, t_4, Int.natCast_add, Int.natCast_mul, Int.cast_ofNat_Int, Int.natCast_succ, if_pos, if_neg, o_b, cnt, h3, Bool.false_eq_true, Nat.add_zero]
      · rw [if_neg h1]
        by_cases h2 : tr a i j = true
        · have h3 : riv a j i = false := by simp [riv, h2]
          rw [if_pos h2]
          simp (disch := omega) only [Int.toNat_natCast, if_true, if_false, iI_add, iI_sub, iI_mul, iI_neg, iI_le, iI_lt, iI_eq, iI_N, iI_Nz, c_0, c_1, c_2, c_3, c_4, c_5, c_6, c_7, c_8, c_9, c_10, c_11, c_12, c_13, c_16, c_20, c_23, c_26, c_30, c_31, c_32, c_37, c_45, c_48, c_57, c_59, c_60, c_63, c_64, c_90, c_91, c_97, c_100, c_108, c_109, c_114, c_119, c_127, c_128, c_200, c_255, c_256, c_999, c_1000, c_2000, c_12345, c_32768, c_65536, t_0, t_1, t_2, t_3, t_4, Int.natCast_add, Int.natCast_mul, Int.cast_ofNat_Int, Int.natCast_succ, if_pos, if_neg, o_b, cnt, h3, Bool.false_eq_true, Nat.add_zero]
        · have h3 : riv a j i = true := by simp [riv, h1, h2]
          rw [if_neg h2]
          simp (disch := omega) only [Int.toNat_natCast, if_true, if_false, iI_add, iI_sub, iI_mul, iI_neg, iI_le, iI_lt, iI_eq, iI_N, iI_Nz, c_0, c_1, c_2, c_3, c_4, c_5, c_6, c_7, c_8, c_9, c_10, c_11, c_12, c_13, c_16, c_20, c_23, c_26, c_30, c_31, c_32, c_37, c_45, c_48, c_57, c_59, c_60, c_63, c_64, c_90, c_91, c_97, c_100, c_108, c_109, c_114, c_119, c_127, c_128, c_200, c_255, c_256, c_999, c_1000, c_2000, c_12345, c_32768, c_65536, t_0, t_1, t_2, t_3, t_4, Int.natCast_add, Int.natCast_mul, Int.cast_ofNat_Int, Int.natCast_succ, if_pos, if_neg, o_b, cnt, h3, if_true, Int.add_assoc]
    · show S_City_rivals_L14 _ _ _ (g2 + 1) _ _ = _
      rw [S_City_rivals_L14]
      simp (disch := omega) only [Int.toNat_natCast, if_true, if_false, iI_add, iI_sub, iI_mul, iI_neg, iI_le, iI_lt, iI_eq, iI_N, iI_Nz, c_0, c_1, c_2, c_3, c_4, c_5, c_6, c_7, c_8, c_9, c_10, c_11, c_12, c_13, c_16, c_20, c_23, c_26, c_30, c_31, c_32, c_37, c_45, c_48, c_57, c_59, c_60, c_63, c_64, c_90, c_91, c_97, c_100, c_108, c_109, c_114, c_119, c_127, c_128, c_200, c_255, c_256, c_999, c_1000, c_2000, c_12345, c_32768, c_65536, t_0, t_1, t_2, t_3, t_4, Int.natCast_add, Int.natCast_mul, Int.cast_ofNat_Int, Int.natCast_succ, if_pos, if_neg, rvs]
  · show S_City_rivals_L4 _ _ (g + 1) _ _ = _
    rw [S_City_rivals_L4]
    simp (disch := omega) only [Int.toNat_natCast, if_true, if_false, iI_add, iI_sub, iI_mul, iI_neg, iI_le, iI_lt, iI_eq, iI_N, iI_Nz, c_0, c_1, c_2, c_3, c_4, c_5, c_6, c_7, c_8, c_9, c_10, c_11, c_12, c_13, c_16, c_20, c_23, c_26, c_30, c_31, c_32, c_37, c_45, c_48, c_57, c_59, c_60, c_63, c_64, c_90, c_91, c_97, c_100, c_108, c_109, c_114, c_119, c_127, c_128, c_200, c_255, c_256, c_999, c_1000, c_2000, c_12345, c_32768, c_65536, t_0, t_1, t_2, t_3, t_4, Int.natCast_add, Int.natCast_mul, Int.cast_ofNat_Int, Int.natCast_succ, if_pos, if_neg]
/-! the reference -/
theorem m_trusts {c : MC} (h : Men c.n c.k c.f c.a) {q : Nat → Int32} (hq : MRow c q) {i j : Nat} (hi : i < c.n) (hj : j < c.n) : S_MD_doesTrust (iI i) (iI j) q = some (iI (if tr c.a i j then 1 else 0)) := by
  have hn := h.1
  obtain ⟨-, -, e1, -⟩ := hq.at hi
  obtain ⟨-, -, e2, -⟩ := hq.at hj
  have b1 := h.ab i hi
  have b2 := h.ab j hj
  have g1 := sgn_b (c.a i)
  have g2 := sgn_b (c.a j)
  have s1 : S_MD_signOf (iI (c.a i)) = iI (sgn (c.a i)) := m_sign (by omega) (by omega)
  have s2 : S_MD_signOf (iI (c.a j)) = iI (sgn (c.a j)) := m_sign (by omega) (by omega)
  have t1 := m_sized (z := c.a i) (by omega) (by omega)
  have t2 := m_sized (z := c.a j) (by omega) (by omega)
  unfold S_MD_doesTrust tr
  simp (disch := omega) only [Int.toNat_natCast, if_true, if_false, iI_add, iI_sub, iI_mul, iI_neg, iI_le, iI_lt, iI_eq, iI_N, iI_Nz, c_0, c_1, c_2, c_3, c_4, c_5, c_6, c_7, c_8, c_9, c_10, c_11, c_12, c_13, c_16, c_20, c_23, c_26, c_30, c_31, c_32, c_37, c_45, c_48, c_57, c_59, c_60, c_63, c_64, c_90, c_91, c_97, c_100, c_108, c_109, c_114, c_119, c_127, c_128, c_200, c_255, c_256, c_999, c_1000, c_2000, c_12345, c_32768, c_65536, of_n0, of_n1, of_n2, of_n3, of_g0, of_g1, of_g2, of_g3, n_0, n_1, n_2, n_3, n_4, t_0, t_1, t_2, t_3, t_4, e1, e2, s1, s2, t1, t2]
  by_cases h1 : i = j
  · rw [if_pos (by omega)]
    simp [h1]
  · rw [if_neg (by omega)]
    by_cases h2 : sgn (c.a i) = sgn (c.a j)
    · rw [if_pos h2]
      by_cases h3 : (c.a j).natAbs ≤ (c.a i).natAbs + 10
      · rw [if_neg (by omega)]
        simp [h1, h2, h3]
      · rw [if_pos (by omega)]
        simp [h3]
    · rw [if_neg h2]
      simp [h2]
theorem or_0 (x : Nat) : iI (x : Nat) ||| iI 0 = iI (x : Nat) := by
  have z := b_orr x 0
  rw [Nat.or_zero] at z
  exact z
theorem m_trBy {c : MC} (h : Men c.n c.k c.f c.a) {q : Nat → Int32} (hq : MRow c q) {m : Nat} (hm : m < c.n) : S_MD_trustedBy (iI m) q = some (iI (setOf (fun i => tr c.a i m) c.n : Nat)) := by
  unfold S_MD_trustedBy
  have hn := h.1
  have e0 := hq.1
  refine for_g (fun g j => S_MD_trustedBy_L4 (iI m) q g (iI (setOf (fun i => tr c.a i m) j : Nat)) (iI j)) c.n _ (fun g j hj => ?_) (fun g => ?_) lfu (by unfold lfu; omega)
  · have e1 := m_trusts h hq hj hm
    have e6 := b_or j (by omega) _ (setOf_lt (fun i => tr c.a i m) j)
    show S_MD_trustedBy_L4 _ _ (g + 1) _ _ = _
    rw [S_MD_trustedBy_L4]
    by_cases ht : tr c.a j m = true
    · rw [if_pos ht] at e1
      simp (disch := omega) only [Int.toNat_natCast, if_true, if_false, iI_add, iI_sub, iI_mul, iI_neg, iI_le, iI_lt, iI_eq, iI_N, iI_Nz, c_0, c_1, c_2, c_3, c_4, c_5, c_6, c_7, c_8, c_9, c_10, c_11, c_12, c_13, c_16, c_20, c_23, c_26, c_30, c_31, c_32, c_37, c_45, c_48, c_57, c_59, c_60, c_63, c_64, c_90, c_91, c_97, c_100, c_108, c_109, c_114, c_119, c_127, c_128, c_200, c_255, c_256, c_999, c_1000, c_2000, c_12345, c_32768, c_65536, of_n0, of_n1, of_n2, of_n3, of_g0, of_g1, of_g2, of_g3, n_0, n_1, n_2, n_3, n_4, t_0, t_1, t_2, t_3, t_4, e0, e1, e6, o_b, setOf, ht, if_true, if_pos, if_neg, Int.natCast_succ]
    · rw [if_neg ht] at e1
      simp (disch := omega) only [Int.toNat_natCast, if_true, if_false, iI_add, iI_sub, iI_mul, iI_neg, iI_le, iI_lt, iI_eq, iI_N, iI_Nz, c_0, c_1, c_2, c_3, c_4, c_5, c_6, c_7, c_8, c_9, c_10, c_11, c_12, c_13, c_16, c_20, c_23, c_26, c_30, c_31, c_32, c_37, c_45, c_48, c_57, c_59, c_60, c_63, c_64, c_90, c_91, c_97, c_100, c_108, c_109, c_114, c_119, c_127, c_128, c_200, c_255, c_256, c_999, c_1000, c_2000, c_12345, c_32768, c_65536, of_n0, of_n1, of_n2, of_n3, of_g0, of_g1, of_g2, of_g3, n_0, n_1, n_2, n_3, n_4, t_0, t_1, t_2, t_3, t_4, e0, e1, or_0, o_b, setOf, ht, if_false, Nat.add_zero, Bool.false_eq_true, if_pos, if_neg, Int.natCast_succ]
  · show S_MD_trustedBy_L4 _ _ (g + 1) _ _ = _
    rw [S_MD_trustedBy_L4]
    simp (disch := omega) only [Int.toNat_natCast, if_true, if_false, iI_add, iI_sub, iI_mul, iI_neg, iI_le, iI_lt, iI_eq, iI_N, iI_Nz, c_0, c_1, c_2, c_3, c_4, c_5, c_6, c_7, c_8, c_9, c_10, c_11, c_12, c_13, c_16, c_20, c_23, c_26, c_30, c_31, c_32, c_37, c_45, c_48, c_57, c_59, c_60, c_63, c_64, c_90, c_91, c_97, c_100, c_108, c_109, c_114, c_119, c_127, c_128, c_200, c_255, c_256, c_999, c_1000, c_2000, c_12345, c_32768, c_65536, of_n0, of_n1, of_n2, of_n3, of_g0, of_g1, of_g2, of_g3, n_0, n_1, n_2, n_3, n_4, t_0, t_1, t_2, t_3, t_4, e0, if_pos]
theorem m_bcSet {p : Nat → Bool} {n : Nat} (hn : n ≤ 8) : S_MD_bits (iI (setOf p n : Nat)) = some (iI (cnt p n : Nat)) := by
  rw [m_bits (setOf_256 hn), pc_setOf _ hn]
theorem m_most {c : MC} (h : Men c.n c.k c.f c.a) {q : Nat → Int32} (hq : MRow c q) : S_MD_mostTrusted q = some (iI (if c.n = 0 then -4 else (bo (trN c.n c.a) c.n : Nat))) := by
  unfold S_MD_mostTrusted
  have hn := h.1
  have e0 := hq.1
  have z : S_MD_mostTrusted_L5 q lfu (iI (if (0 : Nat) = 0 then -4 else (bo (trN c.n c.a) 0 : Nat))) (iI ((0 : Nat) : Int)) = some (iI (if c.n = 0 then -4 else (bo (trN c.n c.a) c.n : Nat))) := by
   refine for_g (fun g j => S_MD_mostTrusted_L5 q g (iI (if j = 0 then -4 else (bo (trN c.n c.a) j : Nat))) (iI j)) c.n _ (fun g j hj => ?_) (fun g => ?_) lfu (by unfold lfu; omega)
   · have h1 : ¬ j + 1 = 0 := by omega
     show S_MD_mostTrusted_L5 _ (g + 1) _ _ = _
     rw [S_MD_mostTrusted_L5]
     by_cases h0 : j = 0
     · subst h0
       simp (disch := omega) only [Int.toNat_natCast, if_true, if_false, iI_add, iI_sub, iI_mul, iI_neg, iI_le, iI_lt, iI_eq, iI_N, iI_Nz, c_0, c_1, c_2, c_3, c_4, c_5, c_6, c_7, c_8, c_9, c_10, c_11, c_12, c_13, c_16, c_20, c_23, c_26, c_30, c_31, c_32, c_37, c_45, c_48, c_57, c_59, c_60, c_63, c_64, c_90, c_91, c_97, c_100, c_108, c_109, c_114, c_119, c_127, c_128, c_200, c_255, c_256, c_999, c_1000, c_2000, c_12345, c_32768, c_65536, of_n0, of_n1, of_n2, of_n3, of_g0, of_g1, of_g2, of_g3, n_0, n_1, n_2, n_3, n_4, t_0, t_1, t_2, t_3, t_4, e0, if_pos, if_neg, bo]
       rfl
     · have hlt := bo_lt (trN c.n c.a) j (by omega)
       have e1 := m_trBy h hq hj
       have e2 := m_trBy h hq (m := bo (trN c.n c.a) j) (by omega)
       have e3 : S_MD_bits (iI (setOf (fun i => tr c.a i j) c.n : Nat)) = some (iI (trN c.n c.a j : Nat)) := m_bcSet hn
       have e4 : S_MD_bits (iI (setOf (fun i => tr c.a i (bo (trN c.n c.a) j)) c.n : Nat)) = some (iI (trN c.n c.a (bo (trN c.n c.a) j) : Nat)) := m_bcSet hn
       have b1 := trN_b c.n c.a j
       have b2 := trN_b c.n c.a (bo (trN c.n c.a) j)
       simp (disch := omega) only [Int.toNat_natCast, if_true, if_false, iI_add, iI_sub, iI_mul, iI_neg, iI_le, iI_lt, iI_eq, iI_N, iI_Nz, c_0, c_1, c_2, c_3, c_4, c_5, c_6, c_7, c_8, c_9, c_10, c_11, c_12, c_13, c_16, c_20, c_23, c_26, c_30, c_31, c_32, c_37, c_45, c_48, c_57, c_59, c_60, c_63, c_64, c_90, c_91, c_97, c_100, c_108, c_109, c_114, c_119, c_127, c_128, c_200, c_255, c_256, c_999, c_1000, c_2000, c_12345, c_32768, c_65536, t_0, t_1, t_2, t_3, t_4, e0, e1, e2, e3, e4, o_b, h0, h1, if_false]
       rw [if_neg (by omega), if_neg (by omega)]
       by_cases hc : trN c.n c.a (bo (trN c.n c.a) j) < trN c.n c.a j
       · have e5 : bo (trN c.n c.a) (j + 1) = j := by simp only [bo]; rw [if_neg h0, if_pos hc]
         rw [if_neg (by omega), e5]
         rfl
       · have e5 : bo (trN c.n c.a) (j + 1) = bo (trN c.n c.a) j := by simp only [bo]; rw [if_neg h0, if_neg hc]
         rw [if_pos (by omega), e5]
         rfl
   · show S_MD_mostTrusted_L5 _ (g + 1) _ _ = _
     rw [S_MD_mostTrusted_L5]
     simp (disch := omega) only [Int.toNat_natCast, if_true, if_false, iI_add, iI_sub, iI_mul, iI_neg, iI_le, iI_lt, iI_eq, iI_N, iI_Nz, c_0, c_1, c_2, c_3, c_4, c_5, c_6, c_7, c_8, c_9, c_10, c_11, c_12, c_13, c_16, c_20, c_23, c_26, c_30, c_31, c_32, c_37, c_45, c_48, c_57, c_59, c_60, c_63, c_64, c_90, c_91, c_97, c_100, c_108, c_109, c_114, c_119, c_127, c_128, c_200, c_255, c_256, c_999, c_1000, c_2000, c_12345, c_32768, c_65536, of_n0, of_n1, of_n2, of_n3, of_g0, of_g1, of_g2, of_g3, n_0, n_1, n_2, n_3, n_4, t_0, t_1, t_2, t_3, t_4, e0, if_pos]
  rw [if_pos rfl] at z
  rw [c_4, iI_neg]
  rw [show (((0 : Nat) : Int)) = 0 from rfl] at z
  rw [c_0]
  exact z
