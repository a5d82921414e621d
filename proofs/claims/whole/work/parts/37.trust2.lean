/-! discounts, rivals, east, who is told, on both sides -/
def disc (k f l : Nat) : Nat := match k with
  | 0 => l
  | 1 => l / 2
  | 2 => 2 * l
  | 3 => l
  | 4 => l / 2 + 3
  | 5 => 0
  | 6 => 0
  | _ => l + f
theorem disc_b {k f l : Nat} (hf : f ≤ 9) (hl : l ≤ 45) : disc k f l ≤ 90 := by
  unfold disc
  split <;> omega
theorem s_half45 : ∀ l, l ≤ 45 → iI (l : Nat) / iI 2 = iI ((l / 2 : Nat)) := by decide +kernel
theorem s_disc {k f l : Nat} (hk : k < 8) (hl : l ≤ 45) : V_discountAt k (iI l) (iI f) = iI (disc k f l : Nat) := by
  have e := s_half45 l hl
  rcases k_8 hk with rfl | rfl | rfl | rfl | rfl | rfl | rfl | rfl
  · rfl
  · show iI l / 2 = _
    rw [c_2, e]; rfl
  · show (2 : Int32) * iI l = _
    rw [c_2, iI_mul]; rfl
  · rfl
  · show iI l / 2 + 3 = _
    rw [c_2, e, c_3, iI_add]; rfl
  · rfl
  · rfl
  · show iI l + iI f = _
    rw [iI_add]; rfl
theorem m_disc {k f : Nat} {z : Int} (hk : k < 8) (h1 : -45 ≤ z) (h2 : z ≤ 45) : S_MD_discountBy (iI k) (iI f) (iI z) = iI (disc k f z.natAbs : Nat) := by
  have e := s_half45 z.natAbs (by omega)
  unfold S_MD_discountBy
  rw [m_sized (by omega) (by omega)]
  simp only [c_0, c_1, c_2, c_3, c_4, c_5, c_6, c_7, e, iI_mul, iI_add]
  rcases k_8 hk with rfl | rfl | rfl | rfl | rfl | rfl | rfl | rfl
  · rw [if_neg (by decide), if_neg (by decide), if_neg (by decide), if_neg (by decide), if_neg (by decide), if_neg (by decide), if_neg (by decide)]
    rfl
  · rw [if_pos (by decide)]
    rfl
  · rw [if_neg (by decide), if_pos (by decide)]
    rfl
  · rw [if_neg (by decide), if_neg (by decide), if_pos (by decide)]
    rfl
  · rw [if_neg (by decide), if_neg (by decide), if_neg (by decide), if_pos (by decide)]
    rfl
  · rw [if_neg (by decide), if_neg (by decide), if_neg (by decide), if_neg (by decide), if_pos (by decide)]
    rfl
  · rw [if_neg (by decide), if_neg (by decide), if_neg (by decide), if_neg (by decide), if_neg (by decide), if_pos (by decide)]
    rfl
  · rw [if_neg (by decide), if_neg (by decide), if_neg (by decide), if_neg (by decide), if_neg (by decide), if_neg (by decide), if_pos (by decide)]
    rfl
def discN (c : MC) (i : Nat) : Nat := disc (c.k i) (c.f i) (c.a i).natAbs
def sumN (v : Nat → Nat) : Nat → Nat
  | 0 => 0
  | n + 1 => sumN v n + v n
theorem sumN_b {v : Nat → Nat} {b : Nat} : ∀ {n : Nat}, (∀ i, i < n → v i ≤ b) → sumN v n ≤ b * n
  | 0, _ => by simp [sumN]
  | n + 1, h => by
    have := sumN_b (n := n) (fun i hi => h i (by omega))
    have := h n (by omega)
    simp only [sumN]
    rw [Nat.mul_succ]
    omega
theorem discN_b {c : MC} (h : Men c.n c.k c.f c.a) {i : Nat} (hi : i < c.n) : discN c i ≤ 90 := by
  obtain ⟨b1, b2, b3, b4⟩ := h.2 i hi
  exact disc_b b2 (by omega)
theorem s_discOf {c : MC} (h : Men c.n c.k c.f c.a) {kind figure lean : Nat → Int32} (hc : CA c.n c.k c.f c.a kind figure lean) {i : Nat} (hi : i < c.n) : S_City_discountOf (iI i) kind figure lean = some (iI (discN c i : Nat)) := by
  have hn := h.1
  obtain ⟨e1, e2, e3⟩ := hc i hi
  obtain ⟨b1, b2, b3, b4⟩ := h.2 i hi
  have e4 := s_far hn hc.la h.ab hi
  have e5 := s_disc (k := c.k i) (f := c.f i) (l := (c.a i).natAbs) b1 (by omega)
  unfold S_City_discountOf
  simp (disch := omega) only [Int.toNat_natCast, if_true, if_false, iI_add, iI_sub, iI_mul, iI_neg, iI_le, iI_lt, iI_eq, iI_N, iI_Nz, c_0, c_1, c_2, c_3, c_4, c_5, c_6, c_7, c_8, c_9, c_10, c_11, c_12, c_13, c_16, c_20, c_23, c_26, c_30, c_31, c_32, c_37, c_45, c_48, c_57, c_59, c_60, c_63, c_64, c_90, c_91, c_97, c_100, c_108, c_109, c_114, c_119, c_127, c_128, c_200, c_255, c_256, c_999, c_1000, c_2000, c_12345, c_32768, c_65536, t_0, t_1, t_2, t_3, t_4, Int.natCast_add, Int.natCast_mul, Int.cast_ofNat_Int, Int.natCast_succ, if_pos, if_neg, e1, e2, e4, e5, o_b, discN]
theorem s_discAll {c : MC} (h : Men c.n c.k c.f c.a) {kind figure lean : Nat → Int32} (hc : CA c.n c.k c.f c.a kind figure lean) : S_City_discountOfAll (iI c.n) kind figure lean = some (iI (sumN (discN c) c.n : Nat)) := by
  have hn := h.1
  unfold S_City_discountOfAll
  refine for_g (fun g j => S_City_discountOfAll_L4 (iI c.n) kind figure lean g (iI (sumN (discN c) j : Nat)) (iI j)) c.n _ (fun g j hj => ?_) (fun g => ?_) lfu (by unfold lfu; omega)
  · have e1 := s_discOf h hc hj
    show S_City_discountOfAll_L4 _ _ _ _ (g + 1) _ _ = _
    rw [S_City_discountOfAll_L4]
    simp (disch := omega) only [Int.toNat_natCast, if_true, if_false, iI_add, iI_sub, iI_mul, iI_neg, iI_le, iI_lt, iI_eq, iI_N, iI_Nz, c_0, c_1, c_2, c_3, c_4, c_5, c_6, c_7, c_8, c_9, c_10, c_11, c_12, c_13, c_16, c_20, c_23, c_26, c_30, c_31, c_32, c_37, c_45, c_48, c_57, c_59, c_60, c_63, c_64, c_90, c_91, c_97, c_100, c_108, c_109, c_114, c_119, c_127, c_128, c_200, c_255, c_256, c_999, c_1000, c_2000, c_12345, c_32768, c_65536, t_0, t_1, t_2, t_3, t_4, Int.natCast_add, Int.natCast_mul, Int.cast_ofNat_Int, Int.natCast_succ, if_pos, if_neg, e1, o_b, sumN]
  · show S_City_discountOfAll_L4 _ _ _ _ (g + 1) _ _ = _
    rw [S_City_discountOfAll_L4]
    simp (disch := omega) only [Int.toNat_natCast, if_true, if_false, iI_add, iI_sub, iI_mul, iI_neg, iI_le, iI_lt, iI_eq, iI_N, iI_Nz, c_0, c_1, c_2, c_3, c_4, c_5, c_6, c_7, c_8, c_9, c_10, c_11, c_12, c_13, c_16, c_20, c_23, c_26, c_30, c_31, c_32, c_37, c_45, c_48, c_57, c_59, c_60, c_63, c_64, c_90, c_91, c_97, c_100, c_108, c_109, c_114, c_119, c_127, c_128, c_200, c_255, c_256, c_999, c_1000, c_2000, c_12345, c_32768, c_65536, t_0, t_1, t_2, t_3, t_4, Int.natCast_add, Int.natCast_mul, Int.cast_ofNat_Int, Int.natCast_succ, if_pos, if_neg]
def eastB (a : Nat → Int) (i : Nat) : Bool := decide (0 < a i)
theorem s_east {n : Nat} {a : Nat → Int} {lean : Nat → Int32} (hn : n ≤ 8) (hl : LA n a lean) (hb : Ab n a) : S_City_east (iI n) lean = some (iI (cnt (eastB a) n : Nat)) := by
  unfold S_City_east
  refine for_g (fun g j => S_City_east_L4 (iI n) lean g (iI (cnt (eastB a) j : Nat)) (iI j)) n _ (fun g j hj => ?_) (fun g => ?_) lfu (by unfold lfu; omega)
  · have e1 := hl j hj
    have b1 := hb j hj
    have b2 := cnt_le (eastB a) j
    show S_City_east_L4 _ _ (g + 1) _ _ = _
    rw [S_City_east_L4]
    by_cases h1 : 0 < a j
    · have h2 : eastB a j = true := decide_eq_true h1
      simp (disch := omega) only [Int.toNat_natCast, if_true, if_false, iI_add, iI_sub, iI_mul, iI_neg, iI_le, iI_lt, iI_eq, iI_N, iI_Nz, c_0, c_1, c_2, c_3, c_4, c_5, c_6, c_7, c_8, c_9, c_10, c_11, c_12, c_13, c_16, c_20, c_23, c_26, c_30, c_31, c_32, c_37, c_45, c_48, c_57, c_59, c_60, c_63, c_64, c_90, c_91, c_97, c_100, c_108, c_109, c_114, c_119, c_127, c_128, c_200, c_255, c_256, c_999, c_1000, c_2000, c_12345, c_32768, c_65536, t_0, t_1, t_2, t_3, t_4, Int.natCast_add, Int.natCast_mul, Int.cast_ofNat_Int, Int.natCast_succ, if_pos, if_neg, e1, cnt, h2, if_true]
    · have h2 : eastB a j = false := decide_eq_false h1
      simp (disch := omega) only [Int.toNat_natCast, if_true, if_false, iI_add, iI_sub, iI_mul, iI_neg, iI_le, iI_lt, iI_eq, iI_N, iI_Nz, c_0, c_1, c_2, c_3, c_4, c_5, c_6, c_7, c_8, c_9, c_10, c_11, c_12, c_13, c_16, c_20, c_23, c_26, c_30, c_31, c_32, c_37, c_45, c_48, c_57, c_59, c_60, c_63, c_64, c_90, c_91, c_97, c_100, c_108, c_109, c_114, c_119, c_127, c_128, c_200, c_255, c_256, c_999, c_1000, c_2000, c_12345, c_32768, c_65536, t_0, t_1, t_2, t_3, t_4, Int.natCast_add, Int.natCast_mul, Int.cast_ofNat_Int, Int.natCast_succ, if_pos, if_neg, e1, cnt, h2, Bool.false_eq_true, Nat.add_zero]
  · show S_City_east_L4 _ _ (g + 1) _ _ = _
    rw [S_City_east_L4]
    simp (disch := omega) only [Int.toNat_natCast, if_true, if_false, iI_add, iI_sub, iI_mul, iI_neg, iI_le, iI_lt, iI_eq, iI_N, iI_Nz, c_0, c_1, c_2, c_3, c_4, c_5, c_6, c_7, c_8, c_9, c_10, c_11, c_12, c_13, c_16, c_20, c_23, c_26, c_30, c_31, c_32, c_37, c_45, c_48, c_57, c_59, c_60, c_63, c_64, c_90, c_91, c_97, c_100, c_108, c_109, c_114, c_119, c_127, c_128, c_200, c_255, c_256, c_999, c_1000, c_2000, c_12345, c_32768, c_65536, t_0, t_1, t_2, t_3, t_4, Int.natCast_add, Int.natCast_mul, Int.cast_ofNat_Int, Int.natCast_succ, if_pos, if_neg]
theorem m_discOf {c : MC} (h : Men c.n c.k c.f c.a) {q : Nat → Int32} (hq : MRow c q) {i : Nat} (hi : i < c.n) : S_MD_discount (iI i) q = some (iI (discN c i : Nat)) := by
  have hn := h.1
  obtain ⟨e1, e2, e3, -⟩ := hq.at hi
  obtain ⟨b1, b2, b3, b4⟩ := h.2 i hi
  have e5 := m_disc (k := c.k i) (f := c.f i) (z := c.a i) b1 b3 b4
  unfold S_MD_discount
  simp (disch := omega) only [Int.toNat_natCast, if_true, if_false, iI_add, iI_sub, iI_mul, iI_neg, iI_le, iI_lt, iI_eq, iI_N, iI_Nz, c_0, c_1, c_2, c_3, c_4, c_5, c_6, c_7, c_8, c_9, c_10, c_11, c_12, c_13, c_16, c_20, c_23, c_26, c_30, c_31, c_32, c_37, c_45, c_48, c_57, c_59, c_60, c_63, c_64, c_90, c_91, c_97, c_100, c_108, c_109, c_114, c_119, c_127, c_128, c_200, c_255, c_256, c_999, c_1000, c_2000, c_12345, c_32768, c_65536, of_n0, of_n1, of_n2, of_n3, of_g0, of_g1, of_g2, of_g3, n_0, n_1, n_2, n_3, n_4, t_0, t_1, t_2, t_3, t_4, e1, e2, e3, e5, discN]
/-- rivals as the reference counts them: for each man those behind him -/
def rvm (a : Nat → Int) (n : Nat) : Nat → Nat
  | 0 => 0
  | p + 1 => rvm a n p + cnt (fun o => decide (p < o) && riv a p o) n
theorem rvm_b (a : Nat → Int) (n : Nat) (hn : n ≤ 8) : ∀ p, rvm a n p ≤ 8 * p
  | 0 => by simp [rvm]
  | p + 1 => by
    have := rvm_b a n hn p
    have := cnt_le (fun o => decide (p < o) && riv a p o) n
    simp only [rvm]
    omega
theorem rvm_succ (a : Nat → Int) (n : Nat) : ∀ p, p ≤ n → rvm a (n + 1) p = rvm a n p + cnt (fun i => riv a i n) p
  | 0, _ => rfl
  | p + 1, h => by
    have ih := rvm_succ a n p (by omega)
    simp only [rvm, cnt, ih]
    have : p < n := by omega
    simp only [this, decide_true, Bool.true_and]
    omega
theorem rvm_rvs (a : Nat → Int) : ∀ n, rvm a n n = rvs a n
  | 0 => rfl
  | n + 1 => by
    have e : rvm a (n + 1) (n + 1) = rvm a (n + 1) n + 0 := by
      show rvm a (n + 1) n + cnt (fun o => decide (n < o) && riv a n o) (n + 1) = _
      congr 1
      have z : ∀ m, m ≤ n + 1 → cnt (fun o => decide (n < o) && riv a n o) m = 0 := by
        intro m hm
        induction m with
        | zero => rfl
        | succ m ih =>
          simp only [cnt]
          rw [ih (by omega)]
          have : ¬ n < m := by omega
          simp [this]
      exact z _ (Nat.le_refl _)
    rw [e, Nat.add_zero, rvm_succ a n n (Nat.le_refl _), rvm_rvs a n]
    simp only [rvs]
    congr 1
    exact cnt_congr (fun i _ => riv_comm a i n)
theorem m_trustAll {c : MC} (h : Men c.n c.k c.f c.a) {q : Nat → Int32} (hq : MRow c q) (x : Int32) : S_MD_trust_L21 x q lfu (iI 0) (iI 0) (iI 0) (iI 0) = (if x = iI 0 then some (iI (if c.n = 0 then -4 else (bo (trN c.n c.a) c.n : Nat))) else if x = iI 1 then some (iI (rvs c.a c.n : Nat)) else if x = iI 2 then some (iI (if c.n = 0 then -4 else (pb c.a c.n : Nat))) else if x = iI 3 then some (iI (cnt (eastB c.a) c.n : Nat)) else some (iI (sumN (discN c) c.n : Nat))) := by
  have hn := h.1
  have e0 := hq.1
  refine for_g (fun g j => S_MD_trust_L21 x q g (iI (rvm c.a c.n j : Nat)) (iI (cnt (eastB c.a) j : Nat)) (iI (sumN (discN c) j : Nat)) (iI j)) c.n _ (fun g j hj => ?_) (fun g => ?_) lfu (by unfold lfu; omega)
  · have e1 := m_discOf h hq hj
    obtain ⟨-, -, e3, -⟩ := hq.at hj
    have b1 := h.ab j hj
    have b2 := cnt_le (eastB c.a) j
    have b3 := rvm_b c.a c.n hn j
    have inner : ∀ (ea : Int), S_MD_trust_L71 (S_MD_trust_L21 x q g) (iI ea) (iI (sumN (discN c) j : Nat) + iI (discN c j : Nat)) (iI j) q lfu (iI (rvm c.a c.n j : Nat)) (iI j + iI 1) = S_MD_trust_L21 x q g (iI (rvm c.a c.n (j + 1) : Nat)) (iI ea) (iI (sumN (discN c) (j + 1) : Nat)) (iI ((j + 1 : Nat) : Int)) := by
      intro ea
      rw [iI_add, iI_add]
      have e9 : cnt (fun o => decide (j < o) && riv c.a j o) (j + 1) = 0 := by
        have z : ∀ m, m ≤ j + 1 → cnt (fun o => decide (j < o) && riv c.a j o) m = 0 := by
          intro m hm
          induction m with
          | zero => rfl
          | succ m ih =>
            simp only [cnt]
            rw [ih (by omega)]
            have : ¬ j < m := by omega
            simp [this]
        exact z _ (Nat.le_refl _)
      have key := for_h (fun g2 i => S_MD_trust_L71 (S_MD_trust_L21 x q g) (iI ea) (iI ((sumN (discN c) j : Nat) + (discN c j : Nat) : Int)) (iI j) q g2 (iI ((rvm c.a c.n j + cnt (fun o => decide (j < o) && riv c.a j o) i : Nat) : Int)) (iI i)) (j + 1) c.n (S_MD_trust_L21 x q g (iI (rvm c.a c.n (j + 1) : Nat)) (iI ea) (iI (sumN (discN c) (j + 1) : Nat)) (iI ((j + 1 : Nat) : Int))) (by omega) (fun g2 i hi1 hi2 => by
        have t1 := m_trusts h hq hj hi2
        have t2 := m_trusts h hq hi2 hj
        have b4 := cnt_le (fun o => decide (j < o) && riv c.a j o) i
        have hji : j < i := by omega
        show S_MD_trust_L71 _ _ _ _ _ (g2 + 1) _ _ = _
        rw [S_MD_trust_L71, t1, t2]
        by_cases h1 : tr c.a j i = true
        · have h3 : riv c.a j i = false := by simp [riv, h1]
          rw [if_pos h1]
          simp (disch := omega) only [Int.toNat_natCast, if_true, if_false, iI_add, iI_sub, iI_mul, iI_neg, iI_le, iI_lt, iI_eq, iI_N, iI_Nz, c_0, c_1, c_2, c_3, c_4, c_5, c_6, c_7, c_8, c_9, c_10, c_11, c_12, c_13, c_16, c_20, c_23, c_26, c_30, c_31, c_32, c_37, c_45, c_48, c_57, c_59, c_60, c_63, c_64, c_90, c_91, c_97, c_100, c_108, c_109, c_114, c_119, c_127, c_128, c_200, c_255, c_256, c_999, c_1000, c_2000, c_12345, c_32768, c_65536, t_0, t_1, t_2, t_3, t_4, e0, if_pos, if_neg, o_b, cnt, h3, Bool.and_false, Bool.false_eq_true, Nat.add_zero, Int.add_zero, Int.natCast_succ]
        · rw [if_neg h1]
          by_cases h2 : tr c.a i j = true
          · have h3 : riv c.a j i = false := by simp [riv, h2]
            rw [if_pos h2]
            simp (disch := omega) only [Int.toNat_natCast, if_true, if_false, iI_add, iI_sub, iI_mul, iI_neg, iI_le, iI_lt, iI_eq, iI_N, iI_Nz, c_0, c_1, c_2, c_3, c_4, c_5, c_6, c_7, c_8, c_9, c_10, c_11, c_12, c_13, c_16, c_20, c_23, c_26, c_30, c_31, c_32, c_37, c_45, c_48, c_57, c_59, c_60, c_63, c_64, c_90, c_91, c_97, c_100, c_108, c_109, c_114, c_119, c_127, c_128, c_200, c_255, c_256, c_999, c_1000, c_2000, c_12345, c_32768, c_65536, t_0, t_1, t_2, t_3, t_4, e0, if_pos, if_neg, o_b, cnt, h3, Bool.and_false, Bool.false_eq_true, Nat.add_zero, Int.add_zero, Int.natCast_succ]
          · have h3 : riv c.a j i = true := by simp [riv, h1, h2]
            rw [if_neg h2]
            simp (disch := omega) only [Int.toNat_natCast, if_true, if_false, iI_add, iI_sub, iI_mul, iI_neg, iI_le, iI_lt, iI_eq, iI_N, iI_Nz, c_0, c_1, c_2, c_3, c_4, c_5, c_6, c_7, c_8, c_9, c_10, c_11, c_12, c_13, c_16, c_20, c_23, c_26, c_30, c_31, c_32, c_37, c_45, c_48, c_57, c_59, c_60, c_63, c_64, c_90, c_91, c_97, c_100, c_108, c_109, c_114, c_119, c_127, c_128, c_200, c_255, c_256, c_999, c_1000, c_2000, c_12345, c_32768, c_65536, t_0, t_1, t_2, t_3, t_4, e0, if_pos, if_neg, o_b, cnt, h3, hji, decide_true, Bool.and_true, if_true]
            rfl) (fun g2 => by
        show S_MD_trust_L71 _ _ _ _ _ (g2 + 1) _ _ = _
        rw [S_MD_trust_L71]
        simp (disch := omega) only [Int.toNat_natCast, if_true, if_false, iI_add, iI_sub, iI_mul, iI_neg, iI_le, iI_lt, iI_eq, iI_N, iI_Nz, c_0, c_1, c_2, c_3, c_4, c_5, c_6, c_7, c_8, c_9, c_10, c_11, c_12, c_13, c_16, c_20, c_23, c_26, c_30, c_31, c_32, c_37, c_45, c_48, c_57, c_59, c_60, c_63, c_64, c_90, c_91, c_97, c_100, c_108, c_109, c_114, c_119, c_127, c_128, c_200, c_255, c_256, c_999, c_1000, c_2000, c_12345, c_32768, c_65536, t_0, t_1, t_2, t_3, t_4, e0, if_pos, n_0]
        rfl) lfu (by unfold lfu; omega)
      rw [e9] at key
      exact key
    show S_MD_trust_L21 _ _ (g + 1) _ _ _ _ = _
    rw [S_MD_trust_L21]
    unfold S_MD_trust_J52
    simp (disch := omega) only [Int.toNat_natCast, if_true, if_false, iI_add, iI_sub, iI_mul, iI_neg, iI_le, iI_lt, iI_eq, iI_N, iI_Nz, c_0, c_1, c_2, c_3, c_4, c_5, c_6, c_7, c_8, c_9, c_10, c_11, c_12, c_13, c_16, c_20, c_23, c_26, c_30, c_31, c_32, c_37, c_45, c_48, c_57, c_59, c_60, c_63, c_64, c_90, c_91, c_97, c_100, c_108, c_109, c_114, c_119, c_127, c_128, c_200, c_255, c_256, c_999, c_1000, c_2000, c_12345, c_32768, c_65536, of_n0, of_n1, of_n2, of_n3, of_g0, of_g1, of_g2, of_g3, n_0, n_1, n_2, n_3, n_4, t_0, t_1, t_2, t_3, t_4, e0, e3, e1, o_b, if_neg]
    by_cases h1 : 0 < c.a j
    · have h2 : eastB c.a j = true := decide_eq_true h1
      have k1 := inner ((cnt (eastB c.a) j : Nat) + 1)
      rw [iI_add, iI_add] at k1
      rw [if_neg (by omega), k1]
      simp only [cnt, h2, if_true]
      rfl
    · have h2 : eastB c.a j = false := decide_eq_false h1
      have k1 := inner ((cnt (eastB c.a) j : Nat) + 0)
      rw [iI_add, iI_add] at k1
      rw [if_pos (by omega), k1]
      simp only [cnt, h2, Bool.false_eq_true, if_false]
      rfl
  · have e1 := m_most h hq
    have e2 := m_plumb h hq
    show S_MD_trust_L21 _ _ (g + 1) _ _ _ _ = _
    rw [S_MD_trust_L21]
    simp (disch := omega) only [Int.toNat_natCast, if_true, if_false, iI_add, iI_sub, iI_mul, iI_neg, iI_le, iI_lt, iI_eq, iI_N, iI_Nz, c_0, c_1, c_2, c_3, c_4, c_5, c_6, c_7, c_8, c_9, c_10, c_11, c_12, c_13, c_16, c_20, c_23, c_26, c_30, c_31, c_32, c_37, c_45, c_48, c_57, c_59, c_60, c_63, c_64, c_90, c_91, c_97, c_100, c_108, c_109, c_114, c_119, c_127, c_128, c_200, c_255, c_256, c_999, c_1000, c_2000, c_12345, c_32768, c_65536, of_n0, of_n1, of_n2, of_n3, of_g0, of_g1, of_g2, of_g3, n_0, n_1, n_2, n_3, n_4, t_0, t_1, t_2, t_3, t_4, e0, e1, e2, o_b, if_pos, rvm_rvs]
