/-! the reference's city in one row -/
theorem of_e {i : Nat} (w : Int) : S_MD_of (iI i) (iI w) = iI (5 + 4 * (i : Int) + w) := by
  unfold S_MD_of
  rw [c_5, c_4, iI_mul, iI_add, iI_add]
theorem of_n0 {i : Nat} (h : i < 8) : (S_MD_of (iI i) (iI 0)).toNatClampNeg = 5 + 4 * i := by rw [of_e, iI_Nz (by omega) (by omega)]; omega
theorem of_n1 {i : Nat} (h : i < 8) : (S_MD_of (iI i) (iI 1)).toNatClampNeg = 6 + 4 * i := by rw [of_e, iI_Nz (by omega) (by omega)]; omega
theorem of_n2 {i : Nat} (h : i < 8) : (S_MD_of (iI i) (iI 2)).toNatClampNeg = 7 + 4 * i := by rw [of_e, iI_Nz (by omega) (by omega)]; omega
theorem of_n3 {i : Nat} (h : i < 8) : (S_MD_of (iI i) (iI 3)).toNatClampNeg = 8 + 4 * i := by rw [of_e, iI_Nz (by omega) (by omega)]; omega
theorem of_g {i : Nat} (h : i < 8) {w : Int} (h0 : 0 ≤ w) (h3 : w ≤ 3) (m : Nat) (hm : m = (5 + 4 * (i : Int) + w).toNat) : (S_MD_of (iI i) (iI w) < iI 0 ∨ 37 ≤ m) = False := by
  rw [of_e, iI_lt (by omega) (by omega) (by omega) (by omega)]
  apply propext
  constructor
  · omega
  · exact False.elim
theorem of_g0 {i : Nat} (h : i < 8) : (S_MD_of (iI i) (iI 0) < iI 0 ∨ 37 ≤ 5 + 4 * i) = False := of_g h (by omega) (by omega) _ (by omega)
theorem of_g1 {i : Nat} (h : i < 8) : (S_MD_of (iI i) (iI 1) < iI 0 ∨ 37 ≤ 6 + 4 * i) = False := of_g h (by omega) (by omega) _ (by omega)
theorem of_g2 {i : Nat} (h : i < 8) : (S_MD_of (iI i) (iI 2) < iI 0 ∨ 37 ≤ 7 + 4 * i) = False := of_g h (by omega) (by omega) _ (by omega)
theorem of_g3 {i : Nat} (h : i < 8) : (S_MD_of (iI i) (iI 3) < iI 0 ∨ 37 ≤ 8 + 4 * i) = False := of_g h (by omega) (by omega) _ (by omega)
theorem t_0 : Int.toNat 0 = 0 := by decide
theorem t_1 : Int.toNat 1 = 1 := by decide
theorem t_2 : Int.toNat 2 = 2 := by decide
theorem t_3 : Int.toNat 3 = 3 := by decide
theorem t_4 : Int.toNat 4 = 4 := by decide
theorem n_0 : (iI 0).toNatClampNeg = 0 := by decide +kernel
theorem n_1 : (iI 1).toNatClampNeg = 1 := by decide +kernel
theorem n_2 : (iI 2).toNatClampNeg = 2 := by decide +kernel
theorem n_3 : (iI 3).toNatClampNeg = 3 := by decide +kernel
theorem n_4 : (iI 4).toNatClampNeg = 4 := by decide +kernel
theorem m_sized {z : Int} (h1 : -1000 ≤ z) (h2 : z ≤ 1000) : S_MD_sized (iI z) = iI (z.natAbs : Nat) := by
  unfold S_MD_sized
  simp (disch := omega) only [c_0, iI_le, iI_neg]
  split
  · rw [show ((z.natAbs : Nat) : Int) = z by omega]
  · rw [show ((z.natAbs : Nat) : Int) = -z by omega]
theorem m_sign {z : Int} (h1 : -1000 ≤ z) (h2 : z ≤ 1000) : S_MD_signOf (iI z) = iI (if z ≤ 0 then (if 0 ≤ z then 0 else -1) else 1) := by
  unfold S_MD_signOf
  simp (disch := omega) only [c_0, c_1, iI_neg, iI_le]
  by_cases h3 : z ≤ 0
  · by_cases h4 : 0 ≤ z
    · simp only [if_pos h3, if_pos h4]
    · simp only [if_pos h3, if_neg h4]
  · simp only [if_neg h3]
theorem m_towards (x t m : Int) (hx : -200 ≤ x) (hx2 : x ≤ 200) (ht : -200 ≤ t) (ht2 : t ≤ 200) (hm : 0 ≤ m) (hm2 : m ≤ 9) : S_MD_towards (iI x) (iI t) (iI m) = iI (stepTo x t m) := by
  unfold S_MD_towards S_MD_least
  rw [iI_sub, m_sign (by omega) (by omega), m_sized (by omega) (by omega)]
  simp (disch := omega) only [iI_le]
  unfold stepTo
  by_cases h1 : t - x > m
  · rw [if_pos h1, if_neg (by omega), if_neg (by omega), iI_mul, Int.one_mul]
  · rw [if_neg h1]
    by_cases h2 : t - x < -m
    · rw [if_pos h2, if_pos (by omega), if_neg (by omega), if_neg (by omega), iI_mul, Int.neg_one_mul]
    · rw [if_neg h2]
      have h5 : ((t - x).natAbs : Int) ≤ m := by omega
      by_cases h3 : t - x ≤ 0
      · rw [if_pos h3]
        by_cases h4 : 0 ≤ t - x
        · rw [if_pos h4, if_pos h5, iI_mul, Int.zero_mul, show t - x = 0 by omega]
        · rw [if_neg h4, if_pos h5, iI_mul, Int.neg_one_mul, show -((((t - x).natAbs : Nat)) : Int) = t - x by omega]
      · rw [if_neg h3, if_pos h5, iI_mul, Int.one_mul, show ((((t - x).natAbs : Nat)) : Int) = t - x by omega]
theorem k_iI {k : Nat} (hk : k < 8) {P : Nat → Prop} (h0 : P 0) (h1 : P 1) (h2 : P 2) (h3 : P 3) (h4 : P 4) (h5 : P 5) (h6 : P 6) (h7 : P 7) : P k := by
  rcases k_8 hk with rfl | rfl | rfl | rfl | rfl | rfl | rfl | rfl <;> assumption
theorem m_moves {k f : Nat} {x mean : Int} {dy : Nat} (hk : k < 8) (hf : f ≤ 9) (hx : -45 ≤ x) (hx2 : x ≤ 45) (hm : -45 ≤ mean) (hm2 : mean ≤ 45) (hd : dy < 1000000) : S_MD_movesBy (iI k) (iI f) (iI x) (iI mean) (iI dy) = iI (more k f x mean dy) := by
  have e3 := s_f3 f hf
  have ep := s_par dy hd
  have t1 := m_towards x mean 1 (by omega) (by omega) (by omega) (by omega) (by omega) (by omega)
  have t2 := m_towards x mean 2 (by omega) (by omega) (by omega) (by omega) (by omega) (by omega)
  have t3 := m_towards x 0 1 (by omega) (by omega) (by omega) (by omega) (by omega) (by omega)
  have t4 := m_towards x 0 5 (by omega) (by omega) (by omega) (by omega) (by omega) (by omega)
  rcases k_8 hk with rfl | rfl | rfl | rfl | rfl | rfl | rfl | rfl
  · show S_MD_towards (iI x) (iI mean) 1 = _
    rw [c_1, t1]; rfl
  · rfl
  · show S_MD_towards (iI x) 0 1 = _
    rw [c_0, c_1, t3]; rfl
  · show S_MD_towards (iI x) (iI mean) 2 = _
    rw [c_2, t2]; rfl
  · show S_MD_awayBy (iI x) (iI f / 3 + 1) = _
    unfold S_MD_awayBy more
    rw [c_1, c_3, e3]
    simp (disch := omega) only [c_0, iI_le, iI_neg]
    split <;> rfl
  · show S_MD_towards (iI x) 0 5 = _
    rw [c_0, c_5, t4]; rfl
  · show S_MD_awayBy (iI x) ((2 : Int32) * (iI f / 3 + 1)) = _
    unfold S_MD_awayBy more
    rw [c_1, c_2, c_3, e3]
    simp (disch := omega) only [c_0, iI_le, iI_neg, iI_mul]
    split <;> (first | rfl | (congr 1; omega))
  · show (if (iI dy - iI dy / 2 * 2) = 0 then S_MD_towards (iI x) (iI mean) 2 else 0) = _
    simp only [c_2, c_0, ep, t2]
    unfold more
    split <;> rfl
theorem m_within {k f : Nat} (hk : k < 8) (hf : f ≤ 9) : S_MD_uprightBy (iI k) (iI f) = iI (wthn k f : Nat) := by
  rcases k_8 hk with rfl | rfl | rfl | rfl | rfl | rfl | rfl | rfl
  · rfl
  · rfl
  · rfl
  · rfl
  · show (2 : Int32) * iI f = iI ((2 * f : Nat))
    rw [c_2, iI_mul]; rfl
  · rfl
  · show (2 : Int32) * iI f = iI ((2 * f : Nat))
    rw [c_2, iI_mul]; rfl
  · rfl
theorem m_held {z : Int} (h1 : -1000 ≤ z) (h2 : z ≤ 1000) : S_MD_held (iI z) = iI (clamp z) := by
  unfold S_MD_held clamp
  simp (disch := omega) only [c_45, iI_neg, iI_le]
  by_cases h3 : z < -45
  · rw [if_neg (by omega), if_pos h3]
  · rw [if_pos (by omega), if_neg h3]
    by_cases h4 : 45 < z
    · rw [if_neg (by omega), if_pos h4]
    · rw [if_pos (by omega), if_neg h4]
theorem b_sh1 : ∀ j, j < 8 → ∀ x, x < 256 → ((iI (x : Nat) >>> (iI (j : Nat) &&& iI 31)) &&& iI 1) = iI ((if x.testBit j then 1 else 0 : Nat)) := by decide +kernel
theorem m_bits {x : Nat} (hx : x < 256) : S_MD_bits (iI x) = some (iI (pc x : Nat)) := by
  unfold S_MD_bits
  refine for_g (fun g j => S_MD_bits_L4 (iI x) g (iI (cnt (fun i => x.testBit i) j : Nat)) (iI j)) 8 _ (fun g j hj => ?_) (fun g => ?_) lfu (by unfold lfu; omega)
  · have e := b_sh1 j hj x hx
    have hb := cnt_le (fun i => x.testBit i) j
    show S_MD_bits_L4 _ (g + 1) _ _ = _
    rw [S_MD_bits_L4]
    simp (disch := omega) only [Int.toNat_natCast, if_true, if_false, iI_add, iI_sub, iI_mul, iI_neg, iI_le, iI_lt, iI_eq, iI_N, iI_Nz, c_0, c_1, c_2, c_3, c_4, c_5, c_6, c_7, c_8, c_9, c_10, c_11, c_12, c_13, c_16, c_20, c_23, c_26, c_30, c_31, c_32, c_37, c_45, c_48, c_57, c_59, c_60, c_63, c_64, c_90, c_91, c_97, c_100, c_108, c_109, c_114, c_119, c_127, c_128, c_200, c_255, c_256, c_999, c_1000, c_2000, c_12345, c_32768, c_65536, e, cnt, if_neg, Int.natCast_add]
    rfl
  · show S_MD_bits_L4 _ (g + 1) _ _ = _
    rw [S_MD_bits_L4]
    simp (disch := omega) only [Int.toNat_natCast, if_true, if_false, iI_add, iI_sub, iI_mul, iI_neg, iI_le, iI_lt, iI_eq, iI_N, iI_Nz, c_0, c_1, c_2, c_3, c_4, c_5, c_6, c_7, c_8, c_9, c_10, c_11, c_12, c_13, c_16, c_20, c_23, c_26, c_30, c_31, c_32, c_37, c_45, c_48, c_57, c_59, c_60, c_63, c_64, c_90, c_91, c_97, c_100, c_108, c_109, c_114, c_119, c_127, c_128, c_200, c_255, c_256, c_999, c_1000, c_2000, c_12345, c_32768, c_65536, Int.natCast_add, Int.natCast_mul, Int.cast_ofNat_Int, Int.natCast_succ, if_pos, if_neg]
    rfl
/-- reading a row of the reference -/
theorem MRow.at {c : MC} {q : Nat → Int32} (h : MRow c q) {i : Nat} (hi : i < c.n) : q (5 + 4 * i) = iI (c.k i) ∧ q (6 + 4 * i) = iI (c.f i) ∧ q (7 + 4 * i) = iI (c.a i) ∧ q (8 + 4 * i) = iI (if c.p i then 1 else 0) := h.2.2.2.2.2 i hi
def MC.wa (c : MC) (a : Nat → Int) : MC := (c.n, c.k, c.f, a, c.p, c.pl, c.sw, c.cr, c.dy)
theorem MRow.setA {c : MC} {a b : Nat → Int} {q : Nat → Int32} {j : Nat} (h : MRow (c.wa (mix a b j)) q) {v : Int32} (hv : v = iI (a j)) : MRow (c.wa (mix a b (j + 1))) (upd q (7 + 4 * j) v) := by
  obtain ⟨h0, h1, h2, h3, h4, h5⟩ := h
  refine ⟨by rw [upd_ne _ _ (by omega)]; exact h0, by rw [upd_ne _ _ (by omega)]; exact h1, by rw [upd_ne _ _ (by omega)]; exact h2, by rw [upd_ne _ _ (by omega)]; exact h3, by rw [upd_ne _ _ (by omega)]; exact h4, fun i hi => ?_⟩
  obtain ⟨a1, a2, a3, a4⟩ := h5 i hi
  rw [upd_ne _ _ (by omega), upd_ne _ _ (by omega), upd_ne (k := 7 + 4 * j) (j := 8 + 4 * i) _ _ (by omega)]
  refine ⟨a1, a2, ?_, a4⟩
  by_cases hij : i = j
  · subst hij
    rw [upd_same, hv]
    show _ = iI (mix a b (i + 1) i)
    simp [mix]
  · rw [upd_ne _ _ (by omega), a3]
    have : (i < j + 1) = (i < j) := propext ⟨fun z => by omega, fun z => by omega⟩
    show iI (mix a b j i) = iI (mix a b (j + 1) i)
    simp [mix, this]
theorem MRow.ext {c d : MC} {q : Nat → Int32} (h : MRow c q) (hn : c.n = d.n) (hdy : c.dy = d.dy) (hpl : c.pl = d.pl) (hsw : c.sw = d.sw) (hcr : c.cr = d.cr) (hi : ∀ i, i < c.n → c.k i = d.k i ∧ c.f i = d.f i ∧ c.a i = d.a i ∧ c.p i = d.p i) : MRow d q := by
  obtain ⟨h0, h1, h2, h3, h4, h5⟩ := h
  refine ⟨by rw [h0, hn], by rw [h1, hdy], by rw [h2, hpl], by rw [h3, hsw], by rw [h4, hcr], fun i hi2 => ?_⟩
  obtain ⟨a1, a2, a3, a4⟩ := h5 i (by rw [hn]; exact hi2)
  obtain ⟨b1, b2, b3, b4⟩ := hi i (by rw [hn]; exact hi2)
  exact ⟨by rw [a1, b1], by rw [a2, b2], by rw [a3, b3], by rw [a4, b4]⟩
theorem MRow.set2 {c : MC} {q : Nat → Int32} (h : MRow c q) (v : Nat) : MRow (c.n, c.k, c.f, c.a, c.p, v, c.sw, c.cr, c.dy) (upd q 2 (iI v)) := by
  obtain ⟨h0, h1, h2, h3, h4, h5⟩ := h
  refine ⟨by rw [upd_ne _ _ (by omega)]; exact h0, by rw [upd_ne _ _ (by omega)]; exact h1, by rw [upd_same]; rfl, by rw [upd_ne _ _ (by omega)]; exact h3, by rw [upd_ne _ _ (by omega)]; exact h4, fun i hi => ?_⟩
  rw [upd_ne _ _ (by omega), upd_ne _ _ (by omega), upd_ne _ _ (by omega), upd_ne _ _ (by omega)]
  exact h5 i hi
theorem MRow.set3 {c : MC} {q : Nat → Int32} (h : MRow c q) (v : Nat) : MRow (c.n, c.k, c.f, c.a, c.p, c.pl, v, c.cr, c.dy) (upd q 3 (iI v)) := by
  obtain ⟨h0, h1, h2, h3, h4, h5⟩ := h
  refine ⟨by rw [upd_ne _ _ (by omega)]; exact h0, by rw [upd_ne _ _ (by omega)]; exact h1, by rw [upd_ne _ _ (by omega)]; exact h2, by rw [upd_same]; rfl, by rw [upd_ne _ _ (by omega)]; exact h4, fun i hi => ?_⟩
  rw [upd_ne _ _ (by omega), upd_ne _ _ (by omega), upd_ne _ _ (by omega), upd_ne _ _ (by omega)]
  exact h5 i hi
theorem MRow.set4 {c : MC} {q : Nat → Int32} (h : MRow c q) (v : Nat) : MRow (c.n, c.k, c.f, c.a, c.p, c.pl, c.sw, v, c.dy) (upd q 4 (iI v)) := by
  obtain ⟨h0, h1, h2, h3, h4, h5⟩ := h
  refine ⟨by rw [upd_ne _ _ (by omega)]; exact h0, by rw [upd_ne _ _ (by omega)]; exact h1, by rw [upd_ne _ _ (by omega)]; exact h2, by rw [upd_ne _ _ (by omega)]; exact h3, by rw [upd_same]; rfl, fun i hi => ?_⟩
  rw [upd_ne _ _ (by omega), upd_ne _ _ (by omega), upd_ne _ _ (by omega), upd_ne _ _ (by omega)]
  exact h5 i hi
theorem MRow.set1 {c : MC} {q : Nat → Int32} (h : MRow c q) (v : Nat) : MRow (c.n, c.k, c.f, c.a, c.p, c.pl, c.sw, c.cr, v) (upd q 1 (iI v)) := by
  obtain ⟨h0, h1, h2, h3, h4, h5⟩ := h
  refine ⟨by rw [upd_ne _ _ (by omega)]; exact h0, by rw [upd_same]; rfl, by rw [upd_ne _ _ (by omega)]; exact h2, by rw [upd_ne _ _ (by omega)]; exact h3, by rw [upd_ne _ _ (by omega)]; exact h4, fun i hi => ?_⟩
  rw [upd_ne _ _ (by omega), upd_ne _ _ (by omega), upd_ne _ _ (by omega), upd_ne _ _ (by omega)]
  exact h5 i hi
theorem m_sum {c : MC} (h : Men c.n c.k c.f c.a) {q : Nat → Int32} (hq : MRow c q) : S_MD_leanSum q = some (iI (sumA c.a c.n)) := by
  unfold S_MD_leanSum
  have hn := h.1
  have e0 := hq.1
  refine for_g (fun g j => S_MD_leanSum_L4 q g (iI (sumA c.a j)) (iI j)) c.n _ (fun g j hj => ?_) (fun g => ?_) lfu (by unfold lfu; omega)
  · obtain ⟨-, -, e3, -⟩ := hq.at hj
    show S_MD_leanSum_L4 q (g + 1) _ _ = _
    rw [S_MD_leanSum_L4]
    simp (disch := omega) only [Int.toNat_natCast, if_true, if_false, iI_add, iI_sub, iI_mul, iI_neg, iI_le, iI_lt, iI_eq, iI_N, iI_Nz, c_0, c_1, c_2, c_3, c_4, c_5, c_6, c_7, c_8, c_9, c_10, c_11, c_12, c_13, c_16, c_20, c_23, c_26, c_30, c_31, c_32, c_37, c_45, c_48, c_57, c_59, c_60, c_63, c_64, c_90, c_91, c_97, c_100, c_108, c_109, c_114, c_119, c_127, c_128, c_200, c_255, c_256, c_999, c_1000, c_2000, c_12345, c_32768, c_65536, of_n0, of_n1, of_n2, of_n3, of_g0, of_g1, of_g2, of_g3, n_0, n_1, n_2, n_3, n_4, t_0, t_1, t_2, t_3, t_4, e0, e3, sumA, if_pos, if_neg, Int.natCast_succ]
  · show S_MD_leanSum_L4 q (g + 1) _ _ = _
    rw [S_MD_leanSum_L4]
    simp (disch := omega) only [Int.toNat_natCast, if_true, if_false, iI_add, iI_sub, iI_mul, iI_neg, iI_le, iI_lt, iI_eq, iI_N, iI_Nz, c_0, c_1, c_2, c_3, c_4, c_5, c_6, c_7, c_8, c_9, c_10, c_11, c_12, c_13, c_16, c_20, c_23, c_26, c_30, c_31, c_32, c_37, c_45, c_48, c_57, c_59, c_60, c_63, c_64, c_90, c_91, c_97, c_100, c_108, c_109, c_114, c_119, c_127, c_128, c_200, c_255, c_256, c_999, c_1000, c_2000, c_12345, c_32768, c_65536, of_n0, of_n1, of_n2, of_n3, of_g0, of_g1, of_g2, of_g3, n_0, n_1, n_2, n_3, n_4, t_0, t_1, t_2, t_3, t_4, e0, if_pos]
theorem m_upBy {c : MC} (h : Men c.n c.k c.f c.a) {q : Nat → Int32} (hq : MRow c q) {j : Nat} (hj : j < c.n) {z : Int} (h1 : -1000 ≤ z) (h2 : z ≤ 1000) : S_MD_isUprightBy (iI j) (iI z) q = some (iI (if z.natAbs ≤ wthn (c.k j) (c.f j) then 1 else 0)) := by
  have hn := h.1
  obtain ⟨e1, e2, -, -⟩ := hq.at hj
  obtain ⟨b1, b2, b3, b4⟩ := h.2 j hj
  have e4 := m_within b1 b2
  have b5 := within_b (c.k j) (c.f j) b2
  have e5 := m_sized h1 h2
  unfold S_MD_isUprightBy
  by_cases hu : z.natAbs ≤ wthn (c.k j) (c.f j)
  · simp (disch := omega) only [Int.toNat_natCast, if_true, if_false, iI_add, iI_sub, iI_mul, iI_neg, iI_le, iI_lt, iI_eq, iI_N, iI_Nz, c_0, c_1, c_2, c_3, c_4, c_5, c_6, c_7, c_8, c_9, c_10, c_11, c_12, c_13, c_16, c_20, c_23, c_26, c_30, c_31, c_32, c_37, c_45, c_48, c_57, c_59, c_60, c_63, c_64, c_90, c_91, c_97, c_100, c_108, c_109, c_114, c_119, c_127, c_128, c_200, c_255, c_256, c_999, c_1000, c_2000, c_12345, c_32768, c_65536, of_n0, of_n1, of_n2, of_n3, of_g0, of_g1, of_g2, of_g3, n_0, n_1, n_2, n_3, n_4, t_0, t_1, t_2, t_3, t_4, e1, e2, e4, e5, if_pos, if_neg]
  · simp (disch := omega) only [Int.toNat_natCast, if_true, if_false, iI_add, iI_sub, iI_mul, iI_neg, iI_le, iI_lt, iI_eq, iI_N, iI_Nz, c_0, c_1, c_2, c_3, c_4, c_5, c_6, c_7, c_8, c_9, c_10, c_11, c_12, c_13, c_16, c_20, c_23, c_26, c_30, c_31, c_32, c_37, c_45, c_48, c_57, c_59, c_60, c_63, c_64, c_90, c_91, c_97, c_100, c_108, c_109, c_114, c_119, c_127, c_128, c_200, c_255, c_256, c_999, c_1000, c_2000, c_12345, c_32768, c_65536, of_n0, of_n1, of_n2, of_n3, of_g0, of_g1, of_g2, of_g3, n_0, n_1, n_2, n_3, n_4, t_0, t_1, t_2, t_3, t_4, e1, e2, e4, e5, if_pos, if_neg]
theorem m_upright {c : MC} (h : Men c.n c.k c.f c.a) {q : Nat → Int32} (hq : MRow c q) : S_MD_upright q = some (iI (setOf (upr c.k c.f c.a) c.n : Nat)) := by
  unfold S_MD_upright
  have hn := h.1
  have e0 := hq.1
  refine for_g (fun g j => S_MD_upright_L4 q g (iI (setOf (upr c.k c.f c.a) j : Nat)) (iI j)) c.n _ (fun g j hj => ?_) (fun g => ?_) lfu (by unfold lfu; omega)
  · obtain ⟨-, -, e3, -⟩ := hq.at hj
    obtain ⟨b1, b2, b3, b4⟩ := h.2 j hj
    have e4 := m_upBy h hq hj (z := c.a j) (by omega) (by omega)
    have e6 := b_or j (by omega) _ (setOf_lt (upr c.k c.f c.a) j)
    have e7 := b_orr (setOf (upr c.k c.f c.a) j) 0
    show S_MD_upright_L4 q (g + 1) _ _ = _
    rw [S_MD_upright_L4]
    by_cases hu : (c.a j).natAbs ≤ wthn (c.k j) (c.f j)
    · have hu2 : upr c.k c.f c.a j = true := decide_eq_true hu
      rw [if_pos hu] at e4
      simp (disch := omega) only [Int.toNat_natCast, if_true, if_false, iI_add, iI_sub, iI_mul, iI_neg, iI_le, iI_lt, iI_eq, iI_N, iI_Nz, c_0, c_1, c_2, c_3, c_4, c_5, c_6, c_7, c_8, c_9, c_10, c_11, c_12, c_13, c_16, c_20, c_23, c_26, c_30, c_31, c_32, c_37, c_45, c_48, c_57, c_59, c_60, c_63, c_64, c_90, c_91, c_97, c_100, c_108, c_109, c_114, c_119, c_127, c_128, c_200, c_255, c_256, c_999, c_1000, c_2000, c_12345, c_32768, c_65536, of_n0, of_n1, of_n2, of_n3, of_g0, of_g1, of_g2, of_g3, n_0, n_1, n_2, n_3, n_4, t_0, t_1, t_2, t_3, t_4, e0, e3, e4, e6, Option.bind_some, setOf, hu2, if_true, if_pos, if_neg, Int.natCast_succ]
    · have hu2 : upr c.k c.f c.a j = false := decide_eq_false hu
      rw [if_neg hu] at e4
      have e8 : iI (setOf (upr c.k c.f c.a) j : Nat) ||| iI 0 = iI (setOf (upr c.k c.f c.a) j : Nat) := by
        have z := e7
        rw [Nat.or_zero] at z
        exact z
      simp (disch := omega) only [Int.toNat_natCast, if_true, if_false, iI_add, iI_sub, iI_mul, iI_neg, iI_le, iI_lt, iI_eq, iI_N, iI_Nz, c_0, c_1, c_2, c_3, c_4, c_5, c_6, c_7, c_8, c_9, c_10, c_11, c_12, c_13, c_16, c_20, c_23, c_26, c_30, c_31, c_32, c_37, c_45, c_48, c_57, c_59, c_60, c_63, c_64, c_90, c_91, c_97, c_100, c_108, c_109, c_114, c_119, c_127, c_128, c_200, c_255, c_256, c_999, c_1000, c_2000, c_12345, c_32768, c_65536, of_n0, of_n1, of_n2, of_n3, of_g0, of_g1, of_g2, of_g3, n_0, n_1, n_2, n_3, n_4, t_0, t_1, t_2, t_3, t_4, e0, e3, e4, e8, Option.bind_some, setOf, hu2, Bool.false_eq_true, if_false, Nat.add_zero, if_pos, if_neg, Int.natCast_succ]
  · show S_MD_upright_L4 q (g + 1) _ _ = _
    rw [S_MD_upright_L4]
    simp (disch := omega) only [Int.toNat_natCast, if_true, if_false, iI_add, iI_sub, iI_mul, iI_neg, iI_le, iI_lt, iI_eq, iI_N, iI_Nz, c_0, c_1, c_2, c_3, c_4, c_5, c_6, c_7, c_8, c_9, c_10, c_11, c_12, c_13, c_16, c_20, c_23, c_26, c_30, c_31, c_32, c_37, c_45, c_48, c_57, c_59, c_60, c_63, c_64, c_90, c_91, c_97, c_100, c_108, c_109, c_114, c_119, c_127, c_128, c_200, c_255, c_256, c_999, c_1000, c_2000, c_12345, c_32768, c_65536, of_n0, of_n1, of_n2, of_n3, of_g0, of_g1, of_g2, of_g3, n_0, n_1, n_2, n_3, n_4, t_0, t_1, t_2, t_3, t_4, e0, if_pos]
