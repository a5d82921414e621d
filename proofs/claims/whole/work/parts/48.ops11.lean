/-! how many stand upright as man i sees them (right) -/
def fromB (c : MC) (i j : Nat) : Bool := decide (¬ j = i ∧ (c.a j - c.a i).natAbs ≤ wthn (c.k j) (c.f j))
theorem s_upAt {c : MC} (h : Men c.n c.k c.f c.a) {kind figure lean : Nat → Int32} (hc : CA c.n c.k c.f c.a kind figure lean) {i : Nat} (hi : i < c.n) {m : Nat} (hm : m ≤ 1000) : S_City_isUprightAt (iI i) (iI (m : Nat)) kind figure = some (if m ≤ wthn (c.k i) (c.f i) then 1 else 0) := by
  have hn := h.1
  obtain ⟨a1, a2, a3⟩ := hc i hi
  obtain ⟨b1, b2, b3, b4⟩ := h.2 i hi
  have e4 := s_within b1 b2
  have b5 := within_b (c.k i) (c.f i) b2
  unfold S_City_isUprightAt
  have g1 : ¬ (iI (i : Nat) < 0 ∨ 8 ≤ (iI (i : Nat)).toNatClampNeg) := by
    rw [c_0, iI_N (by omega), iI_lt (by omega) (by omega) (by omega) (by omega)]; omega
  have g2 : ¬ (kind (iI (i : Nat)).toNatClampNeg < 0 ∨ 8 ≤ (kind (iI (i : Nat)).toNatClampNeg).toNatClampNeg) := by
    rw [iI_N (by omega), a1, c_0, iI_N (by omega), iI_lt (by omega) (by omega) (by omega) (by omega)]; omega
  rw [if_neg g1, if_neg g2, iI_N (by omega), a1, a2, iI_N (by omega), e4]
  by_cases hu : m ≤ wthn (c.k i) (c.f i)
  · rw [if_neg (show ¬ (iI (wthn (c.k i) (c.f i) : Nat) < iI (m : Nat)) by rw [iI_lt (by omega) (by omega) (by omega) (by omega)]; omega), if_pos hu]
  · rw [if_pos (show iI (wthn (c.k i) (c.f i) : Nat) < iI (m : Nat) by rw [iI_lt (by omega) (by omega) (by omega) (by omega)]; omega), if_neg hu]
theorem s_from {c : MC} (h : Men c.n c.k c.f c.a) {kind figure lean : Nat → Int32} (hc : CA c.n c.k c.f c.a kind figure lean) {i : Nat} (hi : i < c.n) : S_City_uprightFrom (iI i) (iI c.n) kind figure lean = some (iI (cnt (fromB c i) c.n : Nat)) := by
  have hn := h.1
  unfold S_City_uprightFrom
  have z : S_City_uprightFrom_L4 (iI i) (iI c.n) kind figure lean lfu (iI (cnt (fromB c i) 0 : Nat)) (iI ((0 : Nat) : Int)) = some (iI (cnt (fromB c i) c.n : Nat)) := by
    refine for_g (fun g j => S_City_uprightFrom_L4 (iI i) (iI c.n) kind figure lean g (iI (cnt (fromB c i) j : Nat)) (iI j)) c.n _ (fun g j hj => ?_) (fun g => ?_) lfu (by unfold lfu; omega)
    · obtain ⟨a1, a2, a3⟩ := hc j hj
      obtain ⟨d1, d2, d3⟩ := hc i hi
      obtain ⟨b1, b2, b3, b4⟩ := h.2 j hj
      obtain ⟨f1, f2, f3, f4⟩ := h.2 i hi
      have g0 : ¬ iI (c.n : Nat) ≤ iI (j : Nat) := fun y => absurd ((iI_le (by omega) (by omega) (by omega) (by omega)).mp y) (by omega)
      have g1 : ¬ (iI (j : Nat) < 0 ∨ 8 ≤ (iI (j : Nat)).toNatClampNeg) := by
        rw [c_0, iI_N (by omega), iI_lt (by omega) (by omega) (by omega) (by omega)]; omega
      have g2 : ¬ (iI (i : Nat) < 0 ∨ 8 ≤ (iI (i : Nat)).toNatClampNeg) := by
        rw [c_0, iI_N (by omega), iI_lt (by omega) (by omega) (by omega) (by omega)]; omega
      have e5 := s_abs (z := c.a j - c.a i) (by omega) (by omega)
      have e6 := s_upAt h hc hj (m := (c.a j - c.a i).natAbs) (by omega)
      show S_City_uprightFrom_L4 _ _ _ _ _ (g + 1) _ _ = _
      rw [S_City_uprightFrom_L4, if_neg g0, if_neg g1, if_neg g2, iI_N (show j < 2147483648 by omega), iI_N (show i < 2147483648 by omega), a3, d3, iI_sub, e5, e6, o_b, c_1, iI_add, iI_add]
      by_cases hji : j = i
      · have hb : fromB c i j = false := decide_eq_false (fun y => y.1 hji)
        rw [if_pos (show iI (j : Nat) = iI (i : Nat) by rw [hji])]
        simp only [cnt, hb, Bool.false_eq_true, if_false]
        rfl
      · rw [if_neg (ne_iI (by omega) (by omega) (by omega) (by omega) (by omega))]
        by_cases hu : (c.a j - c.a i).natAbs ≤ wthn (c.k j) (c.f j)
        · have hb : fromB c i j = true := decide_eq_true ⟨hji, hu⟩
          rw [if_pos hu, if_neg (by decide)]
          simp only [cnt, hb, if_true]
          rfl
        · have hb : fromB c i j = false := decide_eq_false (fun y => hu y.2)
          rw [if_neg hu, if_pos (by decide)]
          simp only [cnt, hb, Bool.false_eq_true, if_false]
          rfl
    · have g0 : iI (c.n : Nat) ≤ iI (c.n : Nat) := (iI_le (by omega) (by omega) (by omega) (by omega)).mpr (Int.le_refl _)
      show S_City_uprightFrom_L4 _ _ _ _ _ (g + 1) _ _ = _
      rw [S_City_uprightFrom_L4, if_pos g0]
  exact z
def froN (c : MC) (i : Nat) : Nat := cnt (fromB c i) c.n
theorem s_right1 {c : MC} (h : Men c.n c.k c.f c.a) {kind figure lean : Nat → Int32} (hc : CA c.n c.k c.f c.a kind figure lean) : S_City_rightOne (iI c.n) kind figure lean = some (iI (if c.n = 0 then -4 else (bo (froN c) c.n : Nat))) := by
  have hn := h.1
  unfold S_City_rightOne
  have z : S_City_rightOne_L7 (iI c.n) kind figure lean lfu (iI (if (0 : Nat) = 0 then -4 else (bo (froN c) 0 : Nat))) (iI (if (0 : Nat) = 0 then -1 else (froN c (bo (froN c) 0) : Nat))) (iI ((0 : Nat) : Int)) = some (iI (if c.n = 0 then -4 else (bo (froN c) c.n : Nat))) := by
    refine for_g (fun g j => S_City_rightOne_L7 (iI c.n) kind figure lean g (iI (if j = 0 then -4 else (bo (froN c) j : Nat))) (iI (if j = 0 then -1 else (froN c (bo (froN c) j) : Nat))) (iI j)) c.n _ (fun g j hj => ?_) (fun g => ?_) lfu (by unfold lfu; omega)
    · have e1 : S_City_uprightFrom (iI j) (iI c.n) kind figure lean = some (iI (froN c j : Nat)) := s_from h hc hj
      have b1 : froN c j ≤ c.n := cnt_le _ _
      have b2 : froN c (bo (froN c) j) ≤ c.n := cnt_le _ _
      have g0 : ¬ iI (c.n : Nat) ≤ iI (j : Nat) := fun y => absurd ((iI_le (by omega) (by omega) (by omega) (by omega)).mp y) (by omega)
      have h1 : ¬ j + 1 = 0 := by omega
      show S_City_rightOne_L7 _ _ _ _ (g + 1) _ _ _ = _
      rw [S_City_rightOne_L7, if_neg g0, e1, o_b, c_1, iI_add, if_neg h1, if_neg h1]
      by_cases h0 : j = 0
      · subst h0
        rw [if_pos rfl, if_pos rfl, if_neg (fun y => absurd ((iI_le (by omega) (by omega) (by omega) (by omega)).mp y) (by omega))]
        rfl
      · rw [if_neg h0, if_neg h0]
        by_cases hcc : froN c (bo (froN c) j) < froN c j
        · have e3 : bo (froN c) (j + 1) = j := by simp only [bo]; rw [if_neg h0, if_pos hcc]
          rw [if_neg (fun y => absurd ((iI_le (by omega) (by omega) (by omega) (by omega)).mp y) (by omega)), e3]
          rfl
        · have e3 : bo (froN c) (j + 1) = bo (froN c) j := by simp only [bo]; rw [if_neg h0, if_neg hcc]
          rw [if_pos ((iI_le (by omega) (by omega) (by omega) (by omega)).mpr (by omega)), e3]
          rfl
    · have g0 : iI (c.n : Nat) ≤ iI (c.n : Nat) := (iI_le (by omega) (by omega) (by omega) (by omega)).mpr (Int.le_refl _)
      show S_City_rightOne_L7 _ _ _ _ (g + 1) _ _ _ = _
      rw [S_City_rightOne_L7, if_pos g0]
  rw [if_pos rfl, if_pos rfl] at z
  rw [c_4, c_1, iI_neg, iI_neg]
  exact z
