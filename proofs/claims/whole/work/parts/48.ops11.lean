/-! how many stand upright as man i sees them (right) -/
def fromB (c : MC) (i j : Nat) : Bool := decide (¬ j = i ∧ (c.a j - c.a i).natAbs ≤ wthn (c.k j) (c.f j))
theorem s_upAt {c : MC} (h : Men c.n c.k c.f c.a) {kind figure lean : Nat → Int32} (hc : CA c.n c.k c.f c.a kind figure lean) {i : Nat} (hi : i < c.n) {m : Nat} (hm : m ≤ 1000) : S_City_isUprightAt (iI i) (iI (m : Nat)) kind figure = some (if m ≤ wthn (c.k i) (c.f i) then 1 else 0) := by
  have hn := h.1
  obtain ⟨a1, a2, a3⟩ := hc i hi
  obtain ⟨b1, b2, b3, b4⟩ := h.2 i hi
  have e4 := s_within b1 b2
  have b5 := within_b (c.k i) (c.f i) b2
  unfold S_City_isUprightAt
  have g1 : ¬ (iI (i : Nat) < 0 ∨ 8 ≤ (iI (i : Nat)).toNatClampNeg) := by
    rw [c_0, iI_N (by omega), iI_lt (by omega) (by omega) (by omega) (by omega)]; omega
  have g2 : ¬ (kind (iI (i : Nat)).toNatClampNeg < 0 ∨ 8 ≤ (kind (iI (i : Nat)).toNatClampNeg).toNatClampNeg) := by
    rw [iI_N (by omega), a1, c_0, iI_N (by omega), iI_lt (by omega) (by omega) (by omega) (by omega)]; omega
  rw [if_neg g1, if_neg g2, iI_N (by omega), a1, a2, iI_N (by omega), e4]
  by_cases hu : m ≤ wthn (c.k i) (c.f i)
  · rw [if_neg (show ¬ (iI (wthn (c.k i) (c.f i) : Nat) < iI (m : Nat)) by rw [iI_lt (by omega) (by omega) (by omega) (by omega)]; omega), if_pos hu]
  · rw [if_pos (show iI (wthn (c.k i) (c.f i) : Nat) < iI (m : Nat) by rw [iI_lt (by omega) (by omega) (by omega) (by omega)]; omega), if_neg hu]
