/-! man -/
theorem s_isUp {c : MC} (h : Men c.n c.k c.f c.a) {kind figure lean : Nat → Int32} (hc : CA c.n c.k c.f c.a kind figure lean) {i : Nat} (hi : i < c.n) : S_City_isUpright (iI i) kind figure lean = some (iI (if upr c.k c.f c.a i then 1 else 0)) := by
  have hn := h.1
  have e1 := s_far hn hc.la h.ab hi
  obtain ⟨a1, a2, a3⟩ := hc i hi
  obtain ⟨b1, b2, b3, b4⟩ := h.2 i hi
  have e4 := s_within b1 b2
  have b5 := within_b (c.k i) (c.f i) b2
  unfold S_City_isUpright S_City_isUprightAt
  rw [e1, o_b]
  have g1 : ¬ (iI (i : Nat) < 0 ∨ 8 ≤ (iI (i : Nat)).toNatClampNeg) := by
    rw [c_0, iI_N (by omega), iI_lt (by omega) (by omega) (by omega) (by omega)]; omega
  have g2 : ¬ (kind (iI (i : Nat)).toNatClampNeg < 0 ∨ 8 ≤ (kind (iI (i : Nat)).toNatClampNeg).toNatClampNeg) := by
    rw [iI_N (by omega), a1, c_0, iI_N (by omega), iI_lt (by omega) (by omega) (by omega) (by omega)]; omega
  rw [if_neg g1, if_neg g2, iI_N (by omega), a1, a2, iI_N (by omega), e4]
  by_cases hu : (c.a i).natAbs ≤ wthn (c.k i) (c.f i)
  · have h2 : upr c.k c.f c.a i = true := decide_eq_true hu
    rw [if_neg (show ¬ (iI (wthn (c.k i) (c.f i) : Nat) < iI ((c.a i).natAbs : Nat)) by rw [iI_lt (by omega) (by omega) (by omega) (by omega)]; omega), o_b, h2]
    rfl
  · have h2 : upr c.k c.f c.a i = false := decide_eq_false hu
    rw [if_pos (show iI (wthn (c.k i) (c.f i) : Nat) < iI ((c.a i).natAbs : Nat) by rw [iI_lt (by omega) (by omega) (by omega) (by omega)]; omega), o_b, h2]
    rfl
theorem op_man {c : MC} {S : CS} {q : Nat → Int32} (h : Rl c S q) (x y : Int32) : ∃ r, S_PL_man x y S = some r ∧ S_MD_man x y q = some r := by
  obtain ⟨hO, ⟨r1, r2, r3, r4, r5, r6, r7⟩, hq, -⟩ := h
  have hM := hO.1
  have hn := hM.1
  obtain ⟨z, hz1, hz2, rfl⟩ := iI_of x
  obtain ⟨w, hw1, hw2, rfl⟩ := iI_of y
  have e1 := has_i (n := c.n) hz1 hz2 hn
  have e2 := isMan_i hn hq hz1 hz2
  have e3 := in_MD (z := w) (a := 0) (b := 5) hw1 hw2 (by omega) (by omega) (by omega) (by omega)
  unfold S_PL_man S_MD_man
  rw [r1, e1, e2, o_b]
  by_cases hi : 0 ≤ z ∧ z < c.n
  · obtain ⟨i, rfl⟩ : ∃ i : Nat, z = i := ⟨z.toNat, by omega⟩
    have hin : i < c.n := by omega
    obtain ⟨a1, a2, a3⟩ := r7 i hin
    obtain ⟨m1, m2, m3, m4⟩ := hq.at hin
    obtain ⟨b1, b2, b3, b4⟩ := hM.2 i hin
    have g1 : ¬ (iI (i : Nat) < 0 ∨ 8 ≤ (iI (i : Nat)).toNatClampNeg) := by
      rw [c_0, iI_N (by omega), iI_lt (by omega) (by omega) (by omega) (by omega)]; omega
    rw [if_pos hi, if_neg (show ¬ (1 : Int32) = 0 by decide), if_neg (show ¬ (1 : Int32) = 0 by decide), if_neg g1, if_neg g1]
    rw [c_0, c_1, c_2, c_3, c_4, c_5, e3, iI_N (show i < 2147483648 by omega), a1, a2]
    by_cases w0 : w = 0
    · subst w0
      refine ⟨iI (c.k i), if_pos rfl, ?_⟩
      rw [if_neg (by decide), if_neg (by decide), if_neg (by decide), if_neg (by decide), if_neg (by decide), of_n0 (by omega), if_neg (by rw [of_g0 (by omega)]; exact id), m1]
    · by_cases w1 : w = 1
      · subst w1
        refine ⟨iI (c.f i), by rw [if_neg (by decide), if_pos rfl], ?_⟩
        rw [if_neg (by decide), if_neg (by decide), if_neg (by decide), if_neg (by decide), if_neg (by decide), of_n1 (by omega), if_neg (by rw [of_g1 (by omega)]; exact id), m2]
      · by_cases w2 : w = 2
        · subst w2
          have e4 := s_propped (p := c.p) hn hin
          refine ⟨iI (if c.p i then 1 else 0), ?_, ?_⟩
          · rw [if_neg (by decide), if_neg (by decide), if_pos rfl, r2, e4]
            cases c.p i <;> rfl
          · rw [if_neg (by decide), if_pos rfl, of_n3 (by omega), if_neg (by rw [of_g3 (by omega)]; exact id), m4]
        · by_cases w3 : w = 3
          · subst w3
            have e4 := s_isUp hM r7 hin
            have e5 := m_upright hM hq
            have e6 := b_sh1 i (by omega) _ (setOf_256 (p := upr c.k c.f c.a) hn)
            rw [setOf_bit] at e6
            refine ⟨iI (if upr c.k c.f c.a i then 1 else 0), ?_, ?_⟩
            · rw [if_neg (by decide), if_neg (by decide), if_neg (by decide), if_pos rfl, e4, o_b]
              cases upr c.k c.f c.a i <;> rfl
            · rw [if_neg (by decide), if_neg (by decide), if_pos rfl, e5, o_b, c_31, e6]
              simp only [hin, decide_true, Bool.true_and]
              cases upr c.k c.f c.a i <;> rfl
          · by_cases w4 : w = 4
            · subst w4
              have e4 := s_discOf hM r7 hin
              have e5 := m_discOf hM hq hin
              refine ⟨iI (discN c i : Nat), ?_, ?_⟩
              · rw [if_neg (by decide), if_neg (by decide), if_neg (by decide), if_neg (by decide), if_pos rfl, e4, o_b]
              · rw [if_neg (by decide), if_neg (by decide), if_neg (by decide), if_pos rfl, e5, o_b]
            · by_cases w5 : w = 5
              · subst w5
                have e4 := s_trBy hn r7.la hM.ab hin
                have e5 := m_trBy hM hq hin
                refine ⟨iI (setOf (fun j => tr c.a j i) c.n : Nat), ?_, ?_⟩
                · rw [if_neg (by decide), if_neg (by decide), if_neg (by decide), if_neg (by decide), if_neg (by decide), if_pos rfl, e4, o_b]
                · rw [if_neg (by decide), if_neg (by decide), if_neg (by decide), if_neg (by decide), if_pos rfl, e5, o_b]
              · have n0 := ne_iI hw1 hw2 (by omega) (by omega) w0
                have n1 := ne_iI hw1 hw2 (by omega) (by omega) w1
                have n2 := ne_iI hw1 hw2 (by omega) (by omega) w2
                have n3 := ne_iI hw1 hw2 (by omega) (by omega) w3
                have n4 := ne_iI hw1 hw2 (by omega) (by omega) w4
                have n5 := ne_iI hw1 hw2 (by omega) (by omega) w5
                refine ⟨-iI 1, by rw [if_neg n0, if_neg n1, if_neg n2, if_neg n3, if_neg n4, if_neg n5], ?_⟩
                rw [if_neg (show ¬ (0 ≤ w ∧ w ≤ 5) by omega), if_pos (by decide)]
  · exact ⟨-1, by rw [if_neg hi, if_pos rfl], by rw [if_neg hi, if_pos rfl]⟩
