/-! class and reference side by side: lean, trust, days -/
/-- the class's city and the reference's row tell one city -/
def Rl (c : MC) (S : CS) (q : Nat → Int32) : Prop := Ok c ∧ CR c S ∧ MRow c q ∧ c.dy ≤ 999
theorem ne_iI {a b : Int} (h1 : -2147483648 ≤ a) (h2 : a < 2147483648) (h3 : -2147483648 ≤ b) (h4 : b < 2147483648) (h : ¬ a = b) : ¬ iI a = iI b := fun z => h ((iI_eq h1 h2 h3 h4).mp z)
theorem in_PL {z a b : Int} (hz : -2147483648 ≤ z) (hz2 : z < 2147483648) (h1 : -2147483648 ≤ a) (h2 : a < 2147483648) (h3 : -2147483648 ≤ b) (h4 : b < 2147483648) : S_PL_isIn (iI z) (iI a) (iI b) = if a ≤ z ∧ z ≤ b then 1 else 0 := by
  unfold S_PL_isIn
  by_cases c1 : a ≤ z
  · by_cases c2 : z ≤ b
    · simp (disch := omega) only [iI_lt, iI_le, if_pos, if_neg]
    · simp (disch := omega) only [iI_lt, iI_le, if_pos, if_neg]
  · simp (disch := omega) only [iI_lt, iI_le, if_pos, if_neg]
theorem in_MD {z a b : Int} (hz : -2147483648 ≤ z) (hz2 : z < 2147483648) (h1 : -2147483648 ≤ a) (h2 : a < 2147483648) (h3 : -2147483648 ≤ b) (h4 : b < 2147483648) : S_MD_isIn (iI z) (iI a) (iI b) = if a ≤ z ∧ z ≤ b then 1 else 0 := by
  unfold S_MD_isIn
  by_cases c1 : a ≤ z
  · by_cases c2 : z ≤ b
    · simp (disch := omega) only [iI_lt, iI_le, if_pos, if_neg]
    · simp (disch := omega) only [iI_lt, iI_le, if_pos, if_neg]
  · simp (disch := omega) only [iI_lt, iI_le, if_pos, if_neg]
theorem op_trust {c : MC} {S : CS} {q : Nat → Int32} (h : Rl c S q) (x : Int32) : ∃ r, S_PL_trust x S = some r ∧ S_MD_trust x q = some r := by
  obtain ⟨hO, ⟨r1, r2, r3, r4, r5, r6, r7⟩, hq, -⟩ := h
  have hM := hO.1
  have hn := hM.1
  have hl := r7.la
  have hb := hM.ab
  obtain ⟨z, hz1, hz2, rfl⟩ := iI_of x
  have e0 := s_most hn hl hb
  have e1 := s_rivals hn hl hb
  have e2 := s_plumb hn hl hb
  have e3 := s_east hn hl hb
  have e4 := s_discAll hM r7
  have em := m_trustAll hM hq (iI z)
  have ei := in_MD (z := z) (a := 0) (b := 4) hz1 hz2 (by omega) (by omega) (by omega) (by omega)
  unfold S_PL_trust S_MD_trust
  rw [r1, c_0, c_1, c_2, c_3, c_4, ei, em, e0, e1, e2, e3, e4, o_b, o_b, o_b, o_b, o_b]
  by_cases z0 : z = 0
  · subst z0
    exact ⟨_, if_pos rfl, by rw [if_neg (by decide), if_pos rfl]⟩
  · by_cases z1 : z = 1
    · subst z1
      exact ⟨_, by rw [if_neg (by decide), if_pos rfl], by rw [if_neg (by decide), if_neg (by decide), if_pos rfl]⟩
    · by_cases z2 : z = 2
      · subst z2
        exact ⟨_, by rw [if_neg (by decide), if_neg (by decide), if_pos rfl], by rw [if_neg (by decide), if_neg (by decide), if_neg (by decide), if_pos rfl]⟩
      · by_cases z3 : z = 3
        · subst z3
          exact ⟨_, by rw [if_neg (by decide), if_neg (by decide), if_neg (by decide), if_pos rfl], by rw [if_neg (by decide), if_neg (by decide), if_neg (by decide), if_neg (by decide), if_pos rfl]⟩
        · have n0 := ne_iI hz1 hz2 (by omega) (by omega) z0
          have n1 := ne_iI hz1 hz2 (by omega) (by omega) z1
          have n2 := ne_iI hz1 hz2 (by omega) (by omega) z2
          have n3 := ne_iI hz1 hz2 (by omega) (by omega) z3
          by_cases z4 : z = 4
          · subst z4
            exact ⟨_, by rw [if_neg n0, if_neg n1, if_neg n2, if_neg n3, if_pos rfl], by rw [if_neg (by decide), if_neg n0, if_neg n1, if_neg n2, if_neg n3]⟩
          · have n4 := ne_iI hz1 hz2 (by omega) (by omega) z4
            refine ⟨-1, by rw [if_neg n0, if_neg n1, if_neg n2, if_neg n3, if_neg n4]; rfl, ?_⟩
            rw [if_neg (show ¬ (0 ≤ z ∧ z ≤ 4) by omega), if_pos (by decide)]
            rfl
theorem has_i {z : Int} {n : Nat} (hz : -2147483648 ≤ z) (hz2 : z < 2147483648) (hn : n ≤ 8) : S_City_has (iI z) (iI n) = if 0 ≤ z ∧ z < n then 1 else 0 := by
  unfold S_City_has
  rw [c_0]
  by_cases c1 : z < 0
  · simp (disch := omega) only [iI_lt, iI_le, if_pos, if_neg]
  · by_cases c2 : (n : Int) ≤ z
    · simp (disch := omega) only [iI_lt, iI_le, if_pos, if_neg]
    · simp (disch := omega) only [iI_lt, iI_le, if_pos, if_neg]
theorem isMan_i {c : MC} {q : Nat → Int32} (hn : c.n ≤ 8) (hq : MRow c q) {z : Int} (hz : -2147483648 ≤ z) (hz2 : z < 2147483648) : S_MD_isMan (iI z) q = some (if 0 ≤ z ∧ z < c.n then 1 else 0) := by
  have e : S_MD_isIn (iI z) 0 (q (0 : Int32).toNatClampNeg - 1) = if 0 ≤ z ∧ z < c.n then 1 else 0 := by
    show S_MD_isIn (iI z) 0 (q 0 - 1) = _
    rw [hq.1, c_0, c_1, iI_sub, in_MD hz hz2 (by omega) (by omega) (by omega) (by omega)]
    by_cases h : 0 ≤ z ∧ z < c.n
    · rw [if_pos h, if_pos (by omega)]
      rfl
    · rw [if_neg h, if_neg (by omega)]
      rfl
  unfold S_MD_isMan
  rw [e]
  by_cases h : 0 ≤ z ∧ z < c.n
  · rw [if_pos h]; rfl
  · rw [if_neg h]; rfl
theorem op_lean {c : MC} {S : CS} {q : Nat → Int32} (h : Rl c S q) (x : Int32) : ∃ r, S_PL_lean x S = some r ∧ S_MD_lean x q = some r := by
  obtain ⟨hO, ⟨r1, r2, r3, r4, r5, r6, r7⟩, hq, -⟩ := h
  have hM := hO.1
  have hn := hM.1
  obtain ⟨z, hz1, hz2, rfl⟩ := iI_of x
  have e1 := has_i (n := c.n) hz1 hz2 hn
  have e2 := isMan_i hn hq hz1 hz2
  unfold S_PL_lean S_MD_lean
  rw [r1, e1, e2, o_b]
  by_cases hi : 0 ≤ z ∧ z < c.n
  · obtain ⟨i, rfl⟩ : ∃ i : Nat, z = i := ⟨z.toNat, by omega⟩
    have hin : i < c.n := by omega
    refine ⟨iI (c.a i), ?_, ?_⟩
    · rw [if_pos hi, if_neg (by decide), if_neg (by rw [c_0]; simp (disch := omega) only [iI_lt, iI_N]; omega), iI_N (by omega), (r7 i hin).2.2]
    · rw [if_pos hi, if_neg (by decide), c_2, of_n2 (by omega), if_neg (by rw [c_0, of_g2 (by omega)]; exact id), (hq.at hin).2.2.1]
  · exact ⟨1000000001, by rw [if_neg hi, if_pos rfl], by rw [if_neg hi, if_pos rfl]⟩
theorem op_days {c : MC} {S : CS} {q : Nat → Int32} (h : Rl c S q) (x : Int32) : ∃ r S' q' c', S_PL_days x S = some (r, S') ∧ S_MD_days x q = some (r, q') ∧ Rl c' S' q' := by
  have h0 := h
  obtain ⟨hO, ⟨r1, r2, r3, r4, r5, r6, r7⟩, hq, hdy⟩ := h
  have hM := hO.1
  have hn := hM.1
  obtain ⟨z, hz1, hz2, rfl⟩ := iI_of x
  have e1 := in_PL (z := z) (a := 1) (b := 60) hz1 hz2 (by omega) (by omega) (by omega) (by omega)
  have e2 := in_MD (z := z) (a := 1) (b := 60) hz1 hz2 (by omega) (by omega) (by omega) (by omega)
  unfold S_PL_days S_MD_days
  rw [c_1, c_60, e1, e2]
  by_cases hi : 1 ≤ z ∧ z ≤ 60
  · obtain ⟨i, rfl⟩ : ∃ i : Nat, z = i := ⟨z.toNat, by omega⟩
    rw [if_pos hi, if_neg (show ¬ (1 : Int32) = 0 by decide), if_neg (show ¬ (1 : Int32) = 0 by decide), r6, show q (iI 1).toNatClampNeg = iI c.dy from hq.2.1, iI_add, c_999]
    by_cases hd : c.dy + i ≤ 999
    · have g1 : iI ((c.dy : Int) + i) ≤ iI 999 := (iI_le (by omega) (by omega) (by omega) (by omega)).mpr (by omega)
      rw [if_pos g1, if_pos g1]
      obtain ⟨o, k1, k2, k3, k4, k5, k6, k7⟩ := s_days hO (n := i) (by omega) (by omega) r7 S.2.2.2.2.2.2.1
      obtain ⟨q', m1, m2⟩ := m_days hO (n := i) (by omega) (by omega) hq
      have hO2 := hO.days i
      have hC2 : CA c.n c.k c.f (days c i).a S.2.2.2.2.2.2.2.1 S.2.2.2.2.2.2.2.2.1 o.2.2.2.2.2.2 := r7.to k7
      have u1 := s_upright (n := c.n) (k := c.k) (f := c.f) (a := (days c i).a) (by have := hO2.1; rw [days_n, days_k, days_f] at this; exact this) hC2
      have u2 := m_upright hO2.1 m2
      rw [days_n, days_k, days_f] at u2
      have b1 := b_bc _ (setOf_256 (p := upr c.k c.f (days c i).a) hn)
      have b2 := m_bits (setOf_256 (p := upr c.k c.f (days c i).a) hn)
      rw [r1, r2, r3, r4, r5, k1, o_b, u1, o_b, b1, m1, o_b, u2, o_b, b2, o_b]
      refine ⟨_, _, q', days c i, rfl, rfl, hO2, ⟨?_, ?_, k3, k4, k5, k6, ?_⟩, m2, ?_⟩
      · rw [days_n]
      · rw [days_n, days_p]
      · rw [days_n, days_k, days_f]; exact hC2
      · rw [days_dy]; exact hd
    · have g1 : ¬ iI ((c.dy : Int) + i) ≤ iI 999 := fun y => absurd ((iI_le (by omega) (by omega) (by omega) (by omega)).mp y) (by omega)
      rw [if_neg g1, if_neg g1]
      exact ⟨_, _, _, c, rfl, rfl, h0⟩
  · rw [if_neg hi, if_pos (by decide), if_pos (by decide)]
    exact ⟨_, _, _, c, rfl, rfl, h0⟩
