/-! the city some days on: leanThen, then -/
theorem s_after {c : MC} {S : CS} {q : Nat → Int32} (h : Rl c S q) {n : Nat} (hn : n ≤ 60) (mS : CS) : ∃ S', S_Mind_after (iI n) S mS = some S' ∧ CR (days c n) S' := by
  obtain ⟨hO, ⟨r1, r2, r3, r4, r5, r6, r7⟩, -, hdy⟩ := h
  obtain ⟨o, k1, k2, k3, k4, k5, k6, k7⟩ := s_days hO (n := n) (by omega) (by omega) (ca_cpy (k2 := mS.2.2.2.2.2.2.2.1) (f2 := mS.2.2.2.2.2.2.2.2.1) (l2 := mS.2.2.2.2.2.2.2.2.2.1) hO.1.1 r7) mS.2.2.2.2.2.2.1
  rw [← r1, ← r2, ← r3, ← r4, ← r5, ← r6] at k1
  unfold S_Mind_after S_City_becomes
  rw [o_b]
  refine ⟨(S.1, S.2.1, o.2.1, o.2.2.1, o.2.2.2.1, o.2.2.2.2.1, o.2.2.2.2.2.1, va_cpy S.2.2.2.2.2.2.2.1 mS.2.2.2.2.2.2.2.1 (0 : Int32).toNatClampNeg (0 : Int32).toNatClampNeg (8 : Int32).toNatClampNeg, va_cpy S.2.2.2.2.2.2.2.2.1 mS.2.2.2.2.2.2.2.2.1 (0 : Int32).toNatClampNeg (0 : Int32).toNatClampNeg (8 : Int32).toNatClampNeg, o.2.2.2.2.2.2, mS.2.2.2.2.2.2.2.2.2.2), ?_, ?_⟩
  · show (S_City_passDays (iI n) S.1 S.2.1 S.2.2.1 S.2.2.2.1 S.2.2.2.2.1 S.2.2.2.2.2.1 mS.2.2.2.2.2.2.1 (va_cpy S.2.2.2.2.2.2.2.1 mS.2.2.2.2.2.2.2.1 (0 : Int32).toNatClampNeg (0 : Int32).toNatClampNeg (8 : Int32).toNatClampNeg) (va_cpy S.2.2.2.2.2.2.2.2.1 mS.2.2.2.2.2.2.2.2.1 (0 : Int32).toNatClampNeg (0 : Int32).toNatClampNeg (8 : Int32).toNatClampNeg) (va_cpy S.2.2.2.2.2.2.2.2.2.1 mS.2.2.2.2.2.2.2.2.2.1 (0 : Int32).toNatClampNeg (0 : Int32).toNatClampNeg (8 : Int32).toNatClampNeg)).bind _ = _
    rw [k1, o_b]
  · refine ⟨?_, ?_, k3, k4, k5, k6, ?_⟩
    · rw [days_n]; exact r1
    · rw [days_n, days_p]; exact r2
    · rw [days_n, days_k, days_f]; exact (ca_cpy (l2 := mS.2.2.2.2.2.2.2.2.2.1) hO.1.1 r7).to k7
theorem m_takes {c : MC} {S : CS} {q : Nat → Int32} (h : Rl c S q) {n : Nat} (hn : n ≤ 60) (qm : Nat → Int32) : ∃ q', S_MD_takes (iI n) q qm = some q' ∧ MRow (days c n) q' := by
  obtain ⟨hO, -, hq, hdy⟩ := h
  obtain ⟨o, k1, k2⟩ := m_copies q qm
  obtain ⟨q', m1, m2⟩ := m_days hO (n := n) (by omega) (by omega) (hq.cp hO.1.1 k2)
  unfold S_MD_takes
  rw [k1, o_b, m1, o_b]
  exact ⟨q', rfl, m2⟩
theorem isLate_i {w : Int} (hw1 : -2147483648 ≤ w) (hw2 : w < 2147483648) : S_MD_isLate (iI w) = some (if 0 ≤ w ∧ w ≤ 60 then 1 else 0) := by
  have e := in_MD (z := w) (a := 0) (b := 60) hw1 hw2 (by omega) (by omega) (by omega) (by omega)
  unfold S_MD_isLate
  rw [show S_MD_isIn (iI w) 0 60 = if 0 ≤ w ∧ w ≤ 60 then 1 else 0 from e]
  by_cases h : 0 ≤ w ∧ w ≤ 60
  · rw [if_pos h]; rfl
  · rw [if_neg h]; rfl
theorem op_leanThen {c : MC} {S : CS} {q : Nat → Int32} (h : Rl c S q) (x y : Int32) (mS : CS) (qm : Nat → Int32) : ∃ r mS' qm', S_PL_leanThen x y S mS = some (r, mS') ∧ S_MD_leanThen x y q qm = some (r, qm') := by
  have h0 := h
  obtain ⟨hO, ⟨r1, r2, r3, r4, r5, r6, r7⟩, hq, hdy⟩ := h
  have hM := hO.1
  have hn := hM.1
  obtain ⟨z, hz1, hz2, rfl⟩ := iI_of x
  obtain ⟨w, hw1, hw2, rfl⟩ := iI_of y
  have e1 := has_i (n := c.n) hz1 hz2 hn
  have e2 := isMan_i hn hq hz1 hz2
  have e3 := in_PL (z := w) (a := 0) (b := 60) hw1 hw2 (by omega) (by omega) (by omega) (by omega)
  have e4 := isLate_i hw1 hw2
  unfold S_PL_leanThen S_MD_leanThen
  rw [r1, e1, e2, o_b, e4, o_b]
  by_cases hi : 0 ≤ z ∧ z < c.n
  · obtain ⟨i, rfl⟩ : ∃ i : Nat, z = i := ⟨z.toNat, by omega⟩
    have hin : i < c.n := by omega
    rw [if_pos hi, if_neg (show ¬ (1 : Int32) = 0 by decide), if_neg (show ¬ (1 : Int32) = 0 by decide)]
    rw [show S_PL_isIn (iI w) 0 60 = if 0 ≤ w ∧ w ≤ 60 then 1 else 0 from e3]
    by_cases hw : 0 ≤ w ∧ w ≤ 60
    · obtain ⟨n, rfl⟩ : ∃ n : Nat, w = n := ⟨w.toNat, by omega⟩
      obtain ⟨S', k1, k2⟩ := s_after h0 (n := n) (by omega) mS
      obtain ⟨q', m1, m2⟩ := m_takes h0 (n := n) (by omega) qm
      obtain ⟨-, -, -, -, -, -, s7⟩ := k2
      have g1 : ¬ (iI (i : Nat) < 0 ∨ 8 ≤ (iI (i : Nat)).toNatClampNeg) := by
        rw [c_0, iI_N (by omega), iI_lt (by omega) (by omega) (by omega) (by omega)]; omega
      have hin2 : i < (days c n).n := by rw [days_n]; exact hin
      rw [if_pos hw, if_neg (show ¬ (1 : Int32) = 0 by decide), if_neg (show ¬ (1 : Int32) = 0 by decide), k1, o_b, m1, o_b, if_neg g1, iI_N (by omega), c_2, of_n2 (by omega), if_neg (show ¬ (S_MD_of (iI (i : Nat)) (iI 2) < 0 ∨ 37 ≤ 7 + 4 * i) by rw [c_0, of_g2 (by omega)]; exact id), (m2.at hin2).2.2.1, (s7 i hin2).2.2]
      exact ⟨_, _, _, rfl, rfl⟩
    · rw [if_neg hw, if_pos rfl, if_pos rfl]
      exact ⟨_, _, _, rfl, rfl⟩
  · rw [if_neg hi, if_pos rfl, if_pos rfl]
    exact ⟨_, _, _, rfl, rfl⟩
theorem op_then {c : MC} {S : CS} {q : Nat → Int32} (h : Rl c S q) (x y : Int32) (mS : CS) (qm : Nat → Int32) : ∃ r mS' qm', S_PL_then x y S mS = some (r, mS') ∧ S_MD_then x y q qm = some (r, qm') := by
  have h0 := h
  obtain ⟨hO, ⟨r1, r2, r3, r4, r5, r6, r7⟩, hq, hdy⟩ := h
  obtain ⟨z, hz1, hz2, rfl⟩ := iI_of x
  obtain ⟨w, hw1, hw2, rfl⟩ := iI_of y
  have e1 := in_PL (z := z) (a := 0) (b := 60) hz1 hz2 (by omega) (by omega) (by omega) (by omega)
  have e2 := isLate_i hz1 hz2
  have e3 := in_PL (z := w) (a := 0) (b := 3) hw1 hw2 (by omega) (by omega) (by omega) (by omega)
  have e4 := in_MD (z := w) (a := 0) (b := 3) hw1 hw2 (by omega) (by omega) (by omega) (by omega)
  unfold S_PL_then S_MD_then
  rw [show S_PL_isIn (iI z) 0 60 = if 0 ≤ z ∧ z ≤ 60 then 1 else 0 from e1, e2, o_b, show S_PL_isIn (iI w) 0 3 = if 0 ≤ w ∧ w ≤ 3 then 1 else 0 from e3, show S_MD_isIn (iI w) 0 3 = if 0 ≤ w ∧ w ≤ 3 then 1 else 0 from e4]
  by_cases hz : 0 ≤ z ∧ z ≤ 60
  · obtain ⟨n, rfl⟩ : ∃ n : Nat, z = n := ⟨z.toNat, by omega⟩
    obtain ⟨S', k1, k2⟩ := s_after h0 (n := n) (by omega) mS
    obtain ⟨q', m1, m2⟩ := m_takes h0 (n := n) (by omega) qm
    have hO2 := hO.days n
    have u1 := m_upright hO2.1 m2
    obtain ⟨s1, s2, s3, s4, s5, s6, s7⟩ := k2
    have u2 := s_upright hO2.1 s7
    rw [← s1] at u2
    rw [if_pos hz, if_neg (show ¬ (1 : Int32) = 0 by decide), if_neg (show ¬ (1 : Int32) = 0 by decide)]
    by_cases hw : 0 ≤ w ∧ w ≤ 3
    · rw [if_pos hw, if_neg (show ¬ (1 : Int32) = 0 by decide), if_neg (show ¬ (1 : Int32) = 0 by decide), k1, o_b, m1, o_b, u1, u2, o_b, o_b]
      rcases (show w = 0 ∨ w = 1 ∨ w = 2 ∨ w = 3 by omega) with rfl | rfl | rfl | rfl
      · refine ⟨S'.2.2.1, S', q', if_pos (by decide), ?_⟩
        rw [if_neg (by decide), if_neg (by decide), s3]
        exact congrArg (fun v => some (v, q')) m2.2.2.1
      · refine ⟨S'.2.2.2.1, S', q', by rw [if_neg (by decide), if_pos (by decide)], ?_⟩
        rw [if_neg (by decide), if_neg (by decide), s4]
        exact congrArg (fun v => some (v, q')) m2.2.2.2.1
      · refine ⟨S'.2.2.2.2.1, S', q', by rw [if_neg (by decide), if_neg (by decide), if_pos (by decide)], ?_⟩
        rw [if_neg (by decide), if_neg (by decide), s5]
        exact congrArg (fun v => some (v, q')) m2.2.2.2.2.1
      · exact ⟨_, S', q', by rw [if_neg (by decide), if_neg (by decide), if_neg (by decide)], by rw [if_pos (by decide)]⟩
    · rw [if_neg hw, if_pos rfl, if_pos rfl]
      exact ⟨_, _, _, rfl, rfl⟩
  · rw [if_neg hz, if_pos rfl, if_pos rfl]
    exact ⟨_, _, _, rfl, rfl⟩
