/-! count -/
theorem b_set : ∀ j, j < 8 → ∀ x, x < 2 ^ j → (iI (x : Nat) ||| (iI 1 <<< (iI (j : Nat) &&& iI 31))) = iI ((x + 2 ^ j : Nat)) := b_or
theorem b_sh0 : ∀ j, j < 8 → (iI 0 <<< (iI (j : Nat) &&& iI 31)) = iI 0 := by decide +kernel
theorem m_mask {c : MC} (hn : c.n ≤ 8) {q : Nat → Int32} (hq : MRow c q) : S_MD_count_L41 q lfu (iI 0) (iI 0) = some (iI (setOf c.p c.n : Nat)) := by
  have e0 := hq.1
  have z : S_MD_count_L41 q lfu (iI (setOf c.p 0 : Nat)) (iI ((0 : Nat) : Int)) = some (iI (setOf c.p c.n : Nat)) := by
    refine for_g (fun g j => S_MD_count_L41 q g (iI (setOf c.p j : Nat)) (iI j)) c.n _ (fun g j hj => ?_) (fun g => ?_) lfu (by unfold lfu; omega)
    · obtain ⟨-, -, -, e3⟩ := hq.at hj
      have e6 := b_or j (by omega) _ (setOf_lt c.p j)
      have e7 := b_sh0 j (by omega)
      have g1 : ¬ (q (0 : Int32).toNatClampNeg ≤ iI (j : Nat)) := by
        show ¬ q 0 ≤ _
        rw [e0]
        exact fun y => absurd ((iI_le (by omega) (by omega) (by omega) (by omega)).mp y) (by omega)
      show S_MD_count_L41 q (g + 1) _ _ = _
      rw [S_MD_count_L41, if_neg g1, c_3, of_n3 (by omega), if_neg (show ¬ (S_MD_of (iI (j : Nat)) (iI 3) < 0 ∨ 37 ≤ 8 + 4 * j) by rw [c_0, of_g3 (by omega)]; exact id), e3, c_31, c_1, iI_add]
      cases hp : c.p j with
      | true =>
        have e8 : setOf c.p (j + 1) = setOf c.p j + 2 ^ j := by simp [setOf, hp]
        rw [e8, ← e6]
        rfl
      | false =>
        have e8 : setOf c.p (j + 1) = setOf c.p j := by simp [setOf, hp]
        rw [e8, show (if false = true then (1 : Int) else 0) = 0 from rfl, e7, or_0]
        rfl
    · have g1 : q (0 : Int32).toNatClampNeg ≤ iI (c.n : Nat) := by
        show q 0 ≤ _
        rw [e0]
        exact (iI_le (by omega) (by omega) (by omega) (by omega)).mpr (Int.le_refl _)
      show S_MD_count_L41 q (g + 1) _ _ = _
      rw [S_MD_count_L41, if_pos g1]
  exact z
theorem op_count {c : MC} {S : CS} {q : Nat → Int32} (h : Rl c S q) (x : Int32) : ∃ r, S_PL_count x S = some r ∧ S_MD_count x q = some r := by
  obtain ⟨hO, ⟨r1, r2, r3, r4, r5, r6, r7⟩, hq, -⟩ := h
  have hM := hO.1
  have hn := hM.1
  obtain ⟨z, hz1, hz2, rfl⟩ := iI_of x
  have ei := in_MD (z := z) (a := 0) (b := 4) hz1 hz2 (by omega) (by omega) (by omega) (by omega)
  have u1 := s_upright hM r7
  have u2 := m_upright hM hq
  have u3 := m_mask hn hq
  unfold S_PL_count S_MD_count
  rw [r1, r2, r3, r4, r5, r6, c_0, c_1, c_2, c_3, c_4, c_5, c_6, ei, u1, u2, u3, o_b]
  by_cases z0 : z = 0
  · subst z0
    exact ⟨_, if_pos rfl, by rw [if_neg (by decide), if_neg (by decide)]; exact congrArg some hq.1⟩
  · by_cases z1 : z = 1
    · subst z1
      exact ⟨_, by rw [if_neg (by decide), if_pos rfl], by rw [if_neg (by decide), if_neg (by decide)]; exact congrArg some hq.2.1⟩
    · by_cases z2 : z = 2
      · subst z2
        exact ⟨_, by rw [if_neg (by decide), if_neg (by decide), if_pos rfl], by rw [if_neg (by decide), if_neg (by decide)]; exact congrArg some hq.2.2.1⟩
      · by_cases z3 : z = 3
        · subst z3
          exact ⟨_, by rw [if_neg (by decide), if_neg (by decide), if_neg (by decide), if_pos rfl], by rw [if_neg (by decide), if_neg (by decide)]; exact congrArg some hq.2.2.2.1⟩
        · by_cases z4 : z = 4
          · subst z4
            exact ⟨_, by rw [if_neg (by decide), if_neg (by decide), if_neg (by decide), if_neg (by decide), if_pos rfl], by rw [if_neg (by decide), if_neg (by decide)]; exact congrArg some hq.2.2.2.2.1⟩
          · have n0 := ne_iI hz1 hz2 (by omega) (by omega) z0
            have n1 := ne_iI hz1 hz2 (by omega) (by omega) z1
            have n2 := ne_iI hz1 hz2 (by omega) (by omega) z2
            have n3 := ne_iI hz1 hz2 (by omega) (by omega) z3
            have n4 := ne_iI hz1 hz2 (by omega) (by omega) z4
            rw [if_neg n0, if_neg n1, if_neg n2, if_neg n3, if_neg n4, if_neg (show ¬ (0 ≤ z ∧ z ≤ 4) by omega), if_pos (show (0 : Int32) = iI 0 by decide)]
            by_cases z5 : z = 5
            · rw [z5, if_pos rfl]
              exact ⟨_, rfl, rfl⟩
            · have n5 := ne_iI hz1 hz2 (by omega) (by omega) z5
              rw [if_neg n5]
              by_cases z6 : z = 6
              · rw [z6, if_pos rfl]
                exact ⟨_, rfl, rfl⟩
              · have n6 := ne_iI hz1 hz2 (by omega) (by omega) z6
                rw [if_neg n6]
                exact ⟨_, rfl, rfl⟩
