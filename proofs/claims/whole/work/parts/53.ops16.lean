/-! right: the right one, the walls, the balance -/
theorem m_right1 {c : MC} (h : Men c.n c.k c.f c.a) {q : Nat → Int32} (hq : MRow c q) : S_MD_rightOne q = some (iI (if c.n = 0 then -4 else (bo (froN c) c.n : Nat))) := by
  have hn := h.1
  have e0 : q (0 : Int32).toNatClampNeg = iI c.n := hq.1
  unfold S_MD_rightOne
  have z : S_MD_rightOne_L7 q lfu (iI (if (0 : Nat) = 0 then -4 else (bo (froN c) 0 : Nat))) (iI (if (0 : Nat) = 0 then -1 else (froN c (bo (froN c) 0) : Nat))) (iI ((0 : Nat) : Int)) = some (iI (if c.n = 0 then -4 else (bo (froN c) c.n : Nat))) := by
    refine for_g (fun g j => S_MD_rightOne_L7 q g (iI (if j = 0 then -4 else (bo (froN c) j : Nat))) (iI (if j = 0 then -1 else (froN c (bo (froN c) j) : Nat))) (iI j)) c.n _ (fun g j hj => ?_) (fun g => ?_) lfu (by unfold lfu; omega)
    · have b1 : froN c j ≤ c.n := cnt_le _ _
      have b2 : froN c (bo (froN c) j) ≤ c.n := cnt_le _ _
      show S_MD_rightOne_L7 _ (g + 1) _ _ _ = _
      rw [S_MD_rightOne_L7, e0, if_neg (le_no (by omega) (by omega) hj)]
      generalize hy1 : iI (if j = 0 then -4 else (bo (froN c) j : Nat)) = y1
      generalize hy2 : iI (if j = 0 then -1 else (froN c (bo (froN c) j) : Nat)) = y2
      have inner : S_MD_rightOne_L23 (S_MD_rightOne_L7 q g) y1 y2 (iI (j : Nat)) q lfu (iI (cnt (fromB c j) 0 : Nat)) (iI ((0 : Nat) : Int)) = if y2 < iI (froN c j : Nat) then S_MD_rightOne_L7 q g (iI (j : Nat)) (iI (froN c j : Nat)) (iI (j : Nat) + 1) else S_MD_rightOne_L7 q g y1 y2 (iI (j : Nat) + 1) := by
        refine for_g (fun g2 i => S_MD_rightOne_L23 (S_MD_rightOne_L7 q g) y1 y2 (iI (j : Nat)) q g2 (iI (cnt (fromB c j) i : Nat)) (iI i)) c.n _ (fun g2 i hi => ?_) (fun g2 => ?_) lfu (by unfold lfu; omega)
        · obtain ⟨f1, f2, f3, f4⟩ := h.2 j hj
          obtain ⟨d1, d2, d3, d4⟩ := h.2 i hi
          have e6 := m_upBy h hq hi (z := c.a i - c.a j) (by omega) (by omega)
          show S_MD_rightOne_L23 _ _ _ _ _ (g2 + 1) _ _ = _
          rw [S_MD_rightOne_L23, e0, if_neg (le_no (by omega) (by omega) hi), if_neg (g_37 (by omega)), if_neg (g_37 (by omega)), n_37 (by omega), n_37 (by omega), (hq.at hi).2.2.1, (hq.at hj).2.2.1, iI_sub, e6, o_b, c_0, c_1, iI_add, iI_add, iI_add]
          by_cases hij : i = j
          · have hb : fromB c j i = false := decide_eq_false (fun y => y.1 hij)
            rw [if_pos (show iI (i : Nat) = iI (j : Nat) by rw [hij])]
            simp only [cnt, hb, Bool.false_eq_true, if_false]
            rfl
          · rw [if_neg (ne_iI (by omega) (by omega) (by omega) (by omega) (by omega))]
            by_cases hu : (c.a i - c.a j).natAbs ≤ wthn (c.k i) (c.f i)
            · have hb : fromB c j i = true := decide_eq_true ⟨hij, hu⟩
              rw [if_pos hu, if_neg (by decide)]
              simp only [cnt, hb, if_true]
              rfl
            · have hb : fromB c j i = false := decide_eq_false (fun y => hu y.2)
              rw [if_neg hu, if_pos (by decide)]
              simp only [cnt, hb, Bool.false_eq_true, if_false]
              rfl
        · show S_MD_rightOne_L23 _ _ _ _ _ (g2 + 1) _ _ = _
          rw [S_MD_rightOne_L23, e0, if_pos (le_yes (by omega) (by omega) (Nat.le_refl _))]
          rfl
      have inner2 : S_MD_rightOne_L23 (S_MD_rightOne_L7 q g) y1 y2 (iI (j : Nat)) q lfu 0 0 = _ := inner
      rw [inner2, iI_S, ← hy1, ← hy2]
      have h1 : ¬ j + 1 = 0 := by omega
      rw [if_neg h1, if_neg h1]
      by_cases h0 : j = 0
      · subst h0
        rw [if_pos rfl, if_pos rfl, if_pos (by rw [iI_lt (by omega) (by omega) (by omega) (by omega)]; omega)]
        rfl
      · rw [if_neg h0, if_neg h0]
        by_cases hcc : froN c (bo (froN c) j) < froN c j
        · have e3 : bo (froN c) (j + 1) = j := by simp only [bo]; rw [if_neg h0, if_pos hcc]
          rw [if_pos (by rw [iI_lt (by omega) (by omega) (by omega) (by omega)]; omega), e3]
        · have e3 : bo (froN c) (j + 1) = bo (froN c) j := by simp only [bo]; rw [if_neg h0, if_neg hcc]
          rw [if_neg (by rw [iI_lt (by omega) (by omega) (by omega) (by omega)]; omega), e3]
    · show S_MD_rightOne_L7 _ (g + 1) _ _ _ = _
      rw [S_MD_rightOne_L7, e0, if_pos (le_yes (by omega) (by omega) (Nat.le_refl _))]
  rw [if_pos rfl, if_pos rfl] at z
  rw [c_4, c_1, iI_neg, iI_neg]
  exact z
theorem jmax_if (a b : Int32) : jmax a b = if b ≤ a then a else b := by
  unfold jmax
  by_cases h : b ≤ a
  · rw [if_pos h, if_neg (Int32.not_lt.mpr h)]
  · rw [if_neg h, if_pos (Int32.not_le.mp h)]
theorem walls_e {c : MC} (h : Men c.n c.k c.f c.a) {q : Nat → Int32} (hq : MRow c q) {lean : Nat → Int32} (hl : LA c.n c.a lean) (se ch : Nat → Int32) : ∃ o p, S_City_walls (iI c.n) lean se = some o ∧ S_MD_walls q ch = some p ∧ o.1 = p.1 := by
  have hn := h.1
  have e0 : q (0 : Int32).toNatClampNeg = iI c.n := hq.1
  unfold S_City_walls S_MD_walls
  refine for_2 (fun g j (s : Int32 × (Nat → Int32)) => S_City_walls_L5 (iI c.n) lean g s.1 (iI j) s.2) (fun g j (s : Int32 × (Nat → Int32)) => S_MD_walls_L5 q g s.1 (iI j) s.2) (fun j s t => s.1 = t.1 ∧ ∀ i, i < j → s.2 i = t.2 i) (fun o p => o.1 = p.1) c.n (fun n m j s t hj hI kk => ?_) (fun n m s t hI => ?_) lfu lfu 0 ((-4), se) ((-4), ch) (by unfold lfu; omega) (by unfold lfu; omega) (by omega) ⟨rfl, fun i hi => absurd hi (Nat.not_lt_zero i)⟩
  · obtain ⟨s1, s2⟩ := s
    obtain ⟨t1, t2⟩ := t
    obtain ⟨h1, h2⟩ := hI
    dsimp only at h1 h2 ⊢
    subst h1
    rw [S_City_walls_L5, S_MD_walls_L5, e0, if_neg (le_no (by omega) (by omega) hj), if_neg (le_no (by omega) (by omega) hj), if_neg (g_8 (by omega)), if_neg (g_8 (by omega)), iI_N (show j < 2147483648 by omega)]
    refine for_2 (fun g i (s : Nat → Int32) => S_City_walls_L22 (S_City_walls_L5 (iI c.n) lean n) s1 (iI (j : Nat)) lean g (iI i) s) (fun g i (s : Nat → Int32) => S_MD_walls_L24 (S_MD_walls_L5 q m) s1 (iI (j : Nat)) q g (iI i) s) (fun _ s t => ∀ i, i < j + 1 → s i = t i) (fun o p => o.1 = p.1) j (fun n2 m2 i s t hi hI2 kk2 => ?_) (fun n2 m2 s t hI2 => ?_) lfu lfu 0 (upd s2 j 1) (upd t2 j 1) (by unfold lfu; omega) (by unfold lfu; omega) (by omega) (fun i hi => ?_)
    · show ∃ o p, S_City_walls_L22 _ _ _ _ (n2 + 1) _ _ = some o ∧ S_MD_walls_L24 _ _ _ _ (m2 + 1) _ _ = some p ∧ _
      have u1 := hI2 i (by omega)
      have u2 := hI2 j (by omega)
      rw [S_City_walls_L22, S_MD_walls_L24, if_neg (le_no (by omega) (by omega) hi), if_neg (le_no (by omega) (by omega) hi), if_neg (g_37 (by omega)), if_neg (g_37 (by omega)), if_neg (g_8 (show i < 8 by omega)), if_neg (g_8 (show j < 8 by omega)), if_neg (g_8 (show i < 8 by omega)), if_neg (g_8 (show j < 8 by omega)), n_37 (by omega), n_37 (by omega), iI_N (show i < 2147483648 by omega), iI_N (show j < 2147483648 by omega), hl j hj, hl i (by omega), (hq.at hj).2.2.1, (hq.at (show i < c.n by omega)).2.2.1, iI_S, jmax_if, u1, u2]
      by_cases ha : iI (c.a j) < iI (c.a i)
      · rw [if_pos ha, if_pos ha]
        exact kk2 s t hI2
      · rw [if_neg ha, if_neg ha]
        by_cases hm : t i + 1 ≤ t j
        · rw [if_pos hm, if_pos hm]
          refine kk2 _ t (fun x hx => ?_)
          by_cases hxj : x = j
          · rw [hxj, upd_same]
          · rw [upd_ne _ _ hxj]; exact hI2 x hx
        · rw [if_neg hm, if_neg hm]
          refine kk2 _ _ (fun x hx => ?_)
          by_cases hxj : x = j
          · rw [hxj, upd_same, upd_same]
          · rw [upd_ne _ _ hxj, upd_ne _ _ hxj]; exact hI2 x hx
    · show ∃ o p, S_City_walls_L22 _ _ _ _ (n2 + 1) _ _ = some o ∧ S_MD_walls_L24 _ _ _ _ (m2 + 1) _ _ = some p ∧ _
      have u2 := hI2 j (by omega)
      rw [S_City_walls_L22, S_MD_walls_L24, if_pos (le_yes (by omega) (by omega) (Nat.le_refl _)), if_pos (le_yes (by omega) (by omega) (Nat.le_refl _)), if_neg (g_8 (show j < 8 by omega)), if_neg (g_8 (show j < 8 by omega)), iI_N (show j < 2147483648 by omega), jmax_if, u2, iI_S]
      by_cases hm : t j ≤ s1
      · rw [if_pos hm, if_pos hm]
        exact kk (s1, s) (s1, t) ⟨rfl, fun x hx => hI2 x hx⟩
      · rw [if_neg hm, if_neg hm]
        exact kk (t j, s) (t j, t) ⟨rfl, fun x hx => hI2 x hx⟩
    · by_cases hij : i = j
      · rw [hij, upd_same, upd_same]
      · rw [upd_ne _ _ hij, upd_ne _ _ hij]; exact h2 i (by omega)
  · obtain ⟨s1, s2⟩ := s
    obtain ⟨t1, t2⟩ := t
    dsimp only at hI ⊢
    rw [S_City_walls_L5, S_MD_walls_L5, e0, if_pos (le_yes (by omega) (by omega) (Nat.le_refl _)), if_pos (le_yes (by omega) (by omega) (Nat.le_refl _))]
    exact ⟨_, _, rfl, rfl, hI.1⟩
def sumS (a : Nat → Int) (x : Nat) : Nat → Int
  | 0 => 0
  | n + 1 => sumS a x n + if x.testBit n then a n else 0
theorem sumS_b {a : Nat → Int} (x : Nat) : ∀ {n : Nat}, (∀ i, i < n → -45 ≤ a i ∧ a i ≤ 45) → -45 * (n : Int) ≤ sumS a x n ∧ sumS a x n ≤ 45 * (n : Int)
  | 0, _ => by simp [sumS]
  | n + 1, h => by
    have := sumS_b (n := n) x (fun i hi => h i (by omega))
    have := h n (by omega)
    simp only [sumS]
    split <;> omega
theorem s_sumOf {n : Nat} {a : Nat → Int} {lean : Nat → Int32} (hn : n ≤ 8) (hl : LA n a lean) {x : Nat} (hx : x < 256) : S_City_sumOf (iI (x : Nat)) (iI n) lean = some (iI (sumS a x n)) := by
  unfold S_City_sumOf
  refine for_g (fun g j => S_City_sumOf_L4 (iI (x : Nat)) (iI n) lean g (iI (sumS a x j)) (iI j)) n _ (fun g j hj => ?_) (fun g => ?_) lfu (by unfold lfu; omega)
  · have e := b_and j (by omega) x hx
    rw [← c_1, ← c_31, ← c_0] at e
    show S_City_sumOf_L4 _ _ _ (g + 1) _ _ = _
    rw [S_City_sumOf_L4, if_neg (le_no (by omega) (by omega) hj), if_neg (g_8 (by omega)), iI_N (by omega), hl j hj, iI_add, iI_S]
    cases hb : x.testBit j with
    | true =>
      rw [if_neg (by rw [e, hb]; decide)]
      simp only [sumS, hb, if_true]
    | false =>
      rw [if_pos (by rw [e, hb])]
      simp only [sumS, hb, Bool.false_eq_true, if_false, Int.add_zero]
  · show S_City_sumOf_L4 _ _ _ (g + 1) _ _ = _
    rw [S_City_sumOf_L4, if_pos (le_yes (by omega) (by omega) (Nat.le_refl _))]
theorem m_hasN {x j : Nat} (hx : x < 256) (hj : j < 8) : S_MD_has (iI (x : Nat)) (iI (j : Nat)) = if x.testBit j then 1 else 0 := by
  have e := b_sh1 j hj x hx
  unfold S_MD_has
  rw [c_31, c_1, e]
  cases x.testBit j <;> decide
theorem m_balIn {c : MC} (h : Men c.n c.k c.f c.a) {q : Nat → Int32} (hq : MRow c q) (K : Int32 → Int32 → Option Int32) {v x : Nat} (hv : v < 256) (hx : x < 256) : S_MD_balance_L21 K (iI (v : Nat)) (iI (x : Nat)) q lfu 0 0 = if sumS c.a x c.n = 0 then (if pc x ≤ pc v then K (iI (v : Nat)) (iI ((x + 1 : Nat) : Int)) else K (iI (x : Nat)) (iI ((x + 1 : Nat) : Int))) else K (iI (v : Nat)) (iI ((x + 1 : Nat) : Int)) := by
  have hn := h.1
  have e0 : q (0 : Int32).toNatClampNeg = iI c.n := hq.1
  refine for_g (fun g j => S_MD_balance_L21 K (iI (v : Nat)) (iI (x : Nat)) q g (iI (sumS c.a x j)) (iI j)) c.n _ (fun g j hj => ?_) (fun g => ?_) lfu (by unfold lfu; omega)
  · show S_MD_balance_L21 _ _ _ _ (g + 1) _ _ = _
    rw [S_MD_balance_L21, e0, if_neg (le_no (by omega) (by omega) hj), if_neg (g_37 (by omega)), n_37 (by omega), (hq.at hj).2.2.1, m_hasN hx (by omega), c_0, iI_add, iI_add, iI_S]
    cases hb : x.testBit j with
    | true =>
      rw [if_neg (by decide)]
      simp only [sumS, hb, if_true]
    | false =>
      rw [if_pos (by decide)]
      simp only [sumS, hb, Bool.false_eq_true, if_false]
  · have b := sumS_b (a := c.a) x (n := c.n) h.ab
    have p1 : pc x ≤ 8 := cnt_le _ _
    have p2 : pc v ≤ 8 := cnt_le _ _
    show S_MD_balance_L21 _ _ _ _ (g + 1) _ _ = _
    rw [S_MD_balance_L21, e0, if_pos (le_yes (by omega) (by omega) (Nat.le_refl _)), m_bits hx, m_bits hv, o_b, o_b, iI_S]
    by_cases hs : sumS c.a x c.n = 0
    · rw [if_pos (by rw [hs]; decide), if_pos hs]
      by_cases hp : pc x ≤ pc v
      · rw [if_pos (le_yes (by omega) (by omega) hp), if_pos hp]
      · rw [if_neg (le_no (by omega) (by omega) (by omega)), if_neg hp]
    · rw [if_neg (by rw [c_0, iI_eq (by omega) (by omega) (by omega) (by omega)]; exact hs), if_neg hs]
theorem balance_e {c : MC} (h : Men c.n c.k c.f c.a) {q : Nat → Int32} (hq : MRow c q) {lean : Nat → Int32} (hl : LA c.n c.a lean) : ∃ o p, S_City_balance (iI c.n) lean = some o ∧ S_MD_balance q = some p ∧ o = p := by
  have hn := h.1
  have e0 : q (0 : Int32).toNatClampNeg = iI c.n := hq.1
  have h2 : 2 ^ c.n ≤ 2 ^ 8 := Nat.pow_le_pow_right (by omega) hn
  have h3 : 0 < 2 ^ c.n := Nat.pow_pos (by omega)
  have es := b_shl c.n (by omega)
  rw [← c_1, ← c_31] at es
  have first : S_MD_balance q = S_MD_balance_L4 q 1999 0 1 := by
    unfold S_MD_balance
    rw [show lfu = 1999 + 1 from rfl, S_MD_balance_L4, e0, es]
    rw [if_neg (show ¬ iI ((2 ^ c.n : Nat) : Int) ≤ 0 by rw [c_0, iI_le (by omega) (by omega) (by omega) (by omega)]; omega)]
    have z := m_balIn h hq (S_MD_balance_L4 q 1999) (v := 0) (x := 0) (by omega) (by omega)
    have s0 : ∀ n, sumS c.a 0 n = 0 := by
      intro n
      induction n with
      | zero => rfl
      | succ n ih => simp only [sumS, ih, Nat.zero_testBit, Bool.false_eq_true, if_false]; rfl
    rw [s0, if_pos rfl, if_pos (Nat.le_refl _)] at z
    exact z
  rw [first]
  unfold S_City_balance
  refine for_2 (fun g j (s : Int32) => S_City_balance_L4 (iI c.n) lean g s (iI j)) (fun g j (s : Int32) => S_MD_balance_L4 q g s (iI j)) (fun j s t => s = t ∧ ∃ v : Nat, v < 256 ∧ s = iI v) (fun o p => o = p) (2 ^ c.n) (fun n m j s t hj hI kk => ?_) (fun n m s t hI => ?_) lfu 1999 1 0 0 (by unfold lfu; omega) (by omega) (by omega) ⟨rfl, 0, by omega, rfl⟩
  · obtain ⟨rfl, v, hv, rfl⟩ := hI
    show ∃ o p, S_City_balance_L4 _ _ (n + 1) _ _ = some o ∧ S_MD_balance_L4 _ (m + 1) _ _ = some p ∧ _
    have b := sumS_b (a := c.a) j (n := c.n) h.ab
    have p1 : pc j ≤ 8 := cnt_le _ _
    have p2 : pc v ≤ 8 := cnt_le _ _
    rw [S_City_balance_L4, S_MD_balance_L4, e0, es, if_neg (le_no (by omega) (by omega) hj), if_neg (le_no (by omega) (by omega) hj), m_balIn h hq _ hv (show j < 256 by omega), b_bc j (by omega), b_bc v hv, s_sumOf hn hl (show j < 256 by omega), o_b, iI_S]
    by_cases hp : pc j ≤ pc v
    · rw [if_pos (le_yes (by omega) (by omega) hp), if_pos hp]
      have e9 : (if sumS c.a j c.n = 0 then S_MD_balance_L4 q m (iI (v : Nat)) (iI ((j + 1 : Nat) : Int)) else S_MD_balance_L4 q m (iI (v : Nat)) (iI ((j + 1 : Nat) : Int))) = S_MD_balance_L4 q m (iI (v : Nat)) (iI ((j + 1 : Nat) : Int)) := by split <;> rfl
      rw [e9]
      exact kk _ _ ⟨rfl, v, hv, rfl⟩
    · rw [if_neg (le_no (by omega) (by omega) (by omega)), if_neg hp]
      by_cases hs : sumS c.a j c.n = 0
      · rw [if_pos (by rw [hs]; decide), if_pos hs]
        exact kk _ _ ⟨rfl, j, by omega, rfl⟩
      · rw [if_neg (by rw [c_0, iI_eq (by omega) (by omega) (by omega) (by omega)]; exact hs), if_neg hs]
        exact kk _ _ ⟨rfl, v, hv, rfl⟩
  · obtain ⟨rfl, v, hv, rfl⟩ := hI
    show ∃ o p, S_City_balance_L4 _ _ (n + 1) _ _ = some o ∧ S_MD_balance_L4 _ (m + 1) _ _ = some p ∧ _
    rw [S_City_balance_L4, S_MD_balance_L4, e0, es, if_pos (le_yes (by omega) (by omega) (Nat.le_refl _)), if_pos (le_yes (by omega) (by omega) (Nat.le_refl _))]
    exact ⟨_, _, rfl, rfl, rfl⟩
theorem op_right {c : MC} {S : CS} {q : Nat → Int32} (h : Rl c S q) (x : Int32) (ch : Nat → Int32) : ∃ r S' ch', S_PL_right x S = some (r, S') ∧ S_MD_right x q ch = some (r, ch') ∧ Rl c S' q := by
  have h0 := h
  obtain ⟨hO, ⟨r1, r2, r3, r4, r5, r6, r7⟩, hq, hdy⟩ := h
  have hM := hO.1
  unfold S_PL_right S_MD_right
  rw [r1, s_right1 hM r7, m_right1 hM hq, o_b, o_b]
  by_cases x0 : x = 0
  · rw [if_pos x0, if_pos x0]
    exact ⟨_, _, _, rfl, rfl, h0⟩
  · rw [if_neg x0, if_neg x0]
    by_cases x1 : x = 1
    · obtain ⟨⟨o1, o2⟩, ⟨p1, p2⟩, k1, k2, k3⟩ := walls_e hM hq r7.la S.2.2.2.2.2.2.2.2.2.2 ch
      dsimp only at k3
      rw [if_pos x1, if_pos x1, k1, k2, o_b, o_b, k3]
      exact ⟨_, _, _, rfl, rfl, hO, ⟨rfl, r2, r3, r4, r5, r6, r7⟩, hq, hdy⟩
    · rw [if_neg x1, if_neg x1]
      by_cases x2 : x = 2
      · obtain ⟨o, p, k1, k2, rfl⟩ := balance_e hM hq r7.la
        rw [if_pos x2, if_pos x2, k1, k2, o_b, o_b]
        exact ⟨_, _, _, rfl, rfl, h0⟩
      · rw [if_neg x2, if_neg x2]
        exact ⟨_, _, _, rfl, rfl, h0⟩
