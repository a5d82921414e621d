/-! two: who leans, who doesn't, and is settled -/
def sh (j i1 i2 : Nat) : Nat := (if j / 2 = 1 then 2 ^ i1 else 0) ||| (if j % 2 = 1 then 2 ^ i2 else 0)
theorem b_two : ∀ j, j < 4 → ∀ i, i < 8 → ∀ i2, i2 < 8 → (((iI (j : Nat) >>> (1 &&& 31)) <<< (iI (i : Nat) &&& 31)) ||| ((iI (j : Nat) &&& 1) <<< (iI (i2 : Nat) &&& 31))) = iI ((sh j i i2 : Nat) : Int) := by decide +kernel
theorem sh_bit (j i1 i2 t : Nat) : (sh j i1 i2).testBit t = (decide (j / 2 = 1 ∧ t = i1) || decide (j % 2 = 1 ∧ t = i2)) := by
  unfold sh
  rw [Nat.testBit_or]
  have e : ∀ (b : Prop) [Decidable b] (i : Nat), (if b then 2 ^ i else 0 : Nat).testBit t = decide (b ∧ t = i) := by
    intro b _ i
    by_cases hb : b
    · rw [if_pos hb, Nat.testBit_two_pow]
      by_cases ht : t = i
      · simp [hb, ht]
      · have : ¬ i = t := fun y => ht y.symm
        simp [ht, this]
    · rw [if_neg hb, Nat.zero_testBit]
      simp [hb]
  rw [e, e]
theorem sh_lt {j i1 i2 n : Nat} (h1 : i1 < n) (h2 : i2 < n) : sh j i1 i2 < 2 ^ n := by
  unfold sh
  refine Nat.or_lt_two_pow ?_ ?_
  · split
    · exact Nat.pow_lt_pow_right (by omega) h1
    · exact Nat.pow_pos (by omega)
  · split
    · exact Nat.pow_lt_pow_right (by omega) h2
    · exact Nat.pow_pos (by omega)
def twD (c : MC) (j i1 i2 : Nat) : MC := c.wp (un c.p (sh j i1 i2))
def gn (c : MC) (k j i1 i2 who b : Nat) : Int := (if upr (days (twD c j i1 i2) k).k (days (twD c j i1 i2) k).f (days (twD c j i1 i2) k).a who then 6 else 0) - 2 * (b : Int) - (crashes (twD c j i1 i2) k : Nat)
theorem cr_count (c : MC) (h0 : c.cr = 0) : ∀ k, k ≤ 900 → (days c k).cr = crashes c k
  | 0, _ => h0
  | k + 1, h => by
    have ih := cr_count c h0 k (by omega)
    have b := crashes_le c k
    show crOf (days c k) = _
    unfold crOf
    simp only [crashes]
    split
    · rw [ih]; omega
    · rw [ih]; rfl
theorem crashes_wc (c : MC) (v : Nat) : ∀ k, crashes (c.wc v) k = crashes c k
  | 0 => rfl
  | k + 1 => by
    simp only [crashes]
    rw [crashes_wc c v k, crash_wc]
theorem cr_daysN {c : MC} {S : CS} (hO : Ok c) {n : Nat} (hd : c.dy + n < 100000) (hn : n ≤ 100) (hC : CR c S) : ∃ o, S_City_passDays (iI n) S.1 S.2.1 S.2.2.1 S.2.2.2.1 S.2.2.2.2.1 S.2.2.2.2.2.1 S.2.2.2.2.2.2.1 S.2.2.2.2.2.2.2.1 S.2.2.2.2.2.2.2.2.1 S.2.2.2.2.2.2.2.2.2.1 = some o ∧ o.1 = iI (crashes c n : Nat) ∧ CR (days c n) (S.1, S.2.1, o.2.1, o.2.2.1, o.2.2.2.1, o.2.2.2.2.1, o.2.2.2.2.2.1, S.2.2.2.2.2.2.2.1, S.2.2.2.2.2.2.2.2.1, o.2.2.2.2.2.2, S.2.2.2.2.2.2.2.2.2.2) := by
  obtain ⟨r1, r2, r3, r4, r5, r6, r7⟩ := hC
  obtain ⟨o, k1, k2, k3, k4, k5, k6, k7⟩ := s_days hO (n := n) hd hn r7 S.2.2.2.2.2.2.1
  rw [← r1, ← r2, ← r3, ← r4, ← r5, ← r6] at k1
  refine ⟨o, k1, k2, ?_, ?_, k3, k4, k5, k6, ?_⟩
  · rw [days_n]; exact r1
  · rw [days_n, days_p]; exact r2
  · rw [days_n, days_k, days_f]; exact r7.to k7
theorem s_gain {e : MC} {T : CS} (hO : Ok e) (hC : CR e T) {who b y : Nat} (hw : who < e.n) (hb : b ≤ 1) (hy : y ≤ 900) : S_Mind_gainOf (iI (who : Nat)) (iI (b : Nat)) (iI (y : Nat)) T = some (iI ((if upr e.k e.f e.a who then 6 else 0) - 2 * (b : Int) - (y : Int))) := by
  unfold S_Mind_gainOf
  rw [s_isUp hO.1 hC.2.2.2.2.2.2 hw, o_b, c_0, c_2, c_6, iI_mul, iI_sub, iI_sub, iI_sub, iI_sub]
  by_cases hu : upr e.k e.f e.a who = true
  · rw [if_pos hu, if_pos hu, if_neg (by decide)]
  · rw [if_neg hu, if_neg hu, if_pos rfl]
theorem m_gain {c : MC} {q : Nat → Int32} (hO : Ok c) (hq : MRow c q) (hd : c.dy ≤ 999) {k j i1 i2 who : Nat} (hk : k ≤ 30) (hj : j < 4) (h1 : i1 < c.n) (h2 : i2 < c.n) (hw : who = i1 ∨ who = i2) (qm : Nat → Int32) : ∃ q', S_MD_hasBy (iI (who : Nat)) (iI (i1 : Nat)) (iI ((j / 2 : Nat) : Int)) (iI (i2 : Nat)) (iI ((j % 2 : Nat) : Int)) (iI (k : Nat)) q qm = some (iI (gn c k j i1 i2 who (if who = i1 then j / 2 else j % 2)), q') := by
  have hn := hO.1.1
  obtain ⟨q0, m1, m2⟩ := m_copies q qm
  have hwn : who < c.n := by rcases hw with rfl | rfl <;> assumption
  have hO2 : Ok ((twD c j i1 i2).wc 0) := ⟨hO.1, hO.2.1, hO.2.2.1, Nat.zero_le _⟩
  have r0 : MRow (c.wc 0) (upd q0 4 (iI ((0 : Nat) : Int))) := (hq.cp hn m2).set4 0
  have fin : ∀ qx, MRow ((twD c j i1 i2).wc 0) qx → ∃ q', S_MD_hasBy_J52 (iI (who : Nat)) (iI (i1 : Nat)) (iI ((j / 2 : Nat) : Int)) (iI ((j % 2 : Nat) : Int)) (iI (k : Nat)) qx = some (iI (gn c k j i1 i2 who (if who = i1 then j / 2 else j % 2)), q') := by
    intro qx hqx
    obtain ⟨q', d1, d2⟩ := m_days hO2 (n := k) (by show c.dy + k < 100000; omega) (by omega) hqx
    have hOd := hO2.days k
    have ecr := cr_count ((twD c j i1 i2).wc 0) rfl k (by omega)
    rw [crashes_wc] at ecr
    obtain ⟨v', ed⟩ := days_wc (twD c j i1 i2) 0 k
    have en : (days ((twD c j i1 i2).wc 0) k).n = c.n := by rw [days_n]; rfl
    have b := crashes_le (twD c j i1 i2) k
    have e4 : q' (4 : Int32).toNatClampNeg = iI (crashes (twD c j i1 i2) k : Nat) := by
      rw [show q' (4 : Int32).toNatClampNeg = iI (days ((twD c j i1 i2).wc 0) k).cr from d2.2.2.2.2.1, ecr]
    have eu := has_bit (p := upr (days ((twD c j i1 i2).wc 0) k).k (days ((twD c j i1 i2).wc 0) k).f (days ((twD c j i1 i2).wc 0) k).a) (n := (days ((twD c j i1 i2).wc 0) k).n) (j := who) (by rw [en]; exact hn) (by rw [en]; exact hwn)
    have eu2 : upr (days ((twD c j i1 i2).wc 0) k).k (days ((twD c j i1 i2).wc 0) k).f (days ((twD c j i1 i2).wc 0) k).a who = upr (days (twD c j i1 i2) k).k (days (twD c j i1 i2) k).f (days (twD c j i1 i2) k).a who := by rw [ed]; rfl
    refine ⟨q', ?_⟩
    unfold S_MD_hasBy_J52 S_MD_hasBy_J81 gn
    rw [d1, o_b, m_upright hOd.1 d2, o_b, eu, eu2, e4, c_2, iI_mul, iI_mul, c_0, c_6]
    by_cases hu : upr (days (twD c j i1 i2) k).k (days (twD c j i1 i2) k).f (days (twD c j i1 i2) k).a who = true
    · rw [if_pos hu, if_neg (by decide), if_pos hu]
      by_cases hx : who = i1
      · rw [if_pos (show iI (who : Nat) = iI (i1 : Nat) by rw [hx]), if_pos hx, iI_sub, iI_sub]
      · rw [if_neg (show ¬ iI (who : Nat) = iI (i1 : Nat) from ne_iI (by omega) (by omega) (by omega) (by omega) (by omega)), if_neg hx, iI_sub, iI_sub]
    · rw [if_neg hu, if_pos (by decide), if_neg hu]
      by_cases hx : who = i1
      · rw [if_pos (show iI (who : Nat) = iI (i1 : Nat) by rw [hx]), if_pos hx, iI_sub, iI_sub]
      · rw [if_neg (show ¬ iI (who : Nat) = iI (i1 : Nat) from ne_iI (by omega) (by omega) (by omega) (by omega) (by omega)), if_neg hx, iI_sub, iI_sub]
  have g3 : ∀ {i : Nat}, i < 8 → ¬ (S_MD_of (iI (i : Nat)) 3 < 0 ∨ 37 ≤ (S_MD_of (iI (i : Nat)) 3).toNatClampNeg) := by
    intro i hi
    rw [c_3, c_0, of_n3 hi, of_g3 hi]
    exact id
  have n3 : ∀ {i : Nat}, i < 8 → (S_MD_of (iI (i : Nat)) 3).toNatClampNeg = 8 + 4 * i := by
    intro i hi
    rw [c_3, of_n3 hi]
  unfold S_MD_hasBy S_MD_hasBy_J34
  rw [m1, o_b, if_neg (g3 (show i1 < 8 by omega)), if_neg (g3 (show i2 < 8 by omega)), if_neg (g3 (show i2 < 8 by omega)), n3 (show i1 < 8 by omega), n3 (show i2 < 8 by omega)]
  rcases (show j / 2 = 0 ∨ j / 2 = 1 by omega) with ja | ja
  · rcases (show j % 2 = 0 ∨ j % 2 = 1 by omega) with jb | jb
    · have z := fin _ (r0.ext rfl rfl rfl rfl rfl (fun t ht => ⟨rfl, rfl, rfl, by
        show c.p t = un c.p (sh j i1 i2) t
        unfold un
        rw [sh_bit]
        simp [ja, jb]⟩))
      rw [ja, jb] at z ⊢
      rw [if_neg (show ¬ iI ((0 : Nat) : Int) = 1 by decide), if_neg (show ¬ iI ((0 : Nat) : Int) = 1 by decide)]
      exact z
    · have z := fin _ ((prop_row r0 i2).ext rfl rfl rfl rfl rfl (fun t ht => ⟨rfl, rfl, rfl, by
        show (if t = i2 then true else c.p t) = un c.p (sh j i1 i2) t
        unfold un
        rw [sh_bit]
        by_cases h : t = i2
        · simp [ja, jb, h]
        · simp [ja, jb, h]⟩))
      rw [ja, jb] at z ⊢
      rw [if_neg (show ¬ iI ((0 : Nat) : Int) = 1 by decide), if_pos (show iI ((1 : Nat) : Int) = 1 by decide)]
      exact z
  · rcases (show j % 2 = 0 ∨ j % 2 = 1 by omega) with jb | jb
    · have z := fin _ ((prop_row r0 i1).ext rfl rfl rfl rfl rfl (fun t ht => ⟨rfl, rfl, rfl, by
        show (if t = i1 then true else c.p t) = un c.p (sh j i1 i2) t
        unfold un
        rw [sh_bit]
        by_cases h : t = i1
        · simp [ja, jb, h]
        · simp [ja, jb, h]⟩))
      rw [ja, jb] at z ⊢
      rw [if_pos (show iI ((1 : Nat) : Int) = 1 by decide), if_neg (show ¬ iI ((0 : Nat) : Int) = 1 by decide)]
      exact z
    · have z := fin _ ((prop_row (prop_row r0 i1) i2).ext rfl rfl rfl rfl rfl (fun t ht => ⟨rfl, rfl, rfl, by
        show (if t = i2 then true else (if t = i1 then true else c.p t)) = un c.p (sh j i1 i2) t
        unfold un
        rw [sh_bit]
        by_cases h : t = i1
        · by_cases h' : t = i2
          · simp [ja, jb, h, h']
          · simp [ja, jb, h, h']
        · by_cases h' : t = i2
          · simp [ja, jb, h, h']
          · simp [ja, jb, h, h']⟩))
      rw [ja, jb] at z ⊢
      rw [if_pos (show iI ((1 : Nat) : Int) = 1 by decide), if_pos (show iI ((1 : Nat) : Int) = 1 by decide)]
      exact z
theorem q_4 : ∀ j, j < 4 → iI (j : Nat) >>> (1 &&& 31) = iI ((j / 2 : Nat) : Int) ∧ iI (j : Nat) &&& 1 = iI ((j % 2 : Nat) : Int) ∧ iI (j : Nat) / 2 = iI ((j / 2 : Nat) : Int) ∧ iI (j : Nat) - iI (j : Nat) / 2 * 2 = iI ((j % 2 : Nat) : Int) ∧ (1 : Int32) - iI ((j / 2 : Nat) : Int) = iI (((j ^^^ 2) / 2 : Nat) : Int) ∧ (1 : Int32) - iI ((j % 2 : Nat) : Int) = iI (((j ^^^ 1) % 2 : Nat) : Int) ∧ iI (j : Nat) ^^^ 2 = iI ((j ^^^ 2 : Nat) : Int) ∧ iI (j : Nat) ^^^ 1 = iI ((j ^^^ 1 : Nat) : Int) ∧ j ^^^ 2 < 4 ∧ j ^^^ 1 < 4 ∧ (j ^^^ 2) % 2 = j % 2 ∧ (j ^^^ 1) / 2 = j / 2 := by decide +kernel
theorem g_4 {i : Nat} (h : i < 4) : ¬ (iI (i : Nat) < 0 ∨ 4 ≤ (iI (i : Nat)).toNatClampNeg) := by
  rw [c_0, iI_N (by omega), iI_lt (by omega) (by omega) (by omega) (by omega)]; omega
theorem gn_b (c : MC) {k j i1 i2 who b : Nat} (hk : k ≤ 30) (hb : b ≤ 1) : -100 ≤ gn c k j i1 i2 who b ∧ gn c k j i1 i2 who b ≤ 100 := by
  have := crashes_le (twD c j i1 i2) k
  unfold gn
  split <;> omega
def gA (c : MC) (k i1 i2 j : Nat) : Int := gn c k j i1 i2 i1 (j / 2)
def gB (c : MC) (k i1 i2 j : Nat) : Int := gn c k j i1 i2 i2 (j % 2)
theorem two_e {c : MC} {S : CS} {q : Nat → Int32} (hO : Ok c) (hC : CR c S) (hq : MRow c q) (hd : c.dy ≤ 999) {k i1 i2 : Nat} (hk : k ≤ 30) (h1 : i1 < c.n) (h2 : i2 < c.n) (hne : ¬ i1 = i2) (w1 w2 : Nat → Int32) (mS : CS) (qm : Nat → Int32) : ∃ o p, S_Mind_settledPair (iI (i1 : Nat)) (iI (i2 : Nat)) (iI (k : Nat)) w1 w2 S mS = some o ∧ S_MD_two_L24 (iI (i1 : Nat)) (iI (i2 : Nat)) (iI (k : Nat)) q lfu 0 qm = some p ∧ o.1 = p.1 := by
  have hn := hO.1.1
  have fin : ∀ (g1 g2 : Nat → Int32) (m : CS), (∀ t, t < 4 → g1 t = iI (gA c k i1 i2 t) ∧ g2 t = iI (gB c k i1 i2 t)) → ∃ o p, S_Mind_settledPair_L104 g1 g2 m lfu 0 = some o ∧ S_MD_two_L24 (iI (i1 : Nat)) (iI (i2 : Nat)) (iI (k : Nat)) q lfu 0 qm = some p ∧ o.1 = p.1 := by
    intro g1 g2 m hg
    refine for_2 (fun g j (_ : Unit) => S_Mind_settledPair_L104 g1 g2 m g (iI j)) (fun g j (t : Nat → Int32) => S_MD_two_L24 (iI (i1 : Nat)) (iI (i2 : Nat)) (iI (k : Nat)) q g (iI j) t) (fun _ _ _ => True) (fun o p => o.1 = p.1) 4 (fun n n2 j s t hj hI kk => ?_) (fun n n2 s t hI => ?_) lfu lfu 0 () qm (by unfold lfu; omega) (by unfold lfu; omega) (by omega) trivial
    · show ∃ o p, S_Mind_settledPair_L104 _ _ _ (n + 1) _ = some o ∧ S_MD_two_L24 _ _ _ _ (n2 + 1) _ _ = some p ∧ _
      obtain ⟨u1, u2, u3, u4, u5, u6, u7, u8, u9, u10, u11, u12⟩ := q_4 j hj
      obtain ⟨qa, ea⟩ := m_gain hO hq hd (k := k) (j := j ^^^ 2) (who := i1) hk u9 h1 h2 (Or.inl rfl) t
      obtain ⟨qb, eb⟩ := m_gain hO hq hd (k := k) (j := j) (who := i1) hk hj h1 h2 (Or.inl rfl) qa
      obtain ⟨qc, ec⟩ := m_gain hO hq hd (k := k) (j := j ^^^ 1) (who := i2) hk u10 h1 h2 (Or.inr rfl) qb
      obtain ⟨qd, ed⟩ := m_gain hO hq hd (k := k) (j := j) (who := i2) hk hj h1 h2 (Or.inr rfl) qc
      rw [if_pos rfl] at ea eb
      rw [if_neg (fun y => hne y.symm)] at ec ed
      rw [u11] at ea
      rw [u12] at ec
      have va := (hg (j ^^^ 2) u9).1
      have vb := (hg j hj).1
      have vc := (hg (j ^^^ 1) u10).2
      have vd := (hg j hj).2
      unfold gA at va vb
      unfold gB at vc vd
      rw [S_Mind_settledPair_L104, S_MD_two_L24, if_neg (show ¬ (4 : Int32) ≤ iI (j : Nat) by rw [c_4, iI_le (by omega) (by omega) (by omega) (by omega)]; omega), if_neg (show ¬ (4 : Int32) ≤ iI (j : Nat) by rw [c_4, iI_le (by omega) (by omega) (by omega) (by omega)]; omega), u7, u8, if_neg (g_4 hj), if_neg (g_4 u9), if_neg (g_4 u10), iI_N (show j < 2147483648 by omega), iI_N (show j ^^^ 2 < 2147483648 by omega), iI_N (show j ^^^ 1 < 2147483648 by omega), u1, u2, u4, u3, u5, u6, va, vb, vc, vd, ea, o_b]
      try dsimp only
      rw [eb, o_b]
      try dsimp only
      by_cases hA : iI (gn c k j i1 i2 i1 (j / 2)) < iI (gn c k (j ^^^ 2) i1 i2 i1 ((j ^^^ 2) / 2))
      · rw [if_pos hA, if_pos hA, iI_S]
        exact kk () _ trivial
      · rw [if_neg hA, if_neg hA, ec, o_b]
        try dsimp only
        rw [ed, o_b]
        try dsimp only
        by_cases hB : iI (gn c k j i1 i2 i2 (j % 2)) < iI (gn c k (j ^^^ 1) i1 i2 i2 ((j ^^^ 1) % 2))
        · rw [if_pos hB, if_pos hB, iI_S]
          exact kk () _ trivial
        · rw [if_neg hB, if_neg hB]
          exact ⟨_, _, rfl, rfl, rfl⟩
    · show ∃ o p, S_Mind_settledPair_L104 _ _ _ (n + 1) _ = some o ∧ S_MD_two_L24 _ _ _ _ (n2 + 1) _ _ = some p ∧ _
      rw [S_Mind_settledPair_L104, S_MD_two_L24, if_pos (show (4 : Int32) ≤ iI ((4 : Nat) : Int) by decide), if_pos (show (4 : Int32) ≤ iI ((4 : Nat) : Int) by decide)]
      exact ⟨_, _, rfl, rfl, rfl⟩
  have run : ∀ (r j g : Nat) (g1 g2 : Nat → Int32) (m : CS), j + r = 4 → r < g → (∀ t, t < j → g1 t = iI (gA c k i1 i2 t) ∧ g2 t = iI (gB c k i1 i2 t)) → ∃ o p, S_Mind_settledPair_L3 (iI (i1 : Nat)) (iI (i2 : Nat)) (iI (k : Nat)) S g (iI (j : Nat)) g1 g2 m = some o ∧ S_MD_two_L24 (iI (i1 : Nat)) (iI (i2 : Nat)) (iI (k : Nat)) q lfu 0 qm = some p ∧ o.1 = p.1 := by
    intro r
    induction r with
    | zero =>
      intro j g g1 g2 m hj hg hh
      obtain ⟨g, rfl⟩ : ∃ x, g = x + 1 := ⟨g - 1, by omega⟩
      obtain rfl : j = 4 := by omega
      rw [S_Mind_settledPair_L3, if_pos (show (4 : Int32) ≤ iI ((4 : Nat) : Int) by decide)]
      exact fin g1 g2 m hh
    | succ r ih =>
      intro j g g1 g2 m hj hg hh
      obtain ⟨g, rfl⟩ : ∃ x, g = x + 1 := ⟨g - 1, by omega⟩
      have hj4 : j < 4 := by omega
      obtain ⟨u1, u2, u3, u4, u5, u6, u7, u8, u9, u10, u11, u12⟩ := q_4 j hj4
      have hO2 : Ok (twD c j i1 i2) := wp_ok hO _
      obtain ⟨b1, b2, b3, b4, b5, b6, b7⟩ := cr_becomes hn hC m m.2.2.2.2.2.2.1 m.2.2.2.2.2.2.2.2.2.2
      have eb2 : S.2.1 ||| iI ((sh j i1 i2 : Nat) : Int) = iI (setOf (un c.p (sh j i1 i2)) c.n : Nat) := by
        rw [show S.2.1 = iI (setOf c.p c.n : Nat) from b2, b_orr, un_set c.p (sh_lt h1 h2)]
      obtain ⟨o, k1, k2, k3⟩ := cr_daysN (c := twD c j i1 i2) hO2 (n := k) (by show c.dy + k < 100000; omega) (by omega) (S := (S.1, S.2.1 ||| iI ((sh j i1 i2 : Nat) : Int), S.2.2.1, S.2.2.2.1, S.2.2.2.2.1, S.2.2.2.2.2.1, m.2.2.2.2.2.2.1, _, _, _, m.2.2.2.2.2.2.2.2.2.2)) ⟨b1, eb2, b3, b4, b5, b6, b7⟩
      have hOd := hO2.days k
      have en : (days (twD c j i1 i2) k).n = c.n := by rw [days_n]; rfl
      have bc := crashes_le (twD c j i1 i2) k
      have s1 := s_gain hOd k3 (who := i1) (b := j / 2) (y := crashes (twD c j i1 i2) k) (by rw [en]; exact h1) (by omega) (by omega)
      have s2 := s_gain hOd k3 (who := i2) (b := j % 2) (y := crashes (twD c j i1 i2) k) (by rw [en]; exact h2) (by omega) (by omega)
      dsimp only at k1 s1 s2
      rw [S_Mind_settledPair_L3, if_neg (show ¬ (4 : Int32) ≤ iI (j : Nat) by rw [c_4, iI_le (by omega) (by omega) (by omega) (by omega)]; omega), b_two j hj4 i1 (by omega) i2 (by omega)]
      unfold S_City_becomes
      rw [o_b]
      try dsimp only
      rw [k1, o_b]
      try dsimp only
      rw [k2, u1, u2, s1, o_b, s2, if_neg (g_4 hj4), o_b, iI_N (show j < 2147483648 by omega), iI_S]
      refine ih (j + 1) g _ _ _ (by omega) (by omega) (fun t ht => ?_)
      by_cases htj : t = j
      · rw [htj, upd_same, upd_same]
        exact ⟨rfl, rfl⟩
      · rw [upd_ne _ _ htj, upd_ne _ _ htj]
        exact hh t (by omega)
  unfold S_Mind_settledPair
  exact run 4 0 lfu w1 w2 mS (by omega) (by unfold lfu; omega) (fun t ht => absurd ht (Nat.not_lt_zero t))
theorem op_two {c : MC} {S : CS} {q : Nat → Int32} (h : Rl c S q) (x y u : Int32) (w1 w2 : Nat → Int32) (mS : CS) (qm : Nat → Int32) : ∃ r w1' w2' mS' qm', S_PL_two x y u S w1 w2 mS = some (r, w1', w2', mS') ∧ S_MD_two x y u q qm = some (r, qm') := by
  obtain ⟨hO, hC, hq, hdy⟩ := h
  have hn := hO.1.1
  obtain ⟨z1, hz1, hz2, rfl⟩ := iI_of x
  obtain ⟨z2, hw1, hw2, rfl⟩ := iI_of y
  unfold S_PL_two S_MD_two S_MD_areTwo
  rw [show S.1 = iI c.n from hC.1, has_i hz1 hz2 hn, has_i hw1 hw2 hn, isMan_i hn hq hz1 hz2, isMan_i hn hq hw1 hw2, o_b, o_b]
  by_cases a1 : 0 ≤ z1 ∧ z1 < c.n
  · by_cases a2 : 0 ≤ z2 ∧ z2 < c.n
    · obtain ⟨i1, rfl⟩ : ∃ i : Nat, z1 = i := ⟨z1.toNat, by omega⟩
      obtain ⟨i2, rfl⟩ : ∃ i : Nat, z2 = i := ⟨z2.toNat, by omega⟩
      rw [if_pos a1, if_pos a2, if_neg (show ¬ (1 : Int32) = 0 by decide), if_neg (show ¬ (1 : Int32) = 0 by decide), if_neg (show ¬ (1 : Int32) = 0 by decide), if_neg (show ¬ (1 : Int32) = 0 by decide)]
      by_cases a3 : iI (i1 : Nat) = iI (i2 : Nat)
      · rw [if_pos a3, if_pos a3, o_b, if_pos rfl]
        exact ⟨_, _, _, _, _, rfl, rfl⟩
      · have hne : ¬ i1 = i2 := fun e => a3 (by rw [e])
        rw [if_neg a3, if_neg a3, o_b, if_neg (show ¬ (1 : Int32) = 0 by decide), c_1, show (30 : Int32) = iI 30 by decide]
        rcases isin_c u (a := 1) (b := 30) (by omega) (by omega) (by omega) (by omega) with ⟨j1, j2, -⟩ | ⟨v, v1, v2, rfl, j1, j2⟩
        · rw [j1, j2, if_pos rfl, if_pos rfl]
          exact ⟨_, _, _, _, _, rfl, rfl⟩
        · obtain ⟨k, rfl⟩ : ∃ k : Nat, v = k := ⟨v.toNat, by omega⟩
          obtain ⟨⟨o1, o2, o3, o4⟩, ⟨p1, p2⟩, e1, e2, e3⟩ := two_e hO hC hq hdy (k := k) (i1 := i1) (i2 := i2) (by omega) (by omega) (by omega) hne w1 w2 mS qm
          dsimp only at e3
          rw [j1, j2, if_neg (show ¬ (1 : Int32) = 0 by decide), if_neg (show ¬ (1 : Int32) = 0 by decide), e1, o_b, e2, e3]
          exact ⟨_, _, _, _, _, rfl, rfl⟩
    · rw [if_pos a1, if_neg a2, if_neg (show ¬ (1 : Int32) = 0 by decide), if_pos rfl, if_neg (show ¬ (1 : Int32) = 0 by decide), if_pos rfl, o_b, if_pos rfl]
      exact ⟨_, _, _, _, _, rfl, rfl⟩
  · rw [if_neg a1, if_pos rfl, if_pos rfl, o_b, if_pos rfl]
    exact ⟨_, _, _, _, _, rfl, rfl⟩
