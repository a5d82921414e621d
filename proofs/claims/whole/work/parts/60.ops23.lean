/-! shocks: crashes by odds -/
def MC.tn (c : MC) : MC := c.wa (turned c.p c.a)
theorem tn_ok {c : MC} (h : Ok c) : Ok c.tn := by
  refine ⟨⟨h.1.1, fun i hi => ⟨(h.1.2 i hi).1, (h.1.2 i hi).2.1, ?_⟩⟩, h.2⟩
  have b := h.1.ab i hi
  show -45 ≤ turned c.p c.a i ∧ turned c.p c.a i ≤ 45
  unfold turned
  split <;> omega
def shk (c : MC) (y : Nat) : Nat → MC
  | 0 => c
  | j + 1 => day (if y.testBit j then (shk c y j).tn else shk c y j)
theorem shk_ok {c : MC} (h : Ok c) (y : Nat) : ∀ j, Ok (shk c y j)
  | 0 => h
  | j + 1 => by
    have ih := shk_ok h y j
    simp only [shk]
    split
    · exact (tn_ok ih).day
    · exact ih.day
theorem shk_n (c : MC) (y : Nat) : ∀ j, (shk c y j).n = c.n
  | 0 => rfl
  | j + 1 => by
    have ih := shk_n c y j
    simp only [shk]
    split
    · exact ih
    · exact ih
theorem shk_dy (c : MC) (y : Nat) : ∀ j, (shk c y j).dy = c.dy + j
  | 0 => rfl
  | j + 1 => by
    have ih := shk_dy c y j
    simp only [shk]
    split
    · show (shk c y j).dy + 1 = _
      omega
    · show (shk c y j).dy + 1 = _
      omega
theorem lI_mulN (a b : Nat) : lI (a : Nat) * lI (b : Nat) = lI ((a * b : Nat) : Int) := by rw [lI_mul, Int.natCast_mul]
theorem lI_addN (a b : Nat) : lI (a : Nat) + lI (b : Nat) = lI ((a + b : Nat) : Int) := by rw [lI_add, Int.natCast_add]
theorem power_i {a n : Nat} (ha : a < 1000) (hn : n ≤ 7) : S_PL_power (iI (a : Nat)) (iI (n : Nat)) = some (lI ((a ^ n : Nat) : Int)) := by
  unfold S_PL_power
  have z : S_PL_power_L5 (iI (a : Nat)) (iI (n : Nat)) lfu (lI ((a ^ 0 : Nat) : Int)) (iI ((0 : Nat) : Int)) = some (lI ((a ^ n : Nat) : Int)) := by
    refine for_g (fun g j => S_PL_power_L5 (iI (a : Nat)) (iI (n : Nat)) g (lI ((a ^ j : Nat) : Int)) (iI j)) n _ (fun g j hj => ?_) (fun g => ?_) lfu (by unfold lfu; omega)
    · show S_PL_power_L5 _ _ (g + 1) _ _ = _
      rw [S_PL_power_L5, if_neg (le_no (by omega) (by omega) hj), i_lI (by omega) (by omega), lI_mulN, ← Nat.pow_succ, iI_S]
    · show S_PL_power_L5 _ _ (g + 1) _ _ = _
      rw [S_PL_power_L5, if_pos (le_yes (by omega) (by omega) (Nat.le_refl _))]
  exact z
theorem m_power {x1 x4 : Int32} {a n : Nat} (ha : a < 1000) (hn : n ≤ 7) (y5 : Int64) (q qm : Nat → Int32) : S_MD_shocks_L51 x1 (iI (n : Nat)) (iI (a : Nat)) x4 y5 q qm lfu 1 0 = S_MD_shocks_L73 x1 (iI (n : Nat)) (iI (a : Nat)) x4 (lI ((a ^ n : Nat) : Int)) q lfu y5 0 qm := by
  have z : S_MD_shocks_L51 x1 (iI (n : Nat)) (iI (a : Nat)) x4 y5 q qm lfu (lI ((a ^ 0 : Nat) : Int)) (iI ((0 : Nat) : Int)) = S_MD_shocks_L73 x1 (iI (n : Nat)) (iI (a : Nat)) x4 (lI ((a ^ n : Nat) : Int)) q lfu y5 0 qm := by
    refine for_g (fun g j => S_MD_shocks_L51 x1 (iI (n : Nat)) (iI (a : Nat)) x4 y5 q qm g (lI ((a ^ j : Nat) : Int)) (iI j)) n _ (fun g j hj => ?_) (fun g => ?_) lfu (by unfold lfu; omega)
    · show S_MD_shocks_L51 _ _ _ _ _ _ _ (g + 1) _ _ = _
      rw [S_MD_shocks_L51, if_neg (le_no (by omega) (by omega) hj), i_lI (by omega) (by omega), lI_mulN, ← Nat.pow_succ, iI_S]
    · show S_MD_shocks_L51 _ _ _ _ _ _ _ (g + 1) _ _ = _
      rw [S_MD_shocks_L51, if_pos (le_yes (by omega) (by omega) (Nat.le_refl _))]
  exact z
theorem cnt_not (p : Nat → Bool) : ∀ n, cnt p n + cnt (fun i => !(p i)) n = n
  | 0 => rfl
  | n + 1 => by
    have ih := cnt_not p n
    simp only [cnt]
    by_cases hp : p n = true
    · simp [hp]
      omega
    · have hp2 : p n = false := by simpa using hp
      simp [hp2]
      omega
/-- how often each way comes -/
def wgt (a n y : Nat) : Nat := a ^ cnt (fun i => !(y.testBit i)) n
def shV (c : MC) (a n m y : Nat) : Nat := if upr (shk c y n).k (shk c y n).f (shk c y n).a m then wgt a n y else 0
theorem wgt_pc {a n y : Nat} (hn : n ≤ 8) (hy : y < 2 ^ n) : wgt a n y = a ^ (n - pc y) := by
  unfold wgt
  have h1 := cnt_not (fun i => y.testBit i) n
  have h2 : pc y = cnt (fun i => y.testBit i) n := by
    have e : y = setOf (fun i => y.testBit i) n := by
      apply Nat.eq_of_testBit_eq
      intro j
      rw [setOf_bit]
      by_cases hj : j < n
      · simp [hj]
      · have : y.testBit j = false := Nat.testBit_lt_two_pow (Nat.lt_of_lt_of_le hy (Nat.pow_le_pow_right (by omega) (by omega)))
        simp [hj, this]
    have z := pc_setOf (fun i => y.testBit i) hn
    rw [← e] at z
    exact z
  congr 1
  omega
theorem wgt_b {a n y : Nat} (ha : a ≤ 19) (ha1 : 1 ≤ a) (hn : n ≤ 7) : wgt a n y ≤ 893871739 := by
  have h1 := cnt_le (fun i => !(y.testBit i)) n
  have h2 : a ^ cnt (fun i => !(y.testBit i)) n ≤ a ^ 7 := Nat.pow_le_pow_right ha1 (by omega)
  have h3 : a ^ 7 ≤ 19 ^ 7 := Nat.pow_le_pow_left ha 7
  have h4 : (19 : Nat) ^ 7 = 893871739 := by decide
  unfold wgt
  omega
theorem shV_b {c : MC} {a n m y : Nat} (ha : a ≤ 19) (ha1 : 1 ≤ a) (hn : n ≤ 7) : shV c a n m y ≤ 893871739 := by
  unfold shV
  split
  · exact wgt_b ha ha1 hn
  · omega
theorem s_shock {c : MC} {S : CS} (hO : Ok c) (hC : CR c S) (hd : c.dy ≤ 999) {m n a : Nat} (hm : m < c.n) (hn7 : n ≤ 7) (ha : a ≤ 19) (ha1 : 1 ≤ a) (mS : CS) : ∃ o, S_Mind_shockedUpright (iI (m : Nat)) (iI (n : Nat)) (iI ((a + 1 : Nat) : Int)) S mS = some o ∧ o.1 = lI ((sumN (shV c a n m) (2 ^ n) : Nat) : Int) := by
  have hn := hO.1.1
  have hp := pw_b (show n ≤ 8 by omega)
  have es := b_shl n (by omega)
  rw [← c_1, ← c_31] at es
  unfold S_Mind_shockedUpright
  refine for_i (fun g y (t : Int64 × CS) => S_Mind_shockedUpright_L6 (iI (m : Nat)) (iI (n : Nat)) (iI ((a + 1 : Nat) : Int)) S g t.1 (iI y) t.2) (fun y t => t.1 = lI ((sumN (shV c a n m) y : Nat) : Int)) _ (2 ^ n) (fun g y t hy hI kk => ?_) (fun g t hI => ?_) lfu (0, mS) (by unfold lfu; omega) (show (0 : Int64) = lI ((0 : Nat) : Int) by decide +kernel)
  · obtain ⟨t1, t2⟩ := t
    dsimp only at hI ⊢
    subst hI
    have hy7 : y < 256 := by omega
    rw [S_Mind_shockedUpright_L6, es, if_neg (le_no (by omega) (by omega) hy)]
    unfold S_City_becomes
    rw [o_b]
    dsimp only
    refine for_i (fun g2 j (t : CS) => S_Mind_shockedUpright_L28 (S_Mind_shockedUpright_L6 (iI (m : Nat)) (iI (n : Nat)) (iI ((a + 1 : Nat) : Int)) S g) (iI (m : Nat)) (iI (n : Nat)) (iI ((a + 1 : Nat) : Int)) (lI ((sumN (shV c a n m) y : Nat) : Int)) (iI (y : Nat)) g2 (iI j) t) (fun j t => CR (shk c y j) t) _ n (fun g2 j t hj hI2 kk2 => ?_) (fun g2 t hI2 => ?_) lfu _ (by unfold lfu; omega) (cr_becomes hn hC t2 t2.2.2.2.2.2.2.1 t2.2.2.2.2.2.2.2.2.2.2)
    · show ∃ o, S_Mind_shockedUpright_L28 _ _ _ _ _ _ (g2 + 1) _ _ = some o ∧ _
      have hOj := shk_ok hO y j
      have e := b_and j (by omega) y hy7
      rw [← c_1, ← c_31, ← c_0] at e
      rw [S_Mind_shockedUpright_L28, if_neg (le_no (by omega) (by omega) hj)]
      cases hb : y.testBit j with
      | true =>
        obtain ⟨b1, b2, b3, b4, b5, b6, b7⟩ := id hI2
        obtain ⟨l2, t3, t4⟩ := s_turn (p := (shk c y j).p) hOj.1.1 b7.la
        obtain ⟨o, k1, -, k2⟩ := cr_day (c := (shk c y j).tn) (tn_ok hOj) (by show (shk c y j).dy + 1 < 1000000; rw [shk_dy]; omega) (S := (t.1, t.2.1, t.2.2.1, t.2.2.2.1, t.2.2.2.2.1, t.2.2.2.2.2.1, t.2.2.2.2.2.2.1, t.2.2.2.2.2.2.2.1, t.2.2.2.2.2.2.2.2.1, l2, t.2.2.2.2.2.2.2.2.2.2)) ⟨b1, b2, b3, b4, b5, b6, b7.to t4⟩
        dsimp only at k1 k2
        have t5 : S_City_turnSigns t.1 t.2.1 t.2.2.2.2.2.2.2.2.2.1 = some l2 := by rw [b1, b2]; exact t3
        rw [if_neg (by rw [e, hb]; decide), t5, o_b, k1, o_b, iI_S]
        refine kk2 _ ?_
        simp only [shk]
        rw [if_pos hb]
        exact k2
      | false =>
        obtain ⟨o, k1, -, k2⟩ := cr_day hOj (by rw [shk_dy]; omega) hI2
        rw [if_pos (by rw [e, hb]), k1, o_b, iI_S]
        refine kk2 _ ?_
        simp only [shk]
        rw [if_neg (by rw [hb]; decide)]
        exact k2
    · show ∃ o, S_Mind_shockedUpright_L28 _ _ _ _ _ _ (g2 + 1) _ _ = some o ∧ _
      have hOj := shk_ok hO y n
      have bp := pc_le (show n ≤ 8 by omega) hy
      have ew := wgt_pc (a := a) (show n ≤ 8 by omega) hy
      rw [S_Mind_shockedUpright_L28, if_pos (le_yes (by omega) (by omega) (Nat.le_refl _)), s_isUp hOj.1 hI2.2.2.2.2.2.2 (show m < (shk c y n).n by rw [shk_n]; exact hm), o_b, b_bc y hy7, show iI ((a + 1 : Nat) : Int) - 1 = iI (a : Nat) by rw [c_1, iI_sub]; congr 1; omega, show iI (n : Nat) - iI (pc y : Nat) = iI ((n - pc y : Nat) : Int) by rw [iI_sub]; congr 1; omega, power_i (a := a) (n := n - pc y) (by omega) (by omega), o_b, lI_addN, iI_S]
      by_cases hu : upr (shk c y n).k (shk c y n).f (shk c y n).a m = true
      · rw [if_pos hu, if_neg (by decide)]
        refine kk (_, t) ?_
        show lI _ = lI _
        simp only [sumN, shV]
        rw [if_pos hu, ew]
      · rw [if_neg hu, if_pos (by decide)]
        refine kk (_, t) ?_
        show lI _ = lI _
        simp only [sumN, shV]
        rw [if_neg hu]
        rfl
  · obtain ⟨t1, t2⟩ := t
    dsimp only at hI ⊢
    rw [S_Mind_shockedUpright_L6, es, if_pos (le_yes (by omega) (by omega) (Nat.le_refl _))]
    exact ⟨_, rfl, hI⟩
theorem m_shock {c : MC} {q : Nat → Int32} (hO : Ok c) (hq : MRow c q) (hd : c.dy ≤ 999) {m n a : Nat} (hm : m < c.n) (hn7 : n ≤ 7) (ha : a ≤ 19) (ha1 : 1 ≤ a) (x4 : Int32) (y7 r : Int64) (hr : S_MD_partOf (lI ((sumN (shV c a n m) (2 ^ n) : Nat) : Int)) y7 x4 = some r) (qm : Nat → Int32) : ∃ o, S_MD_shocks_L73 (iI (m : Nat)) (iI (n : Nat)) (iI ((a + 1 : Nat) : Int)) x4 y7 q lfu 0 0 qm = some o ∧ o.1 = r := by
  have hn := hO.1.1
  have hp := pw_b (show n ≤ 8 by omega)
  have es := b_shl n (by omega)
  rw [← c_1, ← c_31] at es
  refine for_i (fun g y (t : Int64 × (Nat → Int32)) => S_MD_shocks_L73 (iI (m : Nat)) (iI (n : Nat)) (iI ((a + 1 : Nat) : Int)) x4 y7 q g t.1 (iI y) t.2) (fun y t => t.1 = lI ((sumN (shV c a n m) y : Nat) : Int)) _ (2 ^ n) (fun g y t hy hI kk => ?_) (fun g t hI => ?_) lfu (0, qm) (by unfold lfu; omega) (show (0 : Int64) = lI ((0 : Nat) : Int) by decide +kernel)
  · obtain ⟨t1, t2⟩ := t
    dsimp only at hI ⊢
    subst hI
    have hy7 : y < 256 := by omega
    obtain ⟨q0, m1, m2⟩ := m_copies q t2
    rw [S_MD_shocks_L73, es, if_neg (le_no (by omega) (by omega) hy), m1, o_b]
    refine for_i (fun g2 j (t : Int64 × (Nat → Int32)) => S_MD_shocks_L98 (S_MD_shocks_L73 (iI (m : Nat)) (iI (n : Nat)) (iI ((a + 1 : Nat) : Int)) x4 y7 q g) (iI (m : Nat)) (iI (n : Nat)) (iI ((a + 1 : Nat) : Int)) (lI ((sumN (shV c a n m) y : Nat) : Int)) (iI (y : Nat)) g2 t.1 (iI j) t.2) (fun j t => t.1 = lI ((wgt a j y : Nat) : Int) ∧ MRow (shk c y j) t.2) _ n (fun g2 j t hj hI2 kk2 => ?_) (fun g2 t hI2 => ?_) lfu (1, q0) (by unfold lfu; omega) ⟨(show (1 : Int64) = lI ((1 : Nat) : Int) by decide +kernel), hq.cp hn m2⟩
    · obtain ⟨t1, t2⟩ := t
      obtain ⟨h1, h2⟩ := hI2
      dsimp only at h1 h2 ⊢
      have hOj := shk_ok hO y j
      have ea : ((iI ((a + 1 : Nat) : Int) - 1 : Int32)).toInt64 = lI (a : Nat) := by
        rw [c_1, iI_sub, show (((a + 1 : Nat) : Int) - 1) = (a : Int) by omega, i_lI (by omega) (by omega)]
      have eh := m_hasN (x := y) (j := j) hy7 (by omega)
      rw [S_MD_shocks_L98, if_neg (le_no (by omega) (by omega) hj)]
      unfold S_MD_shocks_J124
      rw [eh, ea, h1]
      cases hb : y.testBit j with
      | true =>
        obtain ⟨q1, t3, t4⟩ := m_turn (c := shk c y j) hOj.1.1 h2
        obtain ⟨q2, t5, t6⟩ := m_day (c := (shk c y j).tn) (tn_ok hOj) (by show (shk c y j).dy + 1 < 1000000; rw [shk_dy]; omega) t4
        rw [if_neg (by decide), if_neg (by decide), t3, o_b, t5, o_b, iI_S]
        refine kk2 (_, _) ⟨?_, ?_⟩
        · have e : wgt a (j + 1) y = wgt a j y := by
            unfold wgt
            simp only [cnt, hb]
            rfl
          dsimp only
          rw [e, l_1, show lI 1 = lI ((1 : Nat) : Int) from rfl, lI_mulN, Nat.mul_one]
        · simp only [shk]
          rw [if_pos hb]
          exact t6
      | false =>
        obtain ⟨q2, t5, t6⟩ := m_day hOj (by rw [shk_dy]; omega) h2
        rw [if_pos (by decide), if_pos (by decide), t5, o_b, iI_S]
        refine kk2 (_, _) ⟨?_, ?_⟩
        · have e : wgt a (j + 1) y = wgt a j y * a := by
            unfold wgt
            simp only [cnt, hb]
            show a ^ (cnt (fun i => !(y.testBit i)) j + 1) = _
            exact Nat.pow_succ _ _
          dsimp only
          rw [e, lI_mulN]
        · simp only [shk]
          rw [if_neg (by rw [hb]; decide)]
          exact t6
    · obtain ⟨t1, t2⟩ := t
      obtain ⟨h1, h2⟩ := hI2
      dsimp only at h1 h2 ⊢
      have hOj := shk_ok hO y n
      have eu := has_bit (p := upr (shk c y n).k (shk c y n).f (shk c y n).a) (n := (shk c y n).n) (j := m) (by rw [shk_n]; exact hn) (by rw [shk_n]; exact hm)
      rw [S_MD_shocks_L98, if_pos (le_yes (by omega) (by omega) (Nat.le_refl _)), m_upright hOj.1 h2, o_b, eu, h1, lI_addN, iI_S]
      by_cases hu : upr (shk c y n).k (shk c y n).f (shk c y n).a m = true
      · rw [if_pos hu, if_neg (by decide)]
        refine kk (_, _) ?_
        show lI _ = lI _
        simp only [sumN, shV]
        rw [if_pos hu]
      · rw [if_neg hu, if_pos (by decide), l_0, show lI 0 = lI ((0 : Nat) : Int) from rfl, lI_addN]
        refine kk (_, _) ?_
        show lI _ = lI _
        simp only [sumN, shV]
        rw [if_neg hu]
  · obtain ⟨t1, t2⟩ := t
    dsimp only at hI ⊢
    rw [S_MD_shocks_L73, es, if_pos (le_yes (by omega) (by omega) (Nat.le_refl _)), hI, hr, o_b]
    exact ⟨_, rfl, rfl⟩
theorem op_shocks {c : MC} {S : CS} {q : Nat → Int32} (h : Rl c S q) (x y u v : Int32) (mS : CS) (qm : Nat → Int32) : ∃ r mS' qm', S_PL_shocks x y u v S mS = some (r, mS') ∧ S_MD_shocks x y u v q qm = some (r, qm') := by
  obtain ⟨hO, hC, hq, hdy⟩ := h
  have hn := hO.1.1
  obtain ⟨z1, hz1, hz2, rfl⟩ := iI_of x
  unfold S_PL_shocks S_MD_shocks
  rw [show S.1 = iI c.n from hC.1, has_i hz1 hz2 hn, isMan_i hn hq hz1 hz2, o_b]
  by_cases a1 : 0 ≤ z1 ∧ z1 < c.n
  · obtain ⟨m, rfl⟩ : ∃ i : Nat, z1 = i := ⟨z1.toNat, by omega⟩
    rw [if_pos a1, if_neg (show ¬ (1 : Int32) = 0 by decide), if_neg (show ¬ (1 : Int32) = 0 by decide)]
    rcases isin_c y (a := 0) (b := 7) (by omega) (by omega) (by omega) (by omega) with ⟨j1, j2, -⟩ | ⟨n, n1, n2, rfl, j1, j2⟩
    · rw [show S_PL_isIn y 0 7 = 0 from j1, show S_MD_isIn y 0 7 = 0 from j2, if_pos rfl, if_pos rfl]
      exact ⟨_, _, _, rfl, rfl⟩
    · obtain ⟨n, rfl⟩ : ∃ i : Nat, n = i := ⟨n.toNat, by omega⟩
      rw [show S_PL_isIn (iI (n : Nat)) 0 7 = 1 from j1, show S_MD_isIn (iI (n : Nat)) 0 7 = 1 from j2, if_neg (show ¬ (1 : Int32) = 0 by decide), if_neg (show ¬ (1 : Int32) = 0 by decide)]
      rcases isin_c u (a := 2) (b := 20) (by omega) (by omega) (by omega) (by omega) with ⟨j3, j4, -⟩ | ⟨a, a2, a3, rfl, j3, j4⟩
      · rw [show S_PL_isIn u 2 20 = 0 from j3, show S_MD_isIn u 2 20 = 0 from j4, if_pos rfl, if_pos rfl]
        exact ⟨_, _, _, rfl, rfl⟩
      · obtain ⟨a, rfl⟩ : ∃ i : Nat, a = ((i + 1 : Nat) : Int) := ⟨(a - 1).toNat, by omega⟩
        rw [show S_PL_isIn (iI ((a + 1 : Nat) : Int)) 2 20 = 1 from j3, show S_MD_isIn (iI ((a + 1 : Nat) : Int)) 2 20 = 1 from j4, if_neg (show ¬ (1 : Int32) = 0 by decide), if_neg (show ¬ (1 : Int32) = 0 by decide)]
        rcases isin_c v (a := 0) (b := 1) (by omega) (by omega) (by omega) (by omega) with ⟨j5, j6, -⟩ | ⟨w, w1, w2, rfl, j5, j6⟩
        · rw [show S_PL_isIn v 0 1 = 0 from j5, show S_MD_isIn v 0 1 = 0 from j6, if_pos rfl, if_pos rfl]
          exact ⟨_, _, _, rfl, rfl⟩
        · have hw : iI w = 0 ∨ iI w = 1 := by
            rcases (show w = 0 ∨ w = 1 by omega) with rfl | rfl
            · exact Or.inl (by decide)
            · exact Or.inr (by decide)
          have hp := pw_b (show n ≤ 8 by omega)
          have b1 : sumN (shV c a n m) (2 ^ n) ≤ 893871739 * 2 ^ n := sumN_b (fun i _ => shV_b (by omega) (by omega) (by omega))
          have b2 : (a + 1) ^ n ≤ (a + 1) ^ 7 := Nat.pow_le_pow_right (by omega) (by omega)
          have b3 : (a + 1) ^ 7 ≤ 20 ^ 7 := Nat.pow_le_pow_left (by omega) 7
          have b4 : (20 : Nat) ^ 7 = 1280000000 := by decide
          obtain ⟨r, p1, p2⟩ := part_e (a := sumN (shV c a n m) (2 ^ n)) (b := (a + 1) ^ n) (by omega) (by omega) hw
          obtain ⟨⟨o1, o2⟩, k1, k2⟩ := s_shock hO hC hdy (m := m) (n := n) (a := a) (by omega) (by omega) (by omega) (by omega) mS
          obtain ⟨⟨o3, o4⟩, k3, k4⟩ := m_shock hO hq hdy (m := m) (n := n) (a := a) (by omega) (by omega) (by omega) (by omega) (iI w) _ r p2 qm
          dsimp only at k2 k4
          rw [show S_PL_isIn (iI w) 0 1 = 1 from j5, show S_MD_isIn (iI w) 0 1 = 1 from j6, if_neg (show ¬ (1 : Int32) = 0 by decide), if_neg (show ¬ (1 : Int32) = 0 by decide), k1, o_b, power_i (a := a + 1) (n := n) (by omega) (by omega), o_b, m_power (a := a + 1) (n := n) (by omega) (by omega), k3, k4, k2, p1, o_b]
          exact ⟨_, _, _, rfl, rfl⟩
  · rw [if_neg a1, if_pos rfl, if_pos rfl]
    exact ⟨_, _, _, rfl, rfl⟩
