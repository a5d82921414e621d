/-! shares, forged rows -/
def lI (z : Int) : Int64 := Int64.ofInt z
theorem lI_toInt {z : Int} (h1 : -9223372036854775808 ≤ z) (h2 : z < 9223372036854775808) : (lI z).toInt = z := Int64.toInt_ofInt_of_le (by omega) (by omega)
theorem lI_add (a b : Int) : lI a + lI b = lI (a + b) := (Int64.ofInt_add a b).symm
theorem lI_sub (a b : Int) : lI a - lI b = lI (a - b) := (Int64.ofInt_sub a b).symm
theorem lI_mul (a b : Int) : lI a * lI b = lI (a * b) := (Int64.ofInt_mul a b).symm
theorem lI_eq {a b : Int} (h1 : -9223372036854775808 ≤ a) (h2 : a < 9223372036854775808) (h3 : -9223372036854775808 ≤ b) (h4 : b < 9223372036854775808) : (lI a = lI b) = (a = b) := by rw [← Int64.toInt_inj, lI_toInt h1 h2, lI_toInt h3 h4]
theorem lI_div {a b : Nat} (ha : a < 4611686018427387904) (hb : b < 4611686018427387904) : lI (a : Nat) / lI (b : Nat) = lI ((a / b : Nat)) := by
  have hq : a / b ≤ a := Nat.div_le_self _ _
  have hq0 : (0 : Int) ≤ ((a / b : Nat) : Int) := Int.natCast_nonneg _
  rw [← Int64.toInt_inj, Int64.toInt_div, lI_toInt (by omega) (by omega), lI_toInt (by omega) (by omega), lI_toInt (by omega) (by omega), show ((a : Nat) : Int).tdiv (b : Nat) = ((a / b : Nat) : Int) from rfl, Int.bmod_eq_of_le (by omega) (by omega)]
theorem i_lI {z : Int} (h1 : -2147483648 ≤ z) (h2 : z < 2147483648) : (iI z).toInt64 = lI z := by
  rw [← Int64.toInt_inj, Int32.toInt_toInt64, iI_toInt h1 h2, lI_toInt (by omega) (by omega)]
theorem l_0 : (0 : Int64) = lI 0 := by decide +kernel
theorem l_1 : (1 : Int64) = lI 1 := by decide +kernel
theorem lI_rem {a b : Nat} (ha : a < 4611686018427387904) (hb : b < 4611686018427387904) : lI (a : Nat) - lI (a : Nat) / lI (b : Nat) * lI (b : Nat) = lI ((a % b : Nat)) := by
  rw [lI_div ha hb, lI_mul, lI_sub]
  congr 1
  have := Nat.div_add_mod a b
  have e : ((a / b : Nat) : Int) * (b : Int) = ((b * (a / b) : Nat) : Int) := by rw [Nat.mul_comm, Int.natCast_mul]
  rw [e]
  omega
theorem lg_0 {b : Nat} (hb : b < 4611686018427387904) : (lg_cmp (lI (b : Nat)) 0 = 0) = (b = 0) := by
  apply propext
  rw [lg_cmp_eq, l_0, lI_eq (by omega) (by omega) (by omega) (by omega)]
  omega
theorem l_z {b : Nat} (hb : b < 4611686018427387904) : (lI (b : Nat) = 0) = (b = 0) := by
  apply propext
  rw [l_0, lI_eq (by omega) (by omega) (by omega) (by omega)]
  omega
theorem gcd_st (a b : Nat) : Nat.gcd a b = Nat.gcd b (a % b) := by rw [Nat.gcd_comm a b, Nat.gcd_rec b a, Nat.gcd_comm]
theorem gcd_l : ∀ (k a b f g y : Nat), a < 4611686018427387904 → b < 4611686018427387904 → b < 2 ^ k → 2 * k + 1 ≤ f → 2 * k + 1 ≤ g → y + 2 * k + 1 ≤ 1000 → S_PL_commonDivisor_L9 f (lI (a : Nat)) (lI (b : Nat)) (iI (y : Nat)) = some (lI (Nat.gcd a b : Nat)) ∧ S_MD_gcd_L6 g (lI (a : Nat)) (lI (b : Nat)) = some (lI (Nat.gcd a b : Nat)) := by
  have base : ∀ (a f g y : Nat), 1 ≤ f → 1 ≤ g → y + 1 ≤ 1000 → S_PL_commonDivisor_L9 f (lI (a : Nat)) (lI ((0 : Nat) : Int)) (iI (y : Nat)) = some (lI (Nat.gcd a 0 : Nat)) ∧ S_MD_gcd_L6 g (lI (a : Nat)) (lI ((0 : Nat) : Int)) = some (lI (Nat.gcd a 0 : Nat)) := by
    intro a f g y hf hg hy
    obtain ⟨f, rfl⟩ : ∃ m, f = m + 1 := ⟨f - 1, by omega⟩
    obtain ⟨g, rfl⟩ : ∃ m, g = m + 1 := ⟨g - 1, by omega⟩
    have z : lg_cmp (lI ((0 : Nat) : Int)) 0 = 0 := by rw [lg_0 (by omega)]
    rw [S_PL_commonDivisor_L9, S_MD_gcd_L6, if_neg (show ¬ (1000 : Int32) ≤ iI (y : Nat) by rw [c_1000, iI_le (by omega) (by omega) (by omega) (by omega)]; omega), if_pos z, if_pos z, Nat.gcd_zero_right]
    exact ⟨rfl, rfl⟩
  intro k
  induction k with
  | zero =>
    intro a b f g y ha hb hk hf hg hy
    obtain rfl : b = 0 := by
      rw [Nat.pow_zero] at hk
      omega
    exact base a f g y (by omega) (by omega) (by omega)
  | succ k ih =>
    intro a b f g y ha hb hk hf hg hy
    by_cases b0 : b = 0
    · subst b0
      exact base a f g y (by omega) (by omega) (by omega)
    · obtain ⟨f, rfl⟩ : ∃ m, f = m + 2 := ⟨f - 2, by omega⟩
      obtain ⟨g, rfl⟩ : ∃ m, g = m + 2 := ⟨g - 2, by omega⟩
      have n1 : ¬ lg_cmp (lI (b : Nat)) 0 = 0 := by rw [lg_0 hb]; exact b0
      have n2 : ¬ lI (b : Nat) = 0 := by rw [l_z hb]; exact b0
      have hr : a % b < b := Nat.mod_lt _ (by omega)
      rw [S_PL_commonDivisor_L9, S_MD_gcd_L6, if_neg (show ¬ (1000 : Int32) ≤ iI (y : Nat) by rw [c_1000, iI_le (by omega) (by omega) (by omega) (by omega)]; omega), if_neg n1, if_neg n1, if_neg n2, if_neg n2, lI_rem ha hb, iI_S, gcd_st a b]
      by_cases r0 : a % b = 0
      · rw [r0]
        exact base b (f + 1) (g + 1) (y + 1) (by omega) (by omega) (by omega)
      · have hr2 : b % (a % b) < a % b := Nat.mod_lt _ (by omega)
        have hr3 : b % (a % b) + a % b ≤ b := by
          have h1 := Nat.div_add_mod b (a % b)
          have h2 : 1 ≤ b / (a % b) := (Nat.one_le_div_iff (by omega)).mpr (by omega)
          have h3 : (a % b) * 1 ≤ (a % b) * (b / (a % b)) := Nat.mul_le_mul_left _ h2
          omega
        have n3 : ¬ lg_cmp (lI ((a % b : Nat) : Int)) 0 = 0 := by rw [lg_0 (by omega)]; exact r0
        have n4 : ¬ lI ((a % b : Nat) : Int) = 0 := by rw [l_z (by omega)]; exact r0
        rw [S_PL_commonDivisor_L9, S_MD_gcd_L6, if_neg (show ¬ (1000 : Int32) ≤ iI ((y + 1 : Nat) : Int) by rw [c_1000, iI_le (by omega) (by omega) (by omega) (by omega)]; omega), if_neg n3, if_neg n3, if_neg n4, if_neg n4, lI_rem hb (by omega), iI_S, gcd_st b (a % b)]
        exact ih (a % b) (b % (a % b)) f g (y + 1 + 1) (by omega) (by omega) (by rw [Nat.pow_succ] at hk; omega) (by omega) (by omega) (by omega)
theorem part_e {a b : Nat} (ha : a < 4611686018427387904) (hb : b < 4611686018427387904) {t : Int32} (ht : t = 0 ∨ t = 1) : ∃ r, S_PL_leastTerm (lI (a : Nat)) (lI (b : Nat)) t = some r ∧ S_MD_partOf (lI (a : Nat)) (lI (b : Nat)) t = some r := by
  have z := gcd_l 62 a b lfu lfu 0 ha hb (by have e : (2 : Nat) ^ 62 = 4611686018427387904 := by decide
                                             omega) (by unfold lfu; omega) (by unfold lfu; omega) (by omega)
  have z1 : S_PL_commonDivisor (lI (a : Nat)) (lI (b : Nat)) = some (lI (Nat.gcd a b : Nat)) := z.1
  have z2 : S_MD_gcd (lI (a : Nat)) (lI (b : Nat)) = some (lI (Nat.gcd a b : Nat)) := z.2
  unfold S_PL_leastTerm S_MD_partOf
  rw [z1, z2, o_b, o_b, o_b]
  by_cases a0 : a = 0
  · subst a0
    rw [Nat.gcd_zero_left, if_pos (show lg_cmp (lI ((0 : Nat) : Int)) 0 = 0 by rw [lg_0 (by omega)])]
    by_cases b0 : b = 0
    · rw [if_pos (show lg_cmp (lI (b : Nat)) 0 = 0 by rw [lg_0 hb]; exact b0)]
      exact ⟨_, rfl, rfl⟩
    · have n1 : ¬ lI (b : Nat) = 0 := by rw [l_z hb]; exact b0
      rw [if_neg (show ¬ lg_cmp (lI (b : Nat)) 0 = 0 by rw [lg_0 hb]; exact b0), if_neg n1, if_neg n1]
      rcases ht with rfl | rfl
      · refine ⟨_, if_pos rfl, ?_⟩
        rw [lI_div (by omega) hb, Nat.zero_div]
        rfl
      · refine ⟨_, if_neg (show ¬ (1 : Int32) = 0 by decide), ?_⟩
        rw [lI_div hb hb, Nat.div_self (by omega)]
        rfl
  · have g0 : ¬ Nat.gcd a b = 0 := by
      intro y
      exact a0 (Nat.eq_zero_of_gcd_eq_zero_left y)
    have gl : Nat.gcd a b ≤ a := Nat.gcd_le_left b (by omega)
    have n1 : ¬ lI (Nat.gcd a b : Nat) = 0 := by rw [l_z (by omega)]; exact g0
    rw [if_neg (show ¬ lg_cmp (lI (Nat.gcd a b : Nat)) 0 = 0 by rw [lg_0 (by omega)]; exact g0), if_neg (show ¬ lg_cmp (lI (a : Nat)) 0 = 0 by rw [lg_0 ha]; exact a0), if_neg n1, if_neg n1]
    rcases ht with rfl | rfl
    · exact ⟨_, if_pos rfl, if_pos rfl⟩
    · exact ⟨_, if_neg (show ¬ (1 : Int32) = 0 by decide), if_neg (show ¬ (1 : Int32) = 0 by decide)⟩
theorem op_mean {c : MC} {S : CS} {q : Nat → Int32} (h : Rl c S q) (x : Int32) : ∃ r, S_PL_mean x S = some r ∧ S_MD_mean x q = some r := by
  obtain ⟨hO, ⟨r1, r2, r3, r4, r5, r6, r7⟩, hq, -⟩ := h
  have hM := hO.1
  have hn := hM.1
  have b := sumA_b hM.ab
  unfold S_PL_mean S_MD_mean
  rw [c_0, c_1, r1, s_sum hn r7.la, m_sum hM hq, o_b, o_b, show q (iI 0).toNatClampNeg = iI c.n from hq.1, c_45, iI_mul, iI_add, i_lI (by omega) (by omega), i_lI (by omega) (by omega)]
  obtain ⟨m, hm⟩ : ∃ m : Nat, sumA c.a c.n + 45 * (c.n : Int) = m := ⟨(sumA c.a c.n + 45 * (c.n : Int)).toNat, by omega⟩
  rw [hm]
  rcases isin_c x (a := 0) (b := 1) (by omega) (by omega) (by omega) (by omega) with ⟨i1, i2, -⟩ | ⟨w, w1, w2, rfl, i1, i2⟩
  · rw [i1, i2, if_pos (show (0 : Int32) = iI 0 by decide), if_pos (show (0 : Int32) = iI 0 by decide)]
    exact ⟨_, rfl, rfl⟩
  · rw [i1, i2, if_neg (show ¬ (1 : Int32) = iI 0 by decide), if_neg (show ¬ (1 : Int32) = iI 0 by decide)]
    have hw : iI w = 0 ∨ iI w = 1 := by
      rcases (show w = 0 ∨ w = 1 by omega) with rfl | rfl
      · exact Or.inl (by decide)
      · exact Or.inr (by decide)
    obtain ⟨r, k1, k2⟩ := part_e (a := m) (b := c.n) (by omega) (by omega) hw
    rw [k1, k2, o_b]
    by_cases n0 : c.n = 0
    · rw [if_pos (show iI (c.n : Nat) = iI 0 by rw [n0]; rfl)]
      refine ⟨_, rfl, ?_⟩
      rw [← k2]
      unfold S_MD_partOf
      have m0 : m = 0 := by
        have e : sumA c.a c.n = 0 := by rw [n0]; rfl
        rw [e, n0] at hm
        omega
      rw [if_pos (show lg_cmp (lI (m : Nat)) 0 = 0 by rw [lg_0 (by omega)]; exact m0)]
    · rw [if_neg (show ¬ iI (c.n : Nat) = iI 0 by rw [iI_eq (by omega) (by omega) (by omega) (by omega)]; omega)]
      exact ⟨_, rfl, rfl⟩
theorem op_forged {c : MC} {S : CS} {q : Nat → Int32} (h : Rl c S q) (x : Int32) {d : Nat} (hx : Is x d) {kd fg so sz he : Int32} {el K KK KF Q Z E : Nat → Int32} (hR : RS kd fg so sz he el d K KK KF Q Z E) : ∃ r, S_PL_forged x S sz he el = some r ∧ S_MD_forged x q K Q Z E = some r := by
  obtain ⟨hO, ⟨r1, r2, r3, r4, r5, r6, r7⟩, hq, -⟩ := h
  have hM := hO.1
  have hn := hM.1
  obtain ⟨r, k1, k2, k3⟩ := ref_row x hx hR
  unfold S_PL_forged S_MD_forged
  rw [k1, k2, o_b, o_b]
  rcases k3 with hr | ⟨rfl, rfl, hK, rfl, s, z, a1, a2, rfl, rfl, a5, a6, a7, a8⟩
  · rw [if_neg hr, if_neg hr]
    exact ⟨_, rfl, rfl⟩
  · have hd := hx.1
    rw [if_pos rfl, if_pos rfl, if_neg (g_8 hd)]
    have key : ∃ o p, S_PL_firstForged S (iI (z : Nat)) el = some o ∧ S_MD_forged_L15 (iI (d : Nat)) q Z E lfu 0 = some p ∧ o = p := by
      unfold S_PL_firstForged
      refine for_2 (fun g j (_ : Unit) => S_PL_firstForged_L2 S (iI (z : Nat)) el g (iI j)) (fun g j (_ : Unit) => S_MD_forged_L15 (iI (d : Nat)) q Z E g (iI j)) (fun _ _ _ => True) (fun o p => o = p) z (fun n m j s t hj hI kk => ?_) (fun n m s t hI => ?_) lfu lfu 0 () () (by unfold lfu; omega) (by unfold lfu; omega) (by omega) trivial
      · show ∃ o p, S_PL_firstForged_L2 _ _ _ (n + 1) _ = some o ∧ S_MD_forged_L15 _ _ _ _ (m + 1) _ = some p ∧ _
        rw [S_PL_firstForged_L2, S_MD_forged_L15, if_neg (g_8 hd), iI_N (show d < 2147483648 by omega), a6, if_neg (le_no (by omega) (by omega) hj), if_neg (le_no (by omega) (by omega) hj), r1, has_i (by omega) (by omega) hn, isMan_i hn hq (by omega) (by omega), o_b]
        by_cases hjn : (0 : Int) ≤ (j : Int) ∧ (j : Int) < c.n
        · rw [if_pos hjn, if_neg (show ¬ (1 : Int32) = 0 by decide), if_neg (show ¬ (1 : Int32) = 0 by decide), if_neg (g_100 (by omega)), if_neg (g_8 (show j < 8 by omega)), if_neg (g_800 hd (by omega)), if_neg (g_37 (by omega)), n_37 (by omega), n_800 hd (by omega), iI_N (show j < 2147483648 by omega), a7 j (by omega), (r7 j (by omega)).2.2, (hq.at (show j < c.n by omega)).2.2.1, iI_S]
          by_cases he : el j = iI (c.a j)
          · rw [if_pos he, if_pos he]
            exact kk () () trivial
          · rw [if_neg he, if_neg he]
            exact ⟨_, _, rfl, rfl, rfl⟩
        · rw [if_neg hjn, if_pos rfl, if_pos rfl]
          exact ⟨_, _, rfl, rfl, rfl⟩
      · show ∃ o p, S_PL_firstForged_L2 _ _ _ (n + 1) _ = some o ∧ S_MD_forged_L15 _ _ _ _ (m + 1) _ = some p ∧ _
        rw [S_PL_firstForged_L2, S_MD_forged_L15, if_neg (g_8 hd), iI_N (show d < 2147483648 by omega), a6, if_pos (le_yes (by omega) (by omega) (Nat.le_refl _)), if_pos (le_yes (by omega) (by omega) (Nat.le_refl _))]
        exact ⟨_, _, rfl, rfl, rfl⟩
    obtain ⟨o, p, e1, e2, rfl⟩ := key
    rw [e1, e2, o_b]
    exact ⟨_, rfl, rfl⟩
