/-! years: seeds drawn -/
theorem iI_mod (z : Int) : iI z = iI (z + 4294967296) := by
  unfold iI
  apply Int32.toInt_inj.mp
  rw [Int32.toInt_ofInt, Int32.toInt_ofInt]
  simp only [Int32.size, Int.bmod]
  omega
theorem iI_nat (x : Int32) : ∃ n : Nat, x = iI (n : Nat) := by
  obtain ⟨z, h1, h2, rfl⟩ := iI_of x
  by_cases h : 0 ≤ z
  · exact ⟨z.toNat, by rw [show ((z.toNat : Nat) : Int) = z by omega]⟩
  · exact ⟨(z + 4294967296).toNat, by rw [show (((z + 4294967296).toNat : Nat) : Int) = z + 4294967296 by omega]; exact iI_mod z⟩
theorem iI_divN {a b : Nat} (ha : a < 2147483648) (hb : b < 2147483648) : iI (a : Nat) / iI (b : Nat) = iI ((a / b : Nat) : Int) := by
  have hq : a / b ≤ a := Nat.div_le_self _ _
  have hq0 : (0 : Int) ≤ ((a / b : Nat) : Int) := Int.natCast_nonneg _
  rw [← Int32.toInt_inj, Int32.toInt_div, iI_toInt (by omega) (by omega), iI_toInt (by omega) (by omega), iI_toInt (by omega) (by omega), show ((a : Nat) : Int).tdiv (b : Nat) = ((a / b : Nat) : Int) from rfl, Int.bmod_eq_of_le (by omega) (by omega)]
/-- the lean that a seed tells -/
theorem drawn_i (x : Int32) : ∃ z : Int, -45 ≤ z ∧ z ≤ 45 ∧ ((x &&& 2147483647) / 65536 - (x &&& 2147483647) / 65536 / 91 * 91) - 45 = iI z := by
  obtain ⟨n, rfl⟩ := iI_nat x
  have e0 : (2147483647 : Int32) = iI ((2147483647 : Nat) : Int) := by decide +kernel
  have e1 : (65536 : Int32) = iI ((65536 : Nat) : Int) := by decide +kernel
  have e2 : (91 : Int32) = iI ((91 : Nat) : Int) := by decide +kernel
  have b : n &&& 2147483647 ≤ 2147483647 := Nat.and_le_right
  rw [e0, b_andd, e1, e2]
  generalize n &&& 2147483647 = w at b ⊢
  have h1 : w / 65536 < 32768 := by omega
  rw [iI_divN (show w < 2147483648 by omega) (by omega), iI_divN (by omega) (by omega), iI_mul, iI_sub, c_45, iI_sub]
  exact ⟨_, by omega, by omega, rfl⟩
theorem wa_put (c : MC) (a : Nat → Int) (i : Nat) (v : Int) : (c.wa a).put i v = c.wa (fun j => if j = i then v else a j) := rfl
theorem years_e {c : MC} {S : CS} {q : Nat → Int32} (hO : Ok c) (hC : CR c S) (hq : MRow c q) (hd : c.dy ≤ 999) {k : Nat} (hk : k ≤ 20) (x2 x3 : Int32) (mS : CS) (qm : Nat → Int32) : ∃ o p, S_Mind_drawnYears (iI (k : Nat)) x2 x3 S mS = some o ∧ S_MD_years_L32 (iI (k : Nat)) x3 q lfu 0 0 x2 qm = some p ∧ o.1 = p.1 := by
  have hn := hO.1.1
  have e0 : q (0 : Int32).toNatClampNeg = iI c.n := hq.1
  have e4 : q (4 : Int32).toNatClampNeg = iI c.cr := hq.2.2.2.2.1
  have e5 : S.2.2.2.2.1 = iI c.cr := hC.2.2.2.2.1
  unfold S_Mind_drawnYears
  refine for_2 (fun g j (t : Int32 × Int32 × Int32 × CS) => S_Mind_drawnYears_L12 (iI (k : Nat)) x3 S g t.1 t.2.1 t.2.2.1 (iI j) t.2.2.2) (fun g j (t : Int32 × Int32 × (Nat → Int32)) => S_MD_years_L32 (iI (k : Nat)) x3 q g t.1 (iI j) t.2.1 t.2.2) (fun _ s t => s.1 = t.2.1 ∧ t.1 = (if x3 = 0 then s.2.1 else s.2.2.1)) (fun o p => o.1 = p.1) k (fun n m j s t hj hI kk => ?_) (fun n m s t hI => ?_) lfu lfu 0 (x2, 0, 0, mS) (0, x2, qm) (by unfold lfu; omega) (by unfold lfu; omega) (by omega) ⟨rfl, by show (0 : Int32) = if x3 = 0 then 0 else 0; split <;> rfl⟩
  · obtain ⟨s1, s2, s3, s4⟩ := s
    obtain ⟨t1, t2, t3⟩ := t
    obtain ⟨h1, h2⟩ := hI
    dsimp only at h1 h2 ⊢
    subst h1
    obtain ⟨q0, m1, m2⟩ := m_copies q t3
    rw [S_Mind_drawnYears_L12, S_MD_years_L32, if_neg (le_no (by omega) (by omega) hj), if_neg (le_no (by omega) (by omega) hj), m1, o_b]
    unfold S_City_becomes
    rw [o_b]
    dsimp only
    refine for_2 (fun g i (t : Int32 × CS) => S_Mind_drawnYears_L32 (S_Mind_drawnYears_L12 (iI (k : Nat)) x3 S n) s2 s3 (iI (j : Nat)) S g t.1 (iI i) t.2) (fun g i (t : Int32 × (Nat → Int32)) => S_MD_years_L52 (S_MD_years_L32 (iI (k : Nat)) x3 q m) x3 t1 (iI (j : Nat)) q g (iI i) t.1 t.2) (fun _ s t => s.1 = t.1 ∧ ∃ a : Nat → Int, Ok (c.wa a) ∧ CR (c.wa a) s.2 ∧ MRow (c.wa a) t.2) (fun o p => o.1 = p.1) c.n (fun n2 m2 i s t hi hI2 kk2 => ?_) (fun n2 m2 s t hI2 => ?_) lfu lfu 0 (s1, _) (s1, q0) (by unfold lfu; omega) (by unfold lfu; omega) (by omega) ⟨rfl, c.a, hO, cr_becomes hn hC s4 s4.2.2.2.2.2.2.1 s4.2.2.2.2.2.2.2.2.2.2, hq.cp hn m2⟩
    · obtain ⟨s1, s2⟩ := s
      obtain ⟨t1, t2⟩ := t
      obtain ⟨h1, a, hOa, hCa, hqa⟩ := hI2
      dsimp only at h1 hCa hqa ⊢
      subst h1
      obtain ⟨z, z1, z2, z3⟩ := drawn_i (s1 * 1103515245 + 12345)
      have c91 : ¬ (91 : Int32) = 0 := by decide
      have hi8 : i < 8 := by omega
      rw [S_Mind_drawnYears_L32, S_MD_years_L52, e0, show s2.1 = iI c.n from hCa.1, if_neg (le_no (by omega) (by omega) hi), if_neg (le_no (by omega) (by omega) hi), if_neg (g_8 hi8)]
      unfold S_MD_drawn
      rw [if_neg c91, o_b, if_neg (g_37 hi8), n_37 hi8]
      dsimp only
      rw [z3, iI_S, iI_N (show i < 2147483648 by omega)]
      refine kk2 (_, _) (_, _) ⟨rfl, (fun j => if j = i then z else a j), put_ok hOa z1 z2, ?_, put_row hqa z⟩
      obtain ⟨b1, b2, b3, b4, b5, b6, b7⟩ := hCa
      exact ⟨rfl, b2, b3, b4, b5, b6, put_ca b7 i z⟩
    · obtain ⟨s1, s5⟩ := s
      obtain ⟨u1, t5⟩ := t
      obtain ⟨h1, a, hOa, hCa, hqa⟩ := hI2
      dsimp only at h1 hCa hqa ⊢
      subst h1
      obtain ⟨o, k1, k2⟩ := cr_days (c := c.wa a) hOa (n := 12) (by show c.dy + 12 < 100000; omega) (by omega) hCa
      obtain ⟨q', d1, d2⟩ := m_days hOa (n := 12) (by show c.dy + 12 < 100000; omega) (by omega) hqa
      have hOd := hOa.days 12
      have u1 := up_c hOd k2
      have d1 : S_MD_daysOn 12 t5 = some q' := d1
      have k1 : S_City_passDays 12 s5.1 s5.2.1 s5.2.2.1 s5.2.2.2.1 s5.2.2.2.2.1 s5.2.2.2.2.2.1 s5.2.2.2.2.2.2.1 s5.2.2.2.2.2.2.2.1 s5.2.2.2.2.2.2.2.2.1 s5.2.2.2.2.2.2.2.2.2.1 = some o := k1
      have e6 : o.2.2.2.1 = iI (days (c.wa a) 12).cr := k2.2.2.2.2.1
      have e7 : q' (4 : Int32).toNatClampNeg = iI (days (c.wa a) 12).cr := d2.2.2.2.2.1
      dsimp only at u1
      rw [S_Mind_drawnYears_L32, S_MD_years_L52, e0, if_pos (show s5.1 ≤ iI (c.n : Nat) by rw [show s5.1 = iI c.n from hCa.1]; exact le_yes (by omega) (by omega) (Nat.le_refl _)), if_pos (le_yes (by omega) (by omega) (Nat.le_refl _)), k1, o_b, u1, o_b, d1, o_b, up_bc hOd, m_upright hOd.1 d2, o_b, up_bm hOd, o_b, e6, e7, e4, e5, iI_S]
      by_cases h3 : x3 = 0
      · rw [if_pos h3] at h2 ⊢
        exact kk (_, _, _, _) (_, _, _) ⟨rfl, by dsimp only; rw [if_pos h3, h2]⟩
      · rw [if_neg h3] at h2 ⊢
        exact kk (_, _, _, _) (_, _, _) ⟨rfl, by dsimp only; rw [if_neg h3, h2]⟩
  · obtain ⟨s1, s2, s3, s4⟩ := s
    obtain ⟨t1, t2, t3⟩ := t
    obtain ⟨h1, h2⟩ := hI
    dsimp only at h1 h2 ⊢
    rw [S_Mind_drawnYears_L12, S_MD_years_L32, if_pos (le_yes (by omega) (by omega) (Nat.le_refl _)), if_pos (le_yes (by omega) (by omega) (Nat.le_refl _))]
    by_cases h3 : x3 = 0
    · rw [if_pos h3] at h2 ⊢
      exact ⟨_, _, rfl, rfl, h2.symm⟩
    · rw [if_neg h3] at h2 ⊢
      exact ⟨_, _, rfl, rfl, h2.symm⟩
theorem op_years {c : MC} {S : CS} {q : Nat → Int32} (h : Rl c S q) (x y u sd : Int32) (mS : CS) (qm : Nat → Int32) : ∃ r mS' sd' qm', S_PL_years x y u S mS = some (r, mS') ∧ S_MD_years x y u sd q qm = some (r, sd', qm') := by
  obtain ⟨hO, hC, hq, hdy⟩ := h
  unfold S_PL_years S_MD_years
  rw [c_1, c_20, c_0]
  rcases isin_c x (a := 1) (b := 20) (by omega) (by omega) (by omega) (by omega) with ⟨j1, j2, -⟩ | ⟨k, k1, k2, rfl, j1, j2⟩
  · rw [j1, j2, if_pos (show (0 : Int32) = iI 0 by decide), if_pos (show (0 : Int32) = iI 0 by decide)]
    exact ⟨_, _, _, _, rfl, rfl⟩
  · obtain ⟨k, rfl⟩ : ∃ i : Nat, k = i := ⟨k.toNat, by omega⟩
    rw [j1, j2, if_neg (show ¬ (1 : Int32) = iI 0 by decide), if_neg (show ¬ (1 : Int32) = iI 0 by decide)]
    rcases isin_c u (a := 0) (b := 1) (by omega) (by omega) (by omega) (by omega) with ⟨j3, j4, -⟩ | ⟨w, w1, w2, rfl, j3, j4⟩
    · rw [j3, j4, if_pos (show (0 : Int32) = iI 0 by decide), if_pos (show (0 : Int32) = iI 0 by decide)]
      exact ⟨_, _, _, _, rfl, rfl⟩
    · obtain ⟨⟨o1, o2⟩, ⟨p1, p2, p3⟩, z1, z2, z3⟩ := years_e hO hC hq hdy (k := k) (by omega) y (iI w) mS qm
      dsimp only at z3
      rw [c_0] at z2
      rw [j3, j4, if_neg (show ¬ (1 : Int32) = iI 0 by decide), if_neg (show ¬ (1 : Int32) = iI 0 by decide), z1, o_b, z2, z3]
      exact ⟨_, _, _, _, rfl, rfl⟩
