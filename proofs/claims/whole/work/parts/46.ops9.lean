/-! finds: day by day -/
theorem finds_l {i : Nat} (hi : i < 8) : ∀ (d j f g : Nat) (c : MC) (S : CS) (q : Nat → Int32), j + d = 61 → d < f → d < g → i < c.n → Ok c → c.dy + d < 100000 → CR c S → MRow c q → ∃ r S' q', S_Mind_daysToFind_L13 (iI i) f (iI j) S = some (r, S') ∧ S_MD_finds_L23 (iI i) g (iI j) q = some (r, q') := by
  intro d
  induction d with
  | zero =>
    intro j f g c S q hj hf hg hn hO hd hC hq
    obtain ⟨f, rfl⟩ : ∃ m, f = m + 1 := ⟨f - 1, by omega⟩
    obtain ⟨g, rfl⟩ : ∃ m, g = m + 1 := ⟨g - 1, by omega⟩
    have g1 : (60 : Int32) < iI (j : Nat) := by rw [c_60, iI_lt (by omega) (by omega) (by omega) (by omega)]; omega
    rw [S_Mind_daysToFind_L13, S_MD_finds_L23, if_pos g1, if_pos g1]
    exact ⟨_, _, _, rfl, rfl⟩
  | succ d ih =>
    intro j f g c S q hj hf hg hn hO hd hC hq
    obtain ⟨f, rfl⟩ : ∃ m, f = m + 1 := ⟨f - 1, by omega⟩
    obtain ⟨g, rfl⟩ : ∃ m, g = m + 1 := ⟨g - 1, by omega⟩
    have g1 : ¬ (60 : Int32) < iI (j : Nat) := by rw [c_60, iI_lt (by omega) (by omega) (by omega) (by omega)]; omega
    have a1 := hC.2.2.1
    have a2 : q (2 : Int32).toNatClampNeg = iI c.pl := hq.2.2.1
    rw [S_Mind_daysToFind_L13, S_MD_finds_L23, if_neg g1, if_neg g1]
    by_cases h0 : iI (c.pl : Nat) = iI (i : Nat)
    · rw [if_pos (show S.2.2.1 = iI (i : Nat) from a1.trans h0), if_pos (show q (2 : Int32).toNatClampNeg = iI (i : Nat) from a2.trans h0)]
      exact ⟨_, _, _, rfl, rfl⟩
    · rw [if_neg (show ¬ S.2.2.1 = iI (i : Nat) from fun z => h0 (a1.symm.trans z)), if_neg (show ¬ q (2 : Int32).toNatClampNeg = iI (i : Nat) from fun z => h0 (a2.symm.trans z))]
      obtain ⟨o, k1, -, k2⟩ := cr_day hO (by omega) hC
      obtain ⟨q', m1, m2⟩ := m_day hO (by omega) hq
      rw [k1, o_b, m1, o_b, c_1, iI_add]
      exact ih (j + 1) f g (day c) _ q' (by omega) (by omega) (by omega) hn hO.day (by show c.dy + 1 + d < 100000; omega) k2 m2
theorem op_finds {c : MC} {S : CS} {q : Nat → Int32} (h : Rl c S q) (x : Int32) (mS : CS) (qm : Nat → Int32) : ∃ r mS' qm', S_PL_finds x S mS = some (r, mS') ∧ S_MD_finds x q qm = some (r, qm') := by
  obtain ⟨hO, ⟨r1, r2, r3, r4, r5, r6, r7⟩, hq, hdy⟩ := h
  have hM := hO.1
  have hn := hM.1
  obtain ⟨z, hz1, hz2, rfl⟩ := iI_of x
  have e1 := has_i (n := c.n) hz1 hz2 hn
  have e2 := isMan_i hn hq hz1 hz2
  obtain ⟨q0, m1, m2⟩ := m_copies q qm
  unfold S_PL_finds S_MD_finds
  rw [r1, e1, e2, o_b]
  by_cases hi : 0 ≤ z ∧ z < c.n
  · obtain ⟨i, rfl⟩ : ∃ i : Nat, z = i := ⟨z.toNat, by omega⟩
    have hin : i < c.n := by omega
    rw [if_pos hi, if_neg (show ¬ (1 : Int32) = 0 by decide), if_neg (show ¬ (1 : Int32) = 0 by decide), m1, o_b]
    unfold S_Mind_daysToFind S_City_becomes
    rw [o_b]
    obtain ⟨r, S', q', k1, k2⟩ := finds_l (i := i) (by omega) 61 0 lfu lfu c _ q0 (by omega) (by unfold lfu; omega) (by unfold lfu; omega) hin hO (by omega) (show CR c (S.1, S.2.1, S.2.2.1, S.2.2.2.1, S.2.2.2.2.1, S.2.2.2.2.2.1, mS.2.2.2.2.2.2.1, va_cpy S.2.2.2.2.2.2.2.1 mS.2.2.2.2.2.2.2.1 (0 : Int32).toNatClampNeg (0 : Int32).toNatClampNeg (8 : Int32).toNatClampNeg, va_cpy S.2.2.2.2.2.2.2.2.1 mS.2.2.2.2.2.2.2.2.1 (0 : Int32).toNatClampNeg (0 : Int32).toNatClampNeg (8 : Int32).toNatClampNeg, va_cpy S.2.2.2.2.2.2.2.2.2.1 mS.2.2.2.2.2.2.2.2.2.1 (0 : Int32).toNatClampNeg (0 : Int32).toNatClampNeg (8 : Int32).toNatClampNeg, mS.2.2.2.2.2.2.2.2.2.2) from ⟨r1, r2, r3, r4, r5, r6, ca_cpy hn r7⟩) (hq.cp hn m2)
    refine ⟨r, S', q', ?_, k2⟩
    have k3 := congrArg (fun v => v.bind (fun r16 : Int32 × CS => some (r16.1, r16.2))) k1
    exact k3
  · rw [if_neg hi, if_pos rfl, if_pos rfl]
    exact ⟨_, _, _, rfl, rfl⟩
