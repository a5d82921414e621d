/-! the first crash -/
def MC.wc (c : MC) (v : Nat) : MC := (c.n, c.k, c.f, c.a, c.p, c.pl, c.sw, v, c.dy)
theorem crash_l : ∀ (d j f g : Nat) (c : MC) (S : CS) (q : Nat → Int32), j + d = 61 → d < f → d < g → Ok c → c.dy + d < 100000 → CR c S → MRow (c.wc 0) q → ∃ r S' q', S_Mind_daysToCrash_L13 f (iI j) S = some (r, S') ∧ S_MD_firstCrash_L20 g (iI j) q = some (r, q') := by
  intro d
  induction d with
  | zero =>
    intro j f g c S q hj hf hg hO hd hC hq
    obtain ⟨f, rfl⟩ : ∃ m, f = m + 1 := ⟨f - 1, by omega⟩
    obtain ⟨g, rfl⟩ : ∃ m, g = m + 1 := ⟨g - 1, by omega⟩
    have g1 : (60 : Int32) < iI (j : Nat) := by rw [c_60, iI_lt (by omega) (by omega) (by omega) (by omega)]; omega
    rw [S_Mind_daysToCrash_L13, S_MD_firstCrash_L20, if_pos g1, if_pos g1]
    exact ⟨_, _, _, rfl, rfl⟩
  | succ d ih =>
    intro j f g c S q hj hf hg hO hd hC hq
    obtain ⟨f, rfl⟩ : ∃ m, f = m + 1 := ⟨f - 1, by omega⟩
    obtain ⟨g, rfl⟩ : ∃ m, g = m + 1 := ⟨g - 1, by omega⟩
    have g1 : ¬ (60 : Int32) < iI (j : Nat) := by rw [c_60, iI_lt (by omega) (by omega) (by omega) (by omega)]; omega
    have hO2 : Ok (c.wc 0) := ⟨hO.1, hO.2.1, hO.2.2.1, Nat.zero_le _⟩
    obtain ⟨o, k1, k3, k2⟩ := cr_day hO (by omega) hC
    obtain ⟨q', m1, m2⟩ := m_day hO2 (by show c.dy + 1 < 1000000; omega) hq
    have e4 : q' (4 : Int32).toNatClampNeg = iI (crOf (c.wc 0)) := m2.2.2.2.2.1
    rw [S_Mind_daysToCrash_L13, S_MD_firstCrash_L20, if_neg g1, if_neg g1, k1, o_b, m1, o_b]
    by_cases hc : crashed c = true
    · have hc2 : crOf (c.wc 0) = 1 := by
        unfold crOf
        rw [if_pos (show crashed (c.wc 0) = true from hc)]
        rfl
      rw [if_pos hc] at k3
      rw [hc2] at e4
      rw [if_neg (show ¬ o.2.2.2.2.1 = 0 by rw [k3]; decide), if_neg (show ¬ q' (4 : Int32).toNatClampNeg ≤ 0 by rw [e4]; decide)]
      exact ⟨_, _, _, rfl, rfl⟩
    · have hc2 : crOf (c.wc 0) = 0 := by
        unfold crOf
        rw [if_neg (show ¬ crashed (c.wc 0) = true from hc)]
        rfl
      rw [if_neg hc] at k3
      rw [hc2] at e4
      rw [if_pos (show o.2.2.2.2.1 = 0 by rw [k3]; decide), if_pos (show q' (4 : Int32).toNatClampNeg ≤ 0 by rw [e4]; decide), c_1, iI_add]
      exact ih (j + 1) f g (day c) _ q' (by omega) (by omega) (by omega) hO.day (by show c.dy + 1 + d < 100000; omega) k2 (m2.ext rfl rfl rfl rfl hc2 (fun i hi => ⟨rfl, rfl, rfl, rfl⟩))
theorem crash_0 {c : MC} {S : CS} {q : Nat → Int32} (h : Rl c S q) (mS : CS) (qm : Nat → Int32) : ∃ r mS' qm', S_Mind_daysToCrash S mS = some (r, mS') ∧ S_MD_firstCrash q qm = some (r, qm') := by
  obtain ⟨hO, ⟨r1, r2, r3, r4, r5, r6, r7⟩, hq, hdy⟩ := h
  have hn := hO.1.1
  obtain ⟨q0, m1, m2⟩ := m_copies q qm
  unfold S_MD_firstCrash S_Mind_daysToCrash S_City_becomes
  rw [o_b, m1, o_b]
  obtain ⟨r, S', q', k1, k2⟩ := crash_l 60 1 lfu lfu c _ (upd q0 4 (iI ((0 : Nat) : Int))) (by omega) (by unfold lfu; omega) (by unfold lfu; omega) hO (by omega) (show CR c (S.1, S.2.1, S.2.2.1, S.2.2.2.1, S.2.2.2.2.1, S.2.2.2.2.2.1, mS.2.2.2.2.2.2.1, va_cpy S.2.2.2.2.2.2.2.1 mS.2.2.2.2.2.2.2.1 (0 : Int32).toNatClampNeg (0 : Int32).toNatClampNeg (8 : Int32).toNatClampNeg, va_cpy S.2.2.2.2.2.2.2.2.1 mS.2.2.2.2.2.2.2.2.1 (0 : Int32).toNatClampNeg (0 : Int32).toNatClampNeg (8 : Int32).toNatClampNeg, va_cpy S.2.2.2.2.2.2.2.2.2.1 mS.2.2.2.2.2.2.2.2.2.1 (0 : Int32).toNatClampNeg (0 : Int32).toNatClampNeg (8 : Int32).toNatClampNeg, mS.2.2.2.2.2.2.2.2.2.2) from ⟨r1, r2, r3, r4, r5, r6, ca_cpy hn r7⟩) ((hq.cp hn m2).set4 0)
  exact ⟨r, S', q', k1, k2⟩
