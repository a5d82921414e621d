theorem m_plumb {c : MC} (h : Men c.n c.k c.f c.a) {q : Nat → Int32} (hq : MRow c q) : S_MD_plumb q = some (iI (if c.n = 0 then -4 else (pb c.a c.n : Nat))) := by
  unfold S_MD_plumb
  have hn := h.1
  have e0 := hq.1
  refine for_g (fun g j => S_MD_plumb_L5 q g (iI (if j = 0 then -4 else (pb c.a j : Nat))) (iI j)) c.n _ (fun g j hj => ?_) (fun g => ?_) lfu (by unfold lfu; omega)
  · show S_MD_plumb_L5 q (g + 1) _ _ = _
    rw [S_MD_plumb_L5]
    by_cases h0 : j = 0
    · subst h0
      simp (disch := omega) only [Int.toNat_natCast, if_true, if_false, iI_add, iI_sub, iI_mul, iI_neg, iI_le, iI_lt, iI_eq, iI_N, iI_Nz, c_0, c_1, c_2, c_3, c_4, c_5, c_6, c_7, c_8, c_9, c_10, c_11, c_12, c_13, c_16, c_20, c_23, c_26, c_30, c_31, c_32, c_37, c_45, c_48, c_57, c_59, c_60, c_63, c_64, c_90, c_91, c_97, c_100, c_108, c_109, c_114, c_119, c_127, c_128, c_200, c_255, c_256, c_999, c_1000, c_2000, c_12345, c_32768, c_65536, of_n0, of_n1, of_n2, of_n3, of_g0, of_g1, of_g2, of_g3, n_0, n_1, n_2, n_3, n_4, t_0, t_1, t_2, t_3, t_4, e0, if_pos, if_neg, pb]
      rfl
    · have hlt := pb_lt c.a j (by omega)
      obtain ⟨-, -, e1, -⟩ := hq.at hj
      obtain ⟨-, -, e2, -⟩ := hq.at (i := pb c.a j) (by omega)
      obtain ⟨-, -, b1, b2⟩ := h.2 j hj
      obtain ⟨-, -, b3, b4⟩ := h.2 (pb c.a j) (by omega)
      have e3 := m_sized (z := c.a j) (by omega) (by omega)
      have e4 := m_sized (z := c.a (pb c.a j)) (by omega) (by omega)
      have h1 : ¬ j + 1 = 0 := by omega
      simp (disch := omega) only [Int.toNat_natCast, if_true, if_false, iI_add, iI_sub, iI_mul, iI_neg, iI_le, iI_lt, iI_eq, iI_N, iI_Nz, c_0, c_1, c_2, c_3, c_4, c_5, c_6, c_7, c_8, c_9, c_10, c_11, c_12, c_13, c_16, c_20, c_23, c_26, c_30, c_31, c_32, c_37, c_45, c_48, c_57, c_59, c_60, c_63, c_64, c_90, c_91, c_97, c_100, c_108, c_109, c_114, c_119, c_127, c_128, c_200, c_255, c_256, c_999, c_1000, c_2000, c_12345, c_32768, c_65536, of_n0, of_n1, of_n2, of_n3, of_g0, of_g1, of_g2, of_g3, n_0, n_1, n_2, n_3, n_4, t_0, t_1, t_2, t_3, t_4, e0, h0, h1, e1, e2, e3, e4]
      by_cases hc : (c.a j).natAbs < (c.a (pb c.a j)).natAbs
      · simp (disch := omega) only [if_pos, if_neg, pb, Int.natCast_succ]
      · simp (disch := omega) only [if_pos, if_neg, pb, Int.natCast_succ]
  · show S_MD_plumb_L5 q (g + 1) _ _ = _
    rw [S_MD_plumb_L5]
    simp (disch := omega) only [Int.toNat_natCast, if_true, if_false, iI_add, iI_sub, iI_mul, iI_neg, iI_le, iI_lt, iI_eq, iI_N, iI_Nz, c_0, c_1, c_2, c_3, c_4, c_5, c_6, c_7, c_8, c_9, c_10, c_11, c_12, c_13, c_16, c_20, c_23, c_26, c_30, c_31, c_32, c_37, c_45, c_48, c_57, c_59, c_60, c_63, c_64, c_90, c_91, c_97, c_100, c_108, c_109, c_114, c_119, c_127, c_128, c_200, c_255, c_256, c_999, c_1000, c_2000, c_12345, c_32768, c_65536, of_n0, of_n1, of_n2, of_n3, of_g0, of_g1, of_g2, of_g3, n_0, n_1, n_2, n_3, n_4, t_0, t_1, t_2, t_3, t_4, e0, if_pos]
theorem m_turn {c : MC} (hn : c.n ≤ 8) {q : Nat → Int32} (hq : MRow c q) : ∃ o, S_MD_turnsRound q = some o ∧ MRow (c.wa (turned c.p c.a)) o := by
  unfold S_MD_turnsRound
  refine for_i (fun g j s => S_MD_turnsRound_L2 g (iI j) s) (fun j s => MRow (c.wa (mix (turned c.p c.a) c.a j)) s) (fun o => MRow (c.wa (turned c.p c.a)) o) c.n (fun g j s hj hI kk => ?_) (fun g s hI => ?_) lfu q (by unfold lfu; omega) (hq.ext rfl rfl rfl rfl rfl (fun i hi => ⟨rfl, rfl, by simp [MC.wa, MC.a, mix], rfl⟩))
  · have e0 : s 0 = iI c.n := hI.1
    obtain ⟨-, -, e3, e4⟩ := hI.at hj
    have e3 : s (7 + 4 * j) = iI (c.a j) := by rw [e3]; show iI (mix _ _ j j) = _; simp [mix]
    have e4 : s (8 + 4 * j) = iI (if c.p j then 1 else 0) := e4
    show ∃ o, S_MD_turnsRound_L2 (g + 1) _ _ = some o ∧ _
    rw [S_MD_turnsRound_L2]
    by_cases hp : c.p j = true
    · rw [if_pos hp] at e4
      obtain ⟨o, k1, k2⟩ := kk s (hI.ext rfl rfl rfl rfl rfl (fun i hi => ⟨rfl, rfl, by
        show mix _ _ j i = mix _ _ (j + 1) i
        by_cases hij : i = j
        · subst hij; simp [mix, turned, hp]
        · have : (i < j + 1) = (i < j) := propext ⟨fun z => by omega, fun z => by omega⟩
          simp [mix, this], rfl⟩))
      refine ⟨o, ?_, k2⟩
      rw [← k1]
      simp (disch := omega) only [Int.toNat_natCast, if_true, if_false, iI_add, iI_sub, iI_mul, iI_neg, iI_le, iI_lt, iI_eq, iI_N, iI_Nz, c_0, c_1, c_2, c_3, c_4, c_5, c_6, c_7, c_8, c_9, c_10, c_11, c_12, c_13, c_16, c_20, c_23, c_26, c_30, c_31, c_32, c_37, c_45, c_48, c_57, c_59, c_60, c_63, c_64, c_90, c_91, c_97, c_100, c_108, c_109, c_114, c_119, c_127, c_128, c_200, c_255, c_256, c_999, c_1000, c_2000, c_12345, c_32768, c_65536, of_n0, of_n1, of_n2, of_n3, of_g0, of_g1, of_g2, of_g3, n_0, n_1, n_2, n_3, n_4, t_0, t_1, t_2, t_3, t_4, e0, e3, e4, if_pos, if_neg, Int.natCast_succ]
    · rw [if_neg hp] at e4
      obtain ⟨o, k1, k2⟩ := kk (upd s (7 + 4 * j) (iI (- c.a j))) (hI.setA (by simp [turned, hp]))
      refine ⟨o, ?_, k2⟩
      rw [← k1]
      simp (disch := omega) only [Int.toNat_natCast, if_true, if_false, iI_add, iI_sub, iI_mul, iI_neg, iI_le, iI_lt, iI_eq, iI_N, iI_Nz, c_0, c_1, c_2, c_3, c_4, c_5, c_6, c_7, c_8, c_9, c_10, c_11, c_12, c_13, c_16, c_20, c_23, c_26, c_30, c_31, c_32, c_37, c_45, c_48, c_57, c_59, c_60, c_63, c_64, c_90, c_91, c_97, c_100, c_108, c_109, c_114, c_119, c_127, c_128, c_200, c_255, c_256, c_999, c_1000, c_2000, c_12345, c_32768, c_65536, of_n0, of_n1, of_n2, of_n3, of_g0, of_g1, of_g2, of_g3, n_0, n_1, n_2, n_3, n_4, t_0, t_1, t_2, t_3, t_4, e0, e3, e4, if_pos, if_neg, Int.natCast_succ]
  · refine ⟨s, ?_, hI.ext rfl rfl rfl rfl rfl (fun i hi => ⟨rfl, rfl, by
      have hi : i < c.n := hi
      show mix _ _ _ i = turned c.p c.a i
      simp [mix, hi], rfl⟩)⟩
    have e0 : s 0 = iI c.n := hI.1
    show S_MD_turnsRound_L2 (g + 1) _ _ = _
    rw [S_MD_turnsRound_L2]
    simp (disch := omega) only [Int.toNat_natCast, if_true, if_false, iI_add, iI_sub, iI_mul, iI_neg, iI_le, iI_lt, iI_eq, iI_N, iI_Nz, c_0, c_1, c_2, c_3, c_4, c_5, c_6, c_7, c_8, c_9, c_10, c_11, c_12, c_13, c_16, c_20, c_23, c_26, c_30, c_31, c_32, c_37, c_45, c_48, c_57, c_59, c_60, c_63, c_64, c_90, c_91, c_97, c_100, c_108, c_109, c_114, c_119, c_127, c_128, c_200, c_255, c_256, c_999, c_1000, c_2000, c_12345, c_32768, c_65536, of_n0, of_n1, of_n2, of_n3, of_g0, of_g1, of_g2, of_g3, n_0, n_1, n_2, n_3, n_4, t_0, t_1, t_2, t_3, t_4, e0, if_pos]
theorem m_lead {c : MC} (h : Men c.n c.k c.f c.a) (hp : c.pl ≤ 7) (hs : c.sw ≤ 9) {q : Nat → Int32} (hq : MRow c q) : ∃ o, S_MD_leadGoes q = some o ∧ MRow (c.n, c.k, c.f, c.a, c.p, leadTo c.n c.pl c.sw c.a, c.sw, c.cr, c.dy) o := by
  have hn := h.1
  obtain ⟨e0, e1, e2, e3, e4, -⟩ := id hq
  unfold S_MD_leadGoes
  rw [m_plumb h hq]
  by_cases h0 : c.n = 0
  · refine ⟨q, ?_, hq.ext rfl rfl (show c.pl = leadTo c.n c.pl c.sw c.a by unfold leadTo; rw [if_pos h0]) rfl rfl (fun i hi => ⟨rfl, rfl, rfl, rfl⟩)⟩
    simp (disch := omega) only [Int.toNat_natCast, if_true, if_false, iI_add, iI_sub, iI_mul, iI_neg, iI_le, iI_lt, iI_eq, iI_N, iI_Nz, c_0, c_1, c_2, c_3, c_4, c_5, c_6, c_7, c_8, c_9, c_10, c_11, c_12, c_13, c_16, c_20, c_23, c_26, c_30, c_31, c_32, c_37, c_45, c_48, c_57, c_59, c_60, c_63, c_64, c_90, c_91, c_97, c_100, c_108, c_109, c_114, c_119, c_127, c_128, c_200, c_255, c_256, c_999, c_1000, c_2000, c_12345, c_32768, c_65536, of_n0, of_n1, of_n2, of_n3, of_g0, of_g1, of_g2, of_g3, n_0, n_1, n_2, n_3, n_4, t_0, t_1, t_2, t_3, t_4, e0, if_pos]
  · have hlt := pb_lt c.a c.n (by omega)
    by_cases h1 : 0 < c.sw
    · by_cases h2 : c.pl + 1 < c.n
      · refine ⟨_, ?_, (hq.set2 (c.pl + 1)).ext rfl rfl (show c.pl + 1 = leadTo c.n c.pl c.sw c.a by unfold leadTo; rw [if_neg h0, if_pos h1, if_pos h2]) rfl rfl (fun i hi => ⟨rfl, rfl, rfl, rfl⟩)⟩
        simp (disch := omega) only [Int.toNat_natCast, if_true, if_false, iI_add, iI_sub, iI_mul, iI_neg, iI_le, iI_lt, iI_eq, iI_N, iI_Nz, c_0, c_1, c_2, c_3, c_4, c_5, c_6, c_7, c_8, c_9, c_10, c_11, c_12, c_13, c_16, c_20, c_23, c_26, c_30, c_31, c_32, c_37, c_45, c_48, c_57, c_59, c_60, c_63, c_64, c_90, c_91, c_97, c_100, c_108, c_109, c_114, c_119, c_127, c_128, c_200, c_255, c_256, c_999, c_1000, c_2000, c_12345, c_32768, c_65536, of_n0, of_n1, of_n2, of_n3, of_g0, of_g1, of_g2, of_g3, n_0, n_1, n_2, n_3, n_4, t_0, t_1, t_2, t_3, t_4, e0, e2, e3, if_pos, if_neg, Int.natCast_succ]
      · refine ⟨_, ?_, (hq.set2 0).ext rfl rfl (show 0 = leadTo c.n c.pl c.sw c.a by unfold leadTo; rw [if_neg h0, if_pos h1, if_neg h2]) rfl rfl (fun i hi => ⟨rfl, rfl, rfl, rfl⟩)⟩
        simp (disch := omega) only [Int.toNat_natCast, if_true, if_false, iI_add, iI_sub, iI_mul, iI_neg, iI_le, iI_lt, iI_eq, iI_N, iI_Nz, c_0, c_1, c_2, c_3, c_4, c_5, c_6, c_7, c_8, c_9, c_10, c_11, c_12, c_13, c_16, c_20, c_23, c_26, c_30, c_31, c_32, c_37, c_45, c_48, c_57, c_59, c_60, c_63, c_64, c_90, c_91, c_97, c_100, c_108, c_109, c_114, c_119, c_127, c_128, c_200, c_255, c_256, c_999, c_1000, c_2000, c_12345, c_32768, c_65536, of_n0, of_n1, of_n2, of_n3, of_g0, of_g1, of_g2, of_g3, n_0, n_1, n_2, n_3, n_4, t_0, t_1, t_2, t_3, t_4, e0, e2, e3, if_pos, if_neg]
        rfl
    · have e5 := m_sign (z := (pb c.a c.n : Nat) - (c.pl : Int)) (by omega) (by omega)
      refine ⟨_, ?_, (hq.set2 (if c.pl < pb c.a c.n then c.pl + 1 else if pb c.a c.n < c.pl then c.pl - 1 else c.pl)).ext rfl rfl (show _ = leadTo c.n c.pl c.sw c.a by unfold leadTo; rw [if_neg h0, if_neg h1]; rfl) rfl rfl (fun i hi => ⟨rfl, rfl, rfl, rfl⟩)⟩
      have e6 : (c.pl : Int) + (if (pb c.a c.n : Nat) - (c.pl : Int) ≤ 0 then (if 0 ≤ (pb c.a c.n : Nat) - (c.pl : Int) then 0 else -1) else 1) = ((if c.pl < pb c.a c.n then c.pl + 1 else if pb c.a c.n < c.pl then c.pl - 1 else c.pl : Nat) : Int) := by
        split
        · split
          · split
            · omega
            · split <;> omega
          · split
            · omega
            · split <;> omega
        · split <;> omega
      simp (disch := omega) only [Int.toNat_natCast, if_true, if_false, iI_add, iI_sub, iI_mul, iI_neg, iI_le, iI_lt, iI_eq, iI_N, iI_Nz, c_0, c_1, c_2, c_3, c_4, c_5, c_6, c_7, c_8, c_9, c_10, c_11, c_12, c_13, c_16, c_20, c_23, c_26, c_30, c_31, c_32, c_37, c_45, c_48, c_57, c_59, c_60, c_63, c_64, c_90, c_91, c_97, c_100, c_108, c_109, c_114, c_119, c_127, c_128, c_200, c_255, c_256, c_999, c_1000, c_2000, c_12345, c_32768, c_65536, t_0, t_1, t_2, t_3, t_4, n_0, n_2, n_3, e0, e2, e3, if_pos, if_neg, h0, Option.bind_some, e5, e6]
theorem m_day {c : MC} (h : Ok c) (hd : c.dy + 1 < 1000000) {q : Nat → Int32} (hq : MRow c q) : ∃ o, S_MD_day q = some o ∧ MRow (day c) o := by
  have hM := h.1
  have hn := hM.1
  have hm := meanOf_b h
  have hq1 := hq.set1 (c.dy + 1)
  have key : ∀ q1 : Nat → Int32, MRow (c.n, c.k, c.f, c.a, c.p, c.pl, c.sw, c.cr, c.dy + 1) q1 → ∃ o, S_MD_day_L28 (iI (meanOf c)) lfu (iI ((0 : Nat) : Int)) q1 = some o ∧ MRow (day c) o := by
    intro q1 hq1
    refine for_i (fun g j s => S_MD_day_L28 (iI (meanOf c)) g (iI j) s) (fun j s => MRow (MC.wa (c.n, c.k, c.f, c.a, c.p, c.pl, c.sw, c.cr, c.dy + 1) (mix (a1Of c) c.a j)) s) (fun o => MRow (day c) o) c.n (fun g j s hj hI kk => ?_) (fun g s hI => ?_) lfu q1 (by unfold lfu; omega) (hq1.ext rfl rfl rfl rfl rfl (fun i hi => ⟨rfl, rfl, by simp [MC.wa, MC.a, mix], rfl⟩))
    · have e0 : s 0 = iI c.n := hI.1
      have e10 : s 1 = iI ((c.dy + 1 : Nat) : Int) := hI.2.1
      obtain ⟨e1, e2, e3, e4⟩ := hI.at hj
      have e1 : s (5 + 4 * j) = iI (c.k j) := e1
      have e2 : s (6 + 4 * j) = iI (c.f j) := e2
      have e3 : s (7 + 4 * j) = iI (c.a j) := by rw [e3]; show iI (mix _ _ j j) = _; simp [mix]
      have e4 : s (8 + 4 * j) = iI (if c.p j then 1 else 0) := e4
      obtain ⟨b1, b2, b3, b4⟩ := hM.2 j hj
      have e5 := m_moves (k := c.k j) (f := c.f j) (x := c.a j) (mean := meanOf c) (dy := c.dy + 1) b1 b2 b3 b4 hm.1 hm.2 hd
      have b5 := more_b (c.k j) (c.f j) (c.a j) (meanOf c) (c.dy + 1) b2
      have e6 := m_held (z := c.a j + more (c.k j) (c.f j) (c.a j) (meanOf c) (c.dy + 1)) (by omega) (by omega)
      show ∃ o, S_MD_day_L28 _ (g + 1) _ _ = some o ∧ _
      rw [S_MD_day_L28]
      by_cases hp : c.p j = true
      · rw [if_pos hp] at e4
        obtain ⟨o, k1, k2⟩ := kk s (hI.ext rfl rfl rfl rfl rfl (fun i hi => ⟨rfl, rfl, by
          show mix _ _ j i = mix _ _ (j + 1) i
          by_cases hij : i = j
          · subst hij; simp [mix, a1Of, hp]
          · have : (i < j + 1) = (i < j) := propext ⟨fun z => by omega, fun z => by omega⟩
            simp [mix, this], rfl⟩))
        refine ⟨o, ?_, k2⟩
        rw [← k1]
        simp (disch := omega) only [Int.toNat_natCast, if_true, if_false, iI_add, iI_sub, iI_mul, iI_neg, iI_le, iI_lt, iI_eq, iI_N, iI_Nz, c_0, c_1, c_2, c_3, c_4, c_5, c_6, c_7, c_8, c_9, c_10, c_11, c_12, c_13, c_16, c_20, c_23, c_26, c_30, c_31, c_32, c_37, c_45, c_48, c_57, c_59, c_60, c_63, c_64, c_90, c_91, c_97, c_100, c_108, c_109, c_114, c_119, c_127, c_128, c_200, c_255, c_256, c_999, c_1000, c_2000, c_12345, c_32768, c_65536, of_n0, of_n1, of_n2, of_n3, of_g0, of_g1, of_g2, of_g3, n_0, n_1, n_2, n_3, n_4, t_0, t_1, t_2, t_3, t_4, e0, e4, if_pos, if_neg, Int.natCast_succ]
      · rw [if_neg hp] at e4
        obtain ⟨o, k1, k2⟩ := kk (upd s (7 + 4 * j) (iI (a1Of c j))) (hI.setA rfl)
        refine ⟨o, ?_, k2⟩
        rw [← k1]
        have e7 : a1Of c j = clamp (c.a j + more (c.k j) (c.f j) (c.a j) (meanOf c) (c.dy + 1)) := by simp [a1Of, hp]
        rw [e7]
        simp (disch := omega) only [Int.toNat_natCast, if_true, if_false, iI_add, iI_sub, iI_mul, iI_neg, iI_le, iI_lt, iI_eq, iI_N, iI_Nz, c_0, c_1, c_2, c_3, c_4, c_5, c_6, c_7, c_8, c_9, c_10, c_11, c_12, c_13, c_16, c_20, c_23, c_26, c_30, c_31, c_32, c_37, c_45, c_48, c_57, c_59, c_60, c_63, c_64, c_90, c_91, c_97, c_100, c_108, c_109, c_114, c_119, c_127, c_128, c_200, c_255, c_256, c_999, c_1000, c_2000, c_12345, c_32768, c_65536, of_n0, of_n1, of_n2, of_n3, of_g0, of_g1, of_g2, of_g3, n_0, n_1, n_2, n_3, n_4, t_0, t_1, t_2, t_3, t_4, e0, e10, e1, e2, e3, e4, e5, e6, if_pos, if_neg]
        rfl
    · have hA : MRow (c.n, c.k, c.f, a1Of c, c.p, c.pl, c.sw, c.cr, c.dy + 1) s := hI.ext rfl rfl rfl rfl rfl (fun i hi => ⟨rfl, rfl, by
        have hi : i < c.n := hi
        show mix _ _ _ i = a1Of c i
        simp [mix, hi], rfl⟩)
      have hM1 : Men c.n c.k c.f (a1Of c) := ⟨hn, fun i hi => ⟨(hM.2 i hi).1, (hM.2 i hi).2.1, a1Of_b h hi⟩⟩
      have hM2 : Men c.n c.k c.f (a2Of c) := ⟨hn, fun i hi => ⟨(hM.2 i hi).1, (hM.2 i hi).2.1, a2Of_b h hi⟩⟩
      have e1 : S_MD_upright s = some (iI (setOf (upr c.k c.f (a1Of c)) c.n : Nat)) := m_upright (c := (c.n, c.k, c.f, a1Of c, c.p, c.pl, c.sw, c.cr, c.dy + 1)) hM1 hA
      have e2 := m_bits (setOf_256 (p := upr c.k c.f (a1Of c)) hn)
      rw [pc_setOf _ hn] at e2
      have e3 := s_half c.n hn
      have b1 := cnt_le (upr c.k c.f (a1Of c)) c.n
      have d0 : s 0 = iI c.n := hA.1
      have d3 : s 3 = iI c.sw := hA.2.2.2.1
      have d4 : s 4 = iI c.cr := hA.2.2.2.2.1
      have hsw := h.2.2.1
      have hcr0 := h.2.2.2
      show ∃ o, S_MD_day_L28 _ (g + 1) _ _ = some o ∧ _
      rw [S_MD_day_L28]
      have g1 : s (0 : Int32).toNatClampNeg ≤ iI (c.n : Nat) := by
        show s 0 ≤ _
        rw [d0]
        exact (iI_le (by omega) (by omega) (by omega) (by omega)).mpr (Int.le_refl _)
      by_cases hcr : cnt (upr c.k c.f (a1Of c)) c.n < c.n / 2
      · have hcd : crashed c = true := decide_eq_true hcr
        have e8 : a2Of c = turned c.p (a1Of c) := by unfold a2Of; rw [if_pos hcd]
        have d5 : S_MD_least (iI 999) (iI c.cr + iI 1) = iI ((min 999 (c.cr + 1) : Nat)) := by
          unfold S_MD_least
          rw [iI_add]
          simp (disch := omega) only [iI_le]
          split
          · rw [show ((min 999 (c.cr + 1) : Nat) : Int) = (c.cr : Int) + 1 by omega]
          · rw [show ((min 999 (c.cr + 1) : Nat) : Int) = 999 by omega]
        rw [iI_add] at d5
        obtain ⟨q2, e6, e7⟩ := m_turn (c := (c.n, c.k, c.f, a1Of c, c.p, c.pl, c.sw, min 999 (c.cr + 1), c.dy + 1)) hn (hA.set4 (min 999 (c.cr + 1)))
        obtain ⟨q3, e9, e10⟩ := m_lead (c := (c.n, c.k, c.f, turned c.p (a1Of c), c.p, c.pl, 9, min 999 (c.cr + 1), c.dy + 1)) (by rw [← e8]; exact hM2) h.2.1 (by show 9 ≤ 9; omega) (e7.set3 9)
        have e9 : S_MD_leadGoes (upd q2 3 (iI 9)) = some q3 := e9
        refine ⟨q3, ?_, e10.ext rfl rfl ?_ ?_ ?_ (fun i hi => ⟨rfl, rfl, ?_, rfl⟩)⟩
        · rw [if_pos g1, e1, Option.bind_some, e2, Option.bind_some, if_neg (show ¬ (s (0 : Int32).toNatClampNeg / 2 ≤ iI (cnt (upr c.k c.f (a1Of c)) c.n : Nat)) by
            show ¬ (s 0 / iI 2 ≤ _)
            rw [d0, e3]
            exact fun z => absurd ((iI_le (by omega) (by omega) (by omega) (by omega)).mp z) (by omega))]
          have g3 : S_MD_turnsRound (upd s (4 : Int32).toNatClampNeg (S_MD_least 999 (s (4 : Int32).toNatClampNeg + 1))) = some q2 := by
            show S_MD_turnsRound (upd s 4 (S_MD_least (iI 999) (s 4 + iI 1))) = _
            rw [d4, iI_add, d5]
            exact e6
          have g4 : S_MD_leadGoes (upd q2 (3 : Int32).toNatClampNeg 9) = some q3 := e9
          rw [g3, Option.bind_some, g4, Option.bind_some]
        · show leadTo c.n c.pl 9 (turned c.p (a1Of c)) = leadTo c.n c.pl (swOf c) (a2Of c)
          rw [e8]; unfold swOf; rw [if_pos hcd]
        · show 9 = swOf c
          unfold swOf; rw [if_pos hcd]
        · show min 999 (c.cr + 1) = crOf c
          unfold crOf; rw [if_pos hcd]
        · show turned c.p (a1Of c) i = a2Of c i
          rw [e8]
      · have hcd : crashed c = false := decide_eq_false hcr
        have e8 : a2Of c = a1Of c := by unfold a2Of; rw [hcd]; rfl
        have fin : ∀ s2 : Nat → Int32, MRow (c.n, c.k, c.f, a1Of c, c.p, c.pl, c.sw - 1, c.cr, c.dy + 1) s2 → ∃ q3, S_MD_leadGoes s2 = some q3 ∧ MRow (day c) q3 := by
          intro s2 hs2
          obtain ⟨q3, e9, e10⟩ := m_lead (c := (c.n, c.k, c.f, a1Of c, c.p, c.pl, c.sw - 1, c.cr, c.dy + 1)) hM1 h.2.1 (by show c.sw - 1 ≤ 9; omega) hs2
          refine ⟨q3, e9, e10.ext rfl rfl ?_ ?_ ?_ (fun i hi => ⟨rfl, rfl, ?_, rfl⟩)⟩
          · show leadTo c.n c.pl (c.sw - 1) (a1Of c) = leadTo c.n c.pl (swOf c) (a2Of c)
            rw [e8]; unfold swOf; rw [hcd]; rfl
          · show c.sw - 1 = swOf c
            unfold swOf; rw [hcd]; rfl
          · show c.cr = crOf c
            unfold crOf; rw [hcd]; rfl
          · show a1Of c i = a2Of c i
            rw [e8]
        have g2 : s (0 : Int32).toNatClampNeg / 2 ≤ iI (cnt (upr c.k c.f (a1Of c)) c.n : Nat) := by
          show s 0 / iI 2 ≤ _
          rw [d0, e3]
          exact (iI_le (by omega) (by omega) (by omega) (by omega)).mpr (by omega)
        by_cases hs0 : c.sw = 0
        · obtain ⟨q3, e9, e10⟩ := fin s (hA.ext rfl rfl rfl (by show c.sw = c.sw - 1; omega) rfl (fun i hi => ⟨rfl, rfl, rfl, rfl⟩))
          refine ⟨q3, ?_, e10⟩
          rw [if_pos g1, e1, Option.bind_some, e2, Option.bind_some, if_pos g2, if_pos (show s (3 : Int32).toNatClampNeg ≤ 0 by
            show s 3 ≤ iI 0
            rw [d3]
            exact (iI_le (by omega) (by omega) (by omega) (by omega)).mpr (by omega)), e9, Option.bind_some]
        · obtain ⟨q3, e9, e10⟩ := fin _ (hA.set3 (c.sw - 1))
          have e11 : iI (c.sw : Int) - iI 1 = iI ((c.sw - 1 : Nat) : Int) := by rw [iI_sub]; congr 1; omega
          refine ⟨q3, ?_, e10⟩
          have g5 : S_MD_leadGoes (upd s (3 : Int32).toNatClampNeg (s (3 : Int32).toNatClampNeg - 1)) = some q3 := by
            show S_MD_leadGoes (upd s 3 (s 3 - iI 1)) = _
            rw [d3, e11]
            exact e9
          rw [if_pos g1, e1, Option.bind_some, e2, Option.bind_some, if_pos g2, if_neg (show ¬ s (3 : Int32).toNatClampNeg ≤ 0 by
            show ¬ s 3 ≤ iI 0
            rw [d3]
            exact fun z => absurd ((iI_le (by omega) (by omega) (by omega) (by omega)).mp z) (by omega)), g5, Option.bind_some]
  obtain ⟨e0, e1, -⟩ := id hq
  unfold S_MD_day S_MD_day_J25
  have f1 : upd q 1 (iI c.dy + iI 1) 0 = iI c.n := by rw [upd_ne _ _ (by omega)]; exact e0
  have f2 : iI c.dy + iI 1 = iI ((c.dy + 1 : Nat) : Int) := by rw [iI_add]; rfl
  obtain ⟨o, k1, k2⟩ := key _ hq1
  rw [show iI (((0 : Nat) : Int)) = iI 0 from rfl] at k1
  refine ⟨o, ?_, k2⟩
  rw [← k1]
  simp (disch := omega) only [c_0, c_1, n_0, n_1, e1, f1, iI_eq]
  rw [f2]
  by_cases h0 : c.n = 0
  · rw [if_pos (by omega)]
    have : meanOf c = 0 := by unfold meanOf; rw [if_pos h0]
    rw [this]
  · have e5 : S_MD_leanSum (upd q 1 (iI ((c.dy + 1 : Nat) : Int))) = some (iI (sumA c.a c.n)) := m_sum (c := (c.n, c.k, c.f, c.a, c.p, c.pl, c.sw, c.cr, c.dy + 1)) hM hq1
    rw [if_neg (by omega), e5, Option.bind_some]
    have hb := sumA_b (a := c.a) (n := c.n) (fun i hi => ⟨(hM.2 i hi).2.2.1, (hM.2 i hi).2.2.2⟩)
    rw [iI_div (by omega) (by omega) (by omega) (by omega)]
    have : meanOf c = (sumA c.a c.n).tdiv c.n := by unfold meanOf; rw [if_neg h0]
    rw [this]
theorem m_days {c : MC} (h : Ok c) {n : Nat} (hd : c.dy + n < 100000) (hn : n ≤ 100) {q : Nat → Int32} (hq : MRow c q) : ∃ o, S_MD_daysOn (iI n) q = some o ∧ MRow (days c n) o := by
  unfold S_MD_daysOn
  refine for_i (fun g j s => S_MD_daysOn_L2 (iI n) g (iI j) s) (fun j s => MRow (days c j) s) (fun o => MRow (days c n) o) n (fun g j s hj hI kk => ?_) (fun g s hI => ?_) lfu q (by unfold lfu; omega) hq
  · obtain ⟨o, e1, e2⟩ := m_day (h.days j) (by rw [days_dy]; omega) hI
    obtain ⟨o2, k1, k2⟩ := kk o e2
    refine ⟨o2, ?_, k2⟩
    rw [← k1]
    show S_MD_daysOn_L2 _ (g + 1) _ _ = _
    rw [S_MD_daysOn_L2]
    simp (disch := omega) only [Int.toNat_natCast, if_true, if_false, iI_add, iI_sub, iI_mul, iI_neg, iI_le, iI_lt, iI_eq, iI_N, iI_Nz, c_0, c_1, c_2, c_3, c_4, c_5, c_6, c_7, c_8, c_9, c_10, c_11, c_12, c_13, c_16, c_20, c_23, c_26, c_30, c_31, c_32, c_37, c_45, c_48, c_57, c_59, c_60, c_63, c_64, c_90, c_91, c_97, c_100, c_108, c_109, c_114, c_119, c_127, c_128, c_200, c_255, c_256, c_999, c_1000, c_2000, c_12345, c_32768, c_65536, t_0, t_1, t_2, t_3, t_4, Int.natCast_add, Int.natCast_mul, Int.cast_ofNat_Int, Int.natCast_succ, if_pos, if_neg, e1, Option.bind_some]
  · refine ⟨s, ?_, hI⟩
    show S_MD_daysOn_L2 _ (g + 1) _ _ = _
    rw [S_MD_daysOn_L2]
    simp (disch := omega) only [Int.toNat_natCast, if_true, if_false, iI_add, iI_sub, iI_mul, iI_neg, iI_le, iI_lt, iI_eq, iI_N, iI_Nz, c_0, c_1, c_2, c_3, c_4, c_5, c_6, c_7, c_8, c_9, c_10, c_11, c_12, c_13, c_16, c_20, c_23, c_26, c_30, c_31, c_32, c_37, c_45, c_48, c_57, c_59, c_60, c_63, c_64, c_90, c_91, c_97, c_100, c_108, c_109, c_114, c_119, c_127, c_128, c_200, c_255, c_256, c_999, c_1000, c_2000, c_12345, c_32768, c_65536, t_0, t_1, t_2, t_3, t_4, Int.natCast_add, Int.natCast_mul, Int.cast_ofNat_Int, Int.natCast_succ, if_pos, if_neg]
