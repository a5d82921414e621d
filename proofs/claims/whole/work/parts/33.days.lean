theorem s_clamp {z : Int} (h1 : -1000 ≤ z) (h2 : z ≤ 1000) : jmax (iI (-45)) (jmin (iI 45) (iI z)) = iI (clamp z) := by
  unfold jmin jmax clamp
  by_cases h5 : z < 45
  · have e1 : iI z < iI 45 := by rw [iI_lt (by omega) (by omega) (by omega) (by omega)]; exact h5
    rw [if_pos e1]
    by_cases h6 : -45 < z
    · rw [if_pos (show iI (-45) < iI z by rw [iI_lt (by omega) (by omega) (by omega) (by omega)]; exact h6), if_neg (by omega), if_neg (by omega)]
    · rw [if_neg (show ¬ iI (-45) < iI z by rw [iI_lt (by omega) (by omega) (by omega) (by omega)]; exact h6)]
      by_cases h7 : z < -45
      · rw [if_pos h7]
      · rw [if_neg h7, if_neg (by omega), show z = -45 by omega]
  · have e1 : ¬ iI z < iI 45 := by rw [iI_lt (by omega) (by omega) (by omega) (by omega)]; exact h5
    rw [if_neg e1, if_pos (show iI (-45) < iI 45 by decide), if_neg (by omega)]
    by_cases h7 : 45 < z
    · rw [if_pos h7]
    · rw [if_neg h7, show z = 45 by omega]
theorem s_half : ∀ n, n ≤ 8 → iI (n : Nat) / iI 2 = iI ((n / 2 : Nat)) := by decide +kernel
theorem s_swl : ∀ n, n ≤ 9 → jmax (iI 0) (iI (n : Nat) - iI 1) = iI ((n - 1 : Nat)) := by decide +kernel
theorem s_crm {n : Nat} (h : n ≤ 999) : jmin (iI 999) (iI (n : Nat) + iI 1) = iI ((min 999 (n + 1) : Nat)) := by
  unfold jmin
  rw [iI_add]
  simp (disch := omega) only [iI_lt]
  split
  · rw [show ((min 999 (n + 1) : Nat) : Int) = (n : Int) + 1 by omega]
  · rw [show ((min 999 (n + 1) : Nat) : Int) = 999 by omega]
theorem CA.la {n : Nat} {k f : Nat → Nat} {a : Nat → Int} {kind figure lean : Nat → Int32} (h : CA n k f a kind figure lean) : LA n a lean := fun i hi => (h i hi).2.2
theorem CA.to {n : Nat} {k f : Nat → Nat} {a b : Nat → Int} {kind figure lean l2 : Nat → Int32} (h : CA n k f a kind figure lean) (h2 : LA n b l2) : CA n k f b kind figure l2 := fun i hi => ⟨(h i hi).1, (h i hi).2.1, h2 i hi⟩
/-- what a day answers: place, swings, crashes, day, whether it crashed, leans -/
def DayOut (c : MC) (o : Int32 × Int32 × Int32 × Int32 × Int32 × (Nat → Int32)) : Prop := o.1 = iI (day c).pl ∧ o.2.1 = iI (day c).sw ∧ o.2.2.1 = iI (day c).cr ∧ o.2.2.2.1 = iI (day c).dy ∧ o.2.2.2.2.1 = iI (if crashed c then 1 else 0) ∧ LA c.n (a2Of c) o.2.2.2.2.2
theorem s_day {c : MC} (h : Ok c) (hd : c.dy + 1 < 1000000) {kind figure lean : Nat → Int32} (hc : CA c.n c.k c.f c.a kind figure lean) (cT : Int32) : ∃ o, S_City_passDay (iI c.n) (iI (setOf c.p c.n : Nat)) (iI c.pl) (iI c.sw) (iI c.cr) (iI c.dy) cT kind figure lean = some o ∧ DayOut c o := by
  have hM := h.1
  have hn := hM.1
  have hm := meanOf_b h
  have key : ∃ o, S_City_passDay_L33 (iI (meanOf c)) (iI c.n) (iI (setOf c.p c.n : Nat)) kind figure (iI c.pl) (iI c.sw) (iI c.cr) (iI ((c.dy + 1 : Nat) : Int)) lfu (iI ((0 : Nat) : Int)) lean = some o ∧ DayOut c o := by
    refine for_i (fun g j s => S_City_passDay_L33 (iI (meanOf c)) (iI c.n) (iI (setOf c.p c.n : Nat)) kind figure (iI c.pl) (iI c.sw) (iI c.cr) (iI ((c.dy + 1 : Nat) : Int)) g (iI j) s) (fun j s => LA c.n (mix (a1Of c) c.a j) s) (DayOut c) c.n (fun g j s hj hI kk => ?_) (fun g s hI => ?_) lfu lean (by unfold lfu; omega) hc.la.zero
    · have e1 := s_propped (p := c.p) hn hj
      have e2 : s j = iI (c.a j) := by rw [hI j hj]; simp [mix]
      obtain ⟨e3, e4, -⟩ := hc j hj
      obtain ⟨b1, b2, b3, b4⟩ := hM.2 j hj
      have e5 := s_more (k := c.k j) (f := c.f j) (x := c.a j) (mean := meanOf c) (dy := c.dy + 1) b1 b2 b3 b4 hm.1 hm.2 hd
      have b5 := more_b (c.k j) (c.f j) (c.a j) (meanOf c) (c.dy + 1) b2
      have e6 := s_clamp (z := c.a j + more (c.k j) (c.f j) (c.a j) (meanOf c) (c.dy + 1)) (by omega) (by omega)
      show ∃ o, S_City_passDay_L33 _ _ _ _ _ _ _ _ _ (g + 1) _ _ = some o ∧ _
      rw [S_City_passDay_L33]
      by_cases hp : c.p j = true
      · rw [if_pos hp] at e1
        obtain ⟨o, k1, k2⟩ := kk s (hI.skip (by simp [a1Of, hp]))
        refine ⟨o, ?_, k2⟩
        rw [← k1]
        simp (disch := omega) only [e1, Int.toNat_natCast, if_true, if_false, iI_add, iI_sub, iI_mul, iI_neg, iI_le, iI_lt, iI_eq, iI_N, iI_Nz, c_0, c_1, c_2, c_3, c_4, c_5, c_6, c_7, c_8, c_9, c_10, c_11, c_12, c_13, c_16, c_20, c_23, c_26, c_30, c_31, c_32, c_37, c_45, c_48, c_57, c_59, c_60, c_63, c_64, c_90, c_91, c_97, c_100, c_108, c_109, c_114, c_119, c_127, c_128, c_200, c_255, c_256, c_999, c_1000, c_2000, c_12345, c_32768, c_65536, Int.natCast_add, Int.natCast_mul, Int.cast_ofNat_Int, Int.natCast_succ, if_pos, if_neg]
      · rw [if_neg hp] at e1
        obtain ⟨o, k1, k2⟩ := kk (upd s j (iI (a1Of c j))) (hI.step rfl)
        refine ⟨o, ?_, k2⟩
        rw [← k1]
        have e7 : a1Of c j = clamp (c.a j + more (c.k j) (c.f j) (c.a j) (meanOf c) (c.dy + 1)) := by simp [a1Of, hp]
        rw [e7]
        simp only [Int.natCast_add, Int.natCast_mul, Int.cast_ofNat_Int, Int.natCast_succ] at e5 e6
        simp (disch := omega) only [e1, e2, e3, e4, e5, e6, Int.toNat_natCast, if_true, if_false, iI_add, iI_sub, iI_mul, iI_neg, iI_le, iI_lt, iI_eq, iI_N, iI_Nz, c_0, c_1, c_2, c_3, c_4, c_5, c_6, c_7, c_8, c_9, c_10, c_11, c_12, c_13, c_16, c_20, c_23, c_26, c_30, c_31, c_32, c_37, c_45, c_48, c_57, c_59, c_60, c_63, c_64, c_90, c_91, c_97, c_100, c_108, c_109, c_114, c_119, c_127, c_128, c_200, c_255, c_256, c_999, c_1000, c_2000, c_12345, c_32768, c_65536, Int.natCast_add, Int.natCast_mul, Int.cast_ofNat_Int, Int.natCast_succ, if_pos, if_neg]
    · have hA : LA c.n (a1Of c) s := hI.done
      have e1 := s_upright (k := c.k) (f := c.f) (a := a1Of c) ⟨hn, fun i hi => ⟨(hM.2 i hi).1, (hM.2 i hi).2.1, a1Of_b h hi⟩⟩ (hc.to hA)
      have e2 := b_bc _ (setOf_256 (p := upr c.k c.f (a1Of c)) hn)
      rw [pc_setOf _ hn] at e2
      have e3 := s_half c.n hn
      have b1 := cnt_le (upr c.k c.f (a1Of c)) c.n
      have e4 := s_swl c.sw h.2.2.1
      have e5 := s_crm h.2.2.2
      rw [iI_add] at e5
      show ∃ o, S_City_passDay_L33 _ _ _ _ _ _ _ _ _ (g + 1) _ _ = some o ∧ _
      rw [S_City_passDay_L33]
      by_cases hcr : cnt (upr c.k c.f (a1Of c)) c.n < c.n / 2
      · have hcd : crashed c = true := decide_eq_true hcr
        obtain ⟨l2, e6, e7⟩ := s_turn (a := a1Of c) (p := c.p) hn hA
        have e8 : a2Of c = turned c.p (a1Of c) := by unfold a2Of; rw [if_pos hcd]
        have e9 := s_lead (n := c.n) (pl := c.pl) (sw := 9) (a := a2Of c) (lean := l2) hn h.2.1 (by omega) (by rw [e8]; exact e7) (fun i hi => a2Of_b h hi)
        refine ⟨(iI (leadTo c.n c.pl 9 (a2Of c) : Nat), iI 9, iI ((min 999 (c.cr + 1) : Nat)), iI ((c.dy + 1 : Nat) : Int), iI 1, l2), ?_, ?_⟩
        · have e10 : S_City_moveLead (iI c.n) (iI c.pl) (iI 9) l2 = some (iI (leadTo c.n c.pl 9 (a2Of c) : Nat)) := e9
          simp (disch := omega) only [e1, Option.bind_some, Int.toNat_natCast, if_true, if_false, iI_add, iI_sub, iI_mul, iI_neg, iI_le, iI_lt, iI_eq, iI_N, iI_Nz, c_0, c_1, c_2, c_3, c_4, c_5, c_6, c_7, c_8, c_9, c_10, c_11, c_12, c_13, c_16, c_20, c_23, c_26, c_30, c_31, c_32, c_37, c_45, c_48, c_57, c_59, c_60, c_63, c_64, c_90, c_91, c_97, c_100, c_108, c_109, c_114, c_119, c_127, c_128, c_200, c_255, c_256, c_999, c_1000, c_2000, c_12345, c_32768, c_65536, if_pos, if_neg, e2, e3, e4, e5, e6, e10]
        · refine ⟨?_, ?_, ?_, rfl, ?_, by rw [e8]; exact e7⟩
          · show _ = iI (leadTo c.n c.pl (swOf c) (a2Of c) : Nat)
            unfold swOf; rw [if_pos hcd]
          · show _ = iI (swOf c : Nat)
            unfold swOf; rw [if_pos hcd]; rfl
          · show _ = iI (crOf c : Nat)
            unfold crOf; rw [if_pos hcd]
          · rw [hcd]; rfl
      · have hcd : crashed c = false := decide_eq_false hcr
        have e8 : a2Of c = a1Of c := by unfold a2Of; rw [hcd]; rfl
        have e9 := s_lead (n := c.n) (pl := c.pl) (sw := c.sw - 1) (a := a2Of c) (lean := s) hn h.2.1 (by have := h.2.2.1; omega) (by rw [e8]; exact hA) (fun i hi => a2Of_b h hi)
        refine ⟨(iI (leadTo c.n c.pl (c.sw - 1) (a2Of c) : Nat), iI ((c.sw - 1 : Nat)), iI c.cr, iI ((c.dy + 1 : Nat) : Int), iI 0, s), ?_, ?_⟩
        · simp (disch := omega) only [e1, Option.bind_some, c_999, c_9, c_2, c_1, c_0, iI_le, if_pos, if_neg, e2, e3, e4, e9]
        · refine ⟨?_, ?_, ?_, rfl, ?_, by rw [e8]; exact hA⟩
          · show _ = iI (leadTo c.n c.pl (swOf c) (a2Of c) : Nat)
            unfold swOf; rw [hcd]; rfl
          · show _ = iI (swOf c : Nat)
            unfold swOf; rw [hcd]; rfl
          · show _ = iI (crOf c : Nat)
            unfold crOf; rw [hcd]; rfl
          · rw [hcd]; rfl
  obtain ⟨o, k1, k2⟩ := key
  refine ⟨o, ?_, k2⟩
  rw [← k1]
  unfold S_City_passDay S_City_passDay_J30
  simp (disch := omega) only [c_1, c_0, iI_add, iI_eq]
  by_cases h0 : c.n = 0
  · rw [if_pos (by omega)]
    have : meanOf c = 0 := by unfold meanOf; rw [if_pos h0]
    rw [this]
    rfl
  · rw [if_neg (by omega), s_sum hn hc.la, Option.bind_some]
    have hb := sumA_b (a := c.a) (n := c.n) (fun i hi => ⟨(hM.2 i hi).2.2.1, (hM.2 i hi).2.2.2⟩)
    rw [iI_div (by omega) (by omega) (by omega) (by omega)]
    have : meanOf c = (sumA c.a c.n).tdiv c.n := by unfold meanOf; rw [if_neg h0]
    rw [this]
    rfl
/-- the city after n days, as the class holds it -/
def DaysOut (c : MC) (n : Nat) (o : Int32 × Int32 × Int32 × Int32 × Int32 × (Nat → Int32)) : Prop := o.1 = iI (days c n).pl ∧ o.2.1 = iI (days c n).sw ∧ o.2.2.1 = iI (days c n).cr ∧ o.2.2.2.1 = iI (days c n).dy ∧ LA c.n (days c n).a o.2.2.2.2.2
theorem crashes_le (c : MC) : ∀ n, crashes c n ≤ n
  | 0 => Nat.le_refl _
  | n + 1 => by
    have := crashes_le c n
    simp only [crashes]
    split <;> omega
theorem s_days {c : MC} (h : Ok c) {n : Nat} (hd : c.dy + n < 100000) (hn : n ≤ 100) {kind figure lean : Nat → Int32} (hc : CA c.n c.k c.f c.a kind figure lean) (cT : Int32) : ∃ o, S_City_passDays (iI n) (iI c.n) (iI (setOf c.p c.n : Nat)) (iI c.pl) (iI c.sw) (iI c.cr) (iI c.dy) cT kind figure lean = some o ∧ o.1 = iI (crashes c n : Nat) ∧ DaysOut c n o.2 := by
  unfold S_City_passDays
  refine for_i (fun g j (s : Int32 × Int32 × Int32 × Int32 × Int32 × Int32 × (Nat → Int32)) => S_City_passDays_L4 (iI n) (iI c.n) (iI (setOf c.p c.n : Nat)) kind figure g s.1 (iI j) s.2.1 s.2.2.1 s.2.2.2.1 s.2.2.2.2.1 s.2.2.2.2.2.1 s.2.2.2.2.2.2) (fun j s => s.1 = iI (crashes c j : Nat) ∧ DaysOut c j s.2) (fun o => o.1 = iI (crashes c n : Nat) ∧ DaysOut c n o.2) n (fun g j s hj hI kk => ?_) (fun g s hI => ?_) lfu (iI 0, iI c.pl, iI c.sw, iI c.cr, iI c.dy, cT, lean) (by unfold lfu; omega) ⟨rfl, rfl, rfl, rfl, rfl, hc.la⟩
  · obtain ⟨i1, i2, i3, i4, i5, i6⟩ := hI
    obtain ⟨s1, s2, s3, s4, s5, s6, s7⟩ := s
    dsimp only at i1 i2 i3 i4 i5 i6
    subst i1 i2 i3 i4 i5
    have hb := crashes_le c j
    obtain ⟨o, e1, d1, d2, d3, d4, d5, d6⟩ := s_day (h.days j) (by rw [days_dy]; omega) (kind := kind) (figure := figure) (lean := s7) (by rw [days_n, days_k, days_f]; exact hc.to i6) s6
    rw [days_n, days_p] at e1
    rw [days_n] at d6
    show ∃ o, S_City_passDays_L4 _ _ _ _ _ (g + 1) _ _ _ _ _ _ _ _ = some o ∧ _
    rw [S_City_passDays_L4]
    by_cases hcr : crashed (days c j) = true
    · rw [if_pos hcr] at d5
      obtain ⟨o2, k1, k2⟩ := kk (iI ((crashes c (j + 1) : Nat) : Int), o) ⟨rfl, d1, d2, d3, d4, d6⟩
      refine ⟨o2, ?_, k2⟩
      rw [← k1]
      have e2 : crashes c (j + 1) = crashes c j + 1 := by simp [crashes, hcr]
      simp (disch := omega) only [Int.toNat_natCast, if_true, if_false, iI_add, iI_sub, iI_mul, iI_neg, iI_le, iI_lt, iI_eq, iI_N, iI_Nz, c_0, c_1, c_2, c_3, c_4, c_5, c_6, c_7, c_8, c_9, c_10, c_11, c_12, c_13, c_16, c_20, c_23, c_26, c_30, c_31, c_32, c_37, c_45, c_48, c_57, c_59, c_60, c_63, c_64, c_90, c_91, c_97, c_100, c_108, c_109, c_114, c_119, c_127, c_128, c_200, c_255, c_256, c_999, c_1000, c_2000, c_12345, c_32768, c_65536, Int.natCast_add, Int.natCast_mul, Int.cast_ofNat_Int, Int.natCast_succ, if_pos, if_neg, e1, Option.bind_some, d5, e2]
    · have hcr' : crashed (days c j) = false := by simpa using hcr
      rw [if_neg hcr] at d5
      obtain ⟨o2, k1, k2⟩ := kk (iI ((crashes c (j + 1) : Nat) : Int), o) ⟨rfl, d1, d2, d3, d4, d6⟩
      refine ⟨o2, ?_, k2⟩
      rw [← k1]
      have e2 : crashes c (j + 1) = crashes c j := by simp [crashes, hcr']
      simp (disch := omega) only [Int.toNat_natCast, if_true, if_false, iI_add, iI_sub, iI_mul, iI_neg, iI_le, iI_lt, iI_eq, iI_N, iI_Nz, c_0, c_1, c_2, c_3, c_4, c_5, c_6, c_7, c_8, c_9, c_10, c_11, c_12, c_13, c_16, c_20, c_23, c_26, c_30, c_31, c_32, c_37, c_45, c_48, c_57, c_59, c_60, c_63, c_64, c_90, c_91, c_97, c_100, c_108, c_109, c_114, c_119, c_127, c_128, c_200, c_255, c_256, c_999, c_1000, c_2000, c_12345, c_32768, c_65536, Int.natCast_add, Int.natCast_mul, Int.cast_ofNat_Int, Int.natCast_succ, if_pos, if_neg, e1, Option.bind_some, d5, e2]
  · obtain ⟨s1, s2⟩ := s
    refine ⟨(s1, s2), ?_, hI⟩
    show S_City_passDays_L4 _ _ _ _ _ (g + 1) _ _ _ _ _ _ _ _ = _
    rw [S_City_passDays_L4]
    simp (disch := omega) only [Int.toNat_natCast, if_true, if_false, iI_add, iI_sub, iI_mul, iI_neg, iI_le, iI_lt, iI_eq, iI_N, iI_Nz, c_0, c_1, c_2, c_3, c_4, c_5, c_6, c_7, c_8, c_9, c_10, c_11, c_12, c_13, c_16, c_20, c_23, c_26, c_30, c_31, c_32, c_37, c_45, c_48, c_57, c_59, c_60, c_63, c_64, c_90, c_91, c_97, c_100, c_108, c_109, c_114, c_119, c_127, c_128, c_200, c_255, c_256, c_999, c_1000, c_2000, c_12345, c_32768, c_65536, Int.natCast_add, Int.natCast_mul, Int.cast_ofNat_Int, Int.natCast_succ, if_pos, if_neg]
