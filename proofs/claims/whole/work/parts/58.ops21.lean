/-! judge, whereHung -/
theorem op_judge {c : MC} {S : CS} {q : Nat → Int32} (h : Rl c S q) (x : Int32) {d : Nat} (hx : Is x d) {kd fg so sz he : Int32} {el K KK KF Q Z E : Nat → Int32} (hR : RS kd fg so sz he el d K KK KF Q Z E) (mS : CS) (qm : Nat → Int32) : ∃ r mS' qm', S_PL_judge x S mS so sz he el = some (r, mS') ∧ S_MD_judge x q qm K Q Z E = some (r, qm') := by
  obtain ⟨hO, hC, hq, hdy⟩ := h
  have hn := hO.1.1
  obtain ⟨r, k1, k2, k3⟩ := ref_row x hx hR
  unfold S_PL_judge S_MD_judge
  rw [k1, k2, o_b, o_b]
  rcases k3 with hr | ⟨rfl, rfl, hK, rfl, s, z, a1, a2, rfl, rfl, a5, a6, a7, a8⟩
  · rw [if_neg hr, if_neg hr]
    exact ⟨_, _, _, rfl, rfl⟩
  · have hd := hx.1
    obtain ⟨q0, m1, m2⟩ := m_copies q qm
    rw [if_pos rfl, if_pos rfl, if_neg (g_8 hd), m1, o_b]
    have key : ∃ o p, S_Mind_firstMisjudged S mS (iI (s : Nat)) (iI (z : Nat)) el = some o ∧ S_MD_judge_L26 (iI (d : Nat)) Q Z E lfu 0 q0 = some p ∧ o.1 = p.1 := by
      unfold S_Mind_firstMisjudged S_City_becomes
      rw [o_b]
      refine for_2 (fun g j (t : CS) => S_Mind_firstMisjudged_L13 (iI (s : Nat)) (iI (z : Nat)) el g (iI j) t) (fun g j (t : Nat → Int32) => S_MD_judge_L26 (iI (d : Nat)) Q Z E g (iI j) t) (fun j s t => CR (days c j) s ∧ MRow (days c j) t) (fun o p => o.1 = p.1) z (fun n m j s1 t hj hI kk => ?_) (fun n m s1 t hI => ?_) lfu lfu 0 _ q0 (by unfold lfu; omega) (by unfold lfu; omega) (by omega) ⟨cr_becomes hn hC mS mS.2.2.2.2.2.2.1 mS.2.2.2.2.2.2.2.2.2.2, hq.cp hn m2⟩
      · show ∃ o p, S_Mind_firstMisjudged_L13 _ _ _ (n + 1) _ _ = some o ∧ S_MD_judge_L26 _ _ _ _ (m + 1) _ _ = some p ∧ _
        obtain ⟨h1, h2⟩ := hI
        have hOd := hO.days j
        rw [S_Mind_firstMisjudged_L13, S_MD_judge_L26, if_neg (le_no (by omega) (by omega) hj), if_neg (g_8 hd), iI_N (show d < 2147483648 by omega), a6, if_neg (le_no (by omega) (by omega) hj), up_c hOd h1, o_b, up_bc hOd, m_upright hOd.1 h2, o_b, up_bm hOd, o_b, agr_s el s _ (show j < 100 by omega), agr_m hd a5 a7 _ (show j < 100 by omega), o_b, o_b]
        obtain ⟨o, c1, -, c2⟩ := cr_day hOd (by rw [days_dy]; omega) h1
        obtain ⟨q', d1, d2⟩ := m_day hOd (by rw [days_dy]; omega) h2
        cases ha : agr el s (iI (upN (days c j) : Nat)) j with
        | true =>
          rw [if_neg (by decide), if_neg (by decide), c1, o_b, d1, o_b, iI_S]
          exact kk _ _ ⟨c2, d2⟩
        | false =>
          rw [if_pos (by decide), if_pos (by decide)]
          exact ⟨_, _, rfl, rfl, rfl⟩
      · show ∃ o p, S_Mind_firstMisjudged_L13 _ _ _ (n + 1) _ _ = some o ∧ S_MD_judge_L26 _ _ _ _ (m + 1) _ _ = some p ∧ _
        rw [S_Mind_firstMisjudged_L13, S_MD_judge_L26, if_neg (g_8 hd), iI_N (show d < 2147483648 by omega), a6, if_pos (le_yes (by omega) (by omega) (Nat.le_refl _)), if_pos (le_yes (by omega) (by omega) (Nat.le_refl _))]
        exact ⟨_, _, rfl, rfl, rfl⟩
    obtain ⟨⟨o1, o2⟩, ⟨p1, p2⟩, e1, e2, e3⟩ := key
    dsimp only at e3
    rw [e1, e2, o_b, e3]
    exact ⟨_, _, _, rfl, rfl⟩
/-- the lead told: swings and place at first -/
def MC.wl (c : MC) (sw pl : Nat) : MC := (c.n, c.k, c.f, c.a, c.p, pl, sw, c.cr, c.dy)
theorem wl_ok {c : MC} (h : Ok c) {sw pl : Nat} (h1 : sw ≤ 9) (h2 : pl ≤ 7) : Ok (c.wl sw pl) := ⟨h.1, h2, h1, h.2.2.2⟩
def placeOn (d : MC) (j : Nat) : Int32 := iI ((days d j).pl : Nat)
theorem s_hung {c : MC} {S : CS} (hO : Ok c) (hC : CR c S) (hd : c.dy ≤ 999) {sw pl : Nat} (h1 : sw ≤ 9) (h2 : pl ≤ 7) (mS : CS) (el : Nat → Int32) (s : Nat) {z : Nat} (hz : z ≤ 100) : ∃ o, S_Mind_hangsAsTold (iI (sw : Nat)) (iI (pl : Nat)) S mS (iI (s : Nat)) (iI (z : Nat)) el = some o ∧ (o.1 = 1 ∧ Told el s (placeOn (c.wl sw pl)) z ∨ o.1 = 0 ∧ ¬ Told el s (placeOn (c.wl sw pl)) z) := by
  have hn := hO.1.1
  have hO2 := wl_ok hO h1 h2
  obtain ⟨b1, b2, b3, b4, b5, b6, b7⟩ := cr_becomes hn hC mS mS.2.2.2.2.2.2.1 mS.2.2.2.2.2.2.2.2.2.2
  unfold S_Mind_hangsAsTold S_City_becomes
  rw [o_b]
  refine for_i (fun g j (m : CS) => S_Mind_hangsAsTold_L30 (iI (s : Nat)) (iI (z : Nat)) el g (iI j) m) (fun j m => CR (days (c.wl sw pl) j) m ∧ Told el s (placeOn (c.wl sw pl)) j) _ z (fun g j m hj hI kk => ?_) (fun g m hI => ?_) lfu _ (by unfold lfu; omega) ⟨⟨b1, b2, rfl, rfl, b5, b6, b7⟩, fun j hj => absurd hj (Nat.not_lt_zero j)⟩
  · obtain ⟨h1, h2⟩ := hI
    show ∃ o, S_Mind_hangsAsTold_L30 _ _ _ (g + 1) _ _ = some o ∧ _
    have e : m.2.2.1 = placeOn (c.wl sw pl) j := h1.2.2.1
    rw [S_Mind_hangsAsTold_L30, if_neg (le_no (by omega) (by omega) hj), e, agr_s el s _ (show j < 100 by omega), o_b]
    obtain ⟨o, k1, -, k2⟩ := cr_day (hO2.days j) (by rw [days_dy]; show c.dy + j + 1 < 1000000; omega) h1
    rw [e] at k1
    cases ha : agr el s (placeOn (c.wl sw pl) j) j with
    | true =>
      rw [if_neg (by decide), k1, o_b, iI_S]
      exact kk _ ⟨k2, fun x hx => by
        by_cases hxj : x = j
        · rw [hxj]; exact ha
        · exact h2 x (by omega)⟩
    | false =>
      rw [if_pos (by decide)]
      exact ⟨_, rfl, Or.inr ⟨rfl, fun y => by rw [y j hj] at ha; exact absurd ha (by decide)⟩⟩
  · show ∃ o, S_Mind_hangsAsTold_L30 _ _ _ (g + 1) _ _ = some o ∧ _
    rw [S_Mind_hangsAsTold_L30, if_pos (le_yes (by omega) (by omega) (Nat.le_refl _))]
    exact ⟨_, rfl, Or.inl ⟨rfl, hI.2⟩⟩
theorem m_hung {c : MC} {q : Nat → Int32} (hO : Ok c) (hq : MRow c q) (hd : c.dy ≤ 999) {sw pl : Nat} (h1 : sw ≤ 9) (h2 : pl ≤ 7) {w s z : Nat} (hw : w < 8) (hz : z ≤ 100) {el Q Z E : Nat → Int32} (hQ : Q w = iI (s : Nat)) (hZ : Z w = iI (z : Nat)) (hE : ∀ i, i < 100 → E (100 * w + i) = el i) (qm : Nat → Int32) : ∃ o, S_MD_hasHungSo (iI (w : Nat)) (iI (sw : Nat)) (iI (pl : Nat)) q qm Q Z E = some o ∧ (o.1 = 1 ∧ Told el s (placeOn (c.wl sw pl)) z ∨ o.1 = 0 ∧ ¬ Told el s (placeOn (c.wl sw pl)) z) := by
  have hn := hO.1.1
  have hO2 := wl_ok hO h1 h2
  obtain ⟨q0, m1, m2⟩ := m_copies q qm
  unfold S_MD_hasHungSo
  rw [m1, o_b]
  refine for_i (fun g j (m : Nat → Int32) => S_MD_hasHungSo_L28 (iI (w : Nat)) Q Z E g (iI j) m) (fun j m => MRow (days (c.wl sw pl) j) m ∧ Told el s (placeOn (c.wl sw pl)) j) _ z (fun g j m hj hI kk => ?_) (fun g m hI => ?_) lfu _ (by unfold lfu; omega) ⟨((hq.cp hn m2).set3 sw).set2 pl, fun j hj => absurd hj (Nat.not_lt_zero j)⟩
  · obtain ⟨h1, h2⟩ := hI
    show ∃ o, S_MD_hasHungSo_L28 _ _ _ _ (g + 1) _ _ = some o ∧ _
    have e : m (2 : Int32).toNatClampNeg = placeOn (c.wl sw pl) j := h1.2.2.1
    obtain ⟨q', d1, d2⟩ := m_day (hO2.days j) (by rw [days_dy]; show c.dy + j + 1 < 1000000; omega) h1
    rw [S_MD_hasHungSo_L28, if_neg (g_8 hw), iI_N (show w < 2147483648 by omega), hZ, if_neg (le_no (by omega) (by omega) hj), e, agr_m hw hQ hE _ (show j < 100 by omega), o_b]
    cases ha : agr el s (placeOn (c.wl sw pl) j) j with
    | true =>
      rw [if_neg (by decide), d1, o_b, iI_S]
      exact kk _ ⟨d2, fun x hx => by
        by_cases hxj : x = j
        · rw [hxj]; exact ha
        · exact h2 x (by omega)⟩
    | false =>
      rw [if_pos (by decide)]
      exact ⟨_, rfl, Or.inr ⟨rfl, fun y => by rw [y j hj] at ha; exact absurd ha (by decide)⟩⟩
  · show ∃ o, S_MD_hasHungSo_L28 _ _ _ _ (g + 1) _ _ = some o ∧ _
    rw [S_MD_hasHungSo_L28, if_neg (g_8 hw), iI_N (show w < 2147483648 by omega), hZ, if_pos (le_yes (by omega) (by omega) (Nat.le_refl _))]
    exact ⟨_, rfl, Or.inl ⟨rfl, hI.2⟩⟩
/-- how many hangings fit, the first, the last, of those below m -/
def hgs (B : Nat → Bool) : Nat → Nat × Int × Int
  | 0 => (0, -4, -4)
  | m + 1 => if m % 10 < 8 ∧ B m = true then ((hgs B m).1 + 1, (if (hgs B m).1 = 0 then (m : Int) else (hgs B m).2.1), (m : Int)) else hgs B m
theorem hgs_b (B : Nat → Bool) : ∀ m, (hgs B m).1 ≤ m ∧ ((hgs B m).1 = 0 → (hgs B m).2.1 = -4) ∧ ((hgs B m).1 ≠ 0 → 0 ≤ (hgs B m).2.1 ∧ (hgs B m).2.1 < m)
  | 0 => ⟨Nat.le_refl _, fun _ => rfl, fun h => absurd rfl h⟩
  | m + 1 => by
    obtain ⟨h1, h2, h3⟩ := hgs_b B m
    simp only [hgs]
    by_cases h : m % 10 < 8 ∧ B m = true
    · rw [if_pos h]
      refine ⟨by dsimp only; omega, fun z => by dsimp only at z; omega, fun _ => ?_⟩
      dsimp only
      by_cases h0 : (hgs B m).1 = 0
      · rw [if_pos h0]
        omega
      · rw [if_neg h0]
        have := h3 h0
        omega
    · rw [if_neg h]
      refine ⟨by omega, h2, fun z => ?_⟩
      have := h3 z
      omega
theorem hgs_no (B : Nat → Bool) {m : Nat} (h : ¬ m % 10 < 8) : hgs B (m + 1) = hgs B m := by
  simp only [hgs]
  rw [if_neg (fun y => h y.1)]
theorem hgs_skip (B : Nat → Bool) (j : Nat) : hgs B (10 * j + 10) = hgs B (10 * j + 8) :=
  (hgs_no B (m := 10 * j + 9) (by omega)).trans (hgs_no B (m := 10 * j + 8) (by omega))
noncomputable def hungB (c : MC) (el : Nat → Int32) (s z m : Nat) : Bool := @decide (Told el s (placeOn (c.wl (m / 10) (m % 10))) z) (Classical.propDecidable _)
theorem hungB_t {c : MC} {el : Nat → Int32} {s z m : Nat} : (hungB c el s z m = true) = Told el s (placeOn (c.wl (m / 10) (m % 10))) z := by
  unfold hungB
  simp
theorem s_hangs {c : MC} {S : CS} (hO : Ok c) (hC : CR c S) (hd : c.dy ≤ 999) (x2 : Int32) (mS : CS) (el : Nat → Int32) (s : Nat) {z : Nat} (hz : z ≤ 100) : ∃ o, S_Mind_hangings x2 S mS (iI (s : Nat)) (iI (z : Nat)) el = some o ∧ o.1 = (if x2 = 0 then iI ((hgs (hungB c el s z) 100).1 : Nat) else if x2 = 1 then iI (hgs (hungB c el s z) 100).2.1 else iI (hgs (hungB c el s z) 100).2.2) := by
  unfold S_Mind_hangings
  generalize hB : hungB c el s z = B
  refine for_i (fun g j (t : Int32 × Int32 × Int32 × CS) => S_Mind_hangings_L13 x2 S (iI (s : Nat)) (iI (z : Nat)) el g t.1 t.2.1 t.2.2.1 (iI j) t.2.2.2) (fun j t => t.1 = iI ((hgs B (10 * j)).1 : Nat) ∧ t.2.1 = iI (hgs B (10 * j)).2.1 ∧ t.2.2.1 = iI (hgs B (10 * j)).2.2) _ 10 (fun g j t hj hI kk => ?_) (fun g t hI => ?_) lfu (0, -4, -4, mS) (by unfold lfu; omega) ⟨(show (0 : Int32) = iI ((0 : Nat) : Int) by decide), (show (-4 : Int32) = iI (-4) by decide), (show (-4 : Int32) = iI (-4) by decide)⟩
  · obtain ⟨t1, t2, t3, t4⟩ := t
    obtain ⟨h1, h2, h3⟩ := hI
    dsimp only at h1 h2 h3 ⊢
    rw [S_Mind_hangings_L13, if_neg (show ¬ (9 : Int32) < iI (j : Nat) by rw [c_9, iI_lt (by omega) (by omega) (by omega) (by omega)]; omega)]
    refine for_i (fun g2 i (t : Int32 × Int32 × Int32 × CS) => S_Mind_hangings_L23 (S_Mind_hangings_L13 x2 S (iI (s : Nat)) (iI (z : Nat)) el g) (iI (j : Nat)) S (iI (s : Nat)) (iI (z : Nat)) el g2 t.1 t.2.1 t.2.2.1 (iI i) t.2.2.2) (fun i t => t.1 = iI ((hgs B (10 * j + i)).1 : Nat) ∧ t.2.1 = iI (hgs B (10 * j + i)).2.1 ∧ t.2.2.1 = iI (hgs B (10 * j + i)).2.2) _ 8 (fun g2 i t hi hI2 kk2 => ?_) (fun g2 t hI2 => ?_) lfu (t1, t2, t3, t4) (by unfold lfu; omega) ⟨h1, h2, h3⟩
    · obtain ⟨t1, t2, t3, t4⟩ := t
      obtain ⟨h1, h2, h3⟩ := hI2
      dsimp only at h1 h2 h3 ⊢
      obtain ⟨⟨o1, o2⟩, k1, k2⟩ := s_hung hO hC hd (sw := j) (pl := i) (by omega) (by omega) t4 el s hz
      obtain ⟨b1, b2, b3⟩ := hgs_b B (10 * j + i)
      have e1 : (10 * j + i) / 10 = j := by omega
      have e2 : (10 * j + i) % 10 = i := by omega
      have eB : (B (10 * j + i) = true) = Told el s (placeOn (c.wl j i)) z := by rw [← hB, hungB_t, e1, e2]
      have e4 : (10 : Int32) * iI (j : Nat) + iI (i : Nat) = iI ((10 * j + i : Nat) : Int) := by rw [c_10, iI_mul, iI_add]; rfl
      dsimp only at k2
      rw [S_Mind_hangings_L23, if_neg (show ¬ (8 : Int32) ≤ iI (i : Nat) by rw [c_8, iI_le (by omega) (by omega) (by omega) (by omega)]; omega), k1, o_b, iI_S, e4]
      rcases k2 with ⟨rfl, k2⟩ | ⟨rfl, k2⟩
      · have st : hgs B (10 * j + i + 1) = ((hgs B (10 * j + i)).1 + 1, (if (hgs B (10 * j + i)).1 = 0 then ((10 * j + i : Nat) : Int) else (hgs B (10 * j + i)).2.1), ((10 * j + i : Nat) : Int)) := by
          simp only [hgs]
          rw [if_pos ⟨by omega, by rw [eB]; exact k2⟩]
        dsimp only
        rw [if_neg (show ¬ (1 : Int32) = 0 by decide), h1, h2, iI_S]
        by_cases h0 : (hgs B (10 * j + i)).1 = 0
        · rw [if_pos (by rw [b2 h0]; decide)]
          refine kk2 (_, _, _, _) ⟨?_, ?_, ?_⟩
          · first | (rw [show 10 * j + (i + 1) = 10 * j + i + 1 by omega, st]; done) | (rw [show 10 * j + (i + 1) = 10 * j + i + 1 by omega, st]; rfl)
          · first | (rw [show 10 * j + (i + 1) = 10 * j + i + 1 by omega, st, if_pos h0]; done) | (rw [show 10 * j + (i + 1) = 10 * j + i + 1 by omega, st, if_pos h0]; rfl)
          · first | (rw [show 10 * j + (i + 1) = 10 * j + i + 1 by omega, st]; done) | (rw [show 10 * j + (i + 1) = 10 * j + i + 1 by omega, st]; rfl)
        · have b4 := b3 h0
          rw [if_neg (show ¬ iI (hgs B (10 * j + i)).2.1 = -4 by rw [show (-4 : Int32) = iI (-4) by decide, iI_eq (by omega) (by omega) (by omega) (by omega)]; omega)]
          refine kk2 (_, _, _, _) ⟨?_, ?_, ?_⟩
          · first | (rw [show 10 * j + (i + 1) = 10 * j + i + 1 by omega, st]; done) | (rw [show 10 * j + (i + 1) = 10 * j + i + 1 by omega, st]; rfl)
          · first | (rw [show 10 * j + (i + 1) = 10 * j + i + 1 by omega, st, if_neg h0]; done) | (rw [show 10 * j + (i + 1) = 10 * j + i + 1 by omega, st, if_neg h0]; rfl)
          · first | (rw [show 10 * j + (i + 1) = 10 * j + i + 1 by omega, st]; done) | (rw [show 10 * j + (i + 1) = 10 * j + i + 1 by omega, st]; rfl)
      · have st : hgs B (10 * j + i + 1) = hgs B (10 * j + i) := by
          simp only [hgs]
          rw [if_neg (fun y => k2 (by rw [← eB]; exact y.2))]
        dsimp only
        rw [if_pos rfl]
        refine kk2 (_, _, _, _) ⟨?_, ?_, ?_⟩
        · rw [show 10 * j + (i + 1) = 10 * j + i + 1 by omega, st]; exact h1
        · rw [show 10 * j + (i + 1) = 10 * j + i + 1 by omega, st]; exact h2
        · rw [show 10 * j + (i + 1) = 10 * j + i + 1 by omega, st]; exact h3
    · obtain ⟨t1, t2, t3, t4⟩ := t
      obtain ⟨h1, h2, h3⟩ := hI2
      dsimp only at h1 h2 h3 ⊢
      rw [S_Mind_hangings_L23, if_pos (show (8 : Int32) ≤ iI ((8 : Nat) : Int) by decide), iI_S]
      refine kk (_, _, _, _) ⟨?_, ?_, ?_⟩
      · rw [show 10 * (j + 1) = 10 * j + 10 by omega, hgs_skip]; exact h1
      · rw [show 10 * (j + 1) = 10 * j + 10 by omega, hgs_skip]; exact h2
      · rw [show 10 * (j + 1) = 10 * j + 10 by omega, hgs_skip]; exact h3
  · obtain ⟨t1, t2, t3, t4⟩ := t
    obtain ⟨h1, h2, h3⟩ := hI
    dsimp only at h1 h2 h3 ⊢
    rw [S_Mind_hangings_L13, if_pos (show (9 : Int32) < iI ((10 : Nat) : Int) by decide)]
    by_cases x0 : x2 = 0
    · rw [if_pos x0, if_pos x0]
      exact ⟨_, rfl, h1⟩
    · rw [if_neg x0, if_neg x0]
      by_cases x1 : x2 = 1
      · rw [if_pos x1, if_pos x1]
        exact ⟨_, rfl, h2⟩
      · rw [if_neg x1, if_neg x1]
        exact ⟨_, rfl, h3⟩
theorem ten_q : ∀ m, m < 100 → iI (m : Nat) / 10 = iI ((m / 10 : Nat)) ∧ iI (m : Nat) - iI (m : Nat) / 10 * 10 = iI ((m % 10 : Nat)) := by decide +kernel
theorem m_hangs {c : MC} {q : Nat → Int32} (hO : Ok c) (hq : MRow c q) (hd : c.dy ≤ 999) (x2 : Int32) {w s z : Nat} (hw : w < 8) (hz : z ≤ 100) {el Q Z E : Nat → Int32} (hQ : Q w = iI (s : Nat)) (hZ : Z w = iI (z : Nat)) (hE : ∀ i, i < 100 → E (100 * w + i) = el i) (qm : Nat → Int32) : ∃ o, S_MD_whereHung_L38 (iI (w : Nat)) x2 q Q Z E lfu 0 (-4) (-4) 0 qm = some o ∧ o.1 = (if x2 = 0 then iI ((hgs (hungB c el s z) 100).1 : Nat) else if x2 = 1 then iI (hgs (hungB c el s z) 100).2.1 else iI (hgs (hungB c el s z) 100).2.2) := by
  generalize hB : hungB c el s z = B
  refine for_i (fun g m (t : Int32 × Int32 × Int32 × (Nat → Int32)) => S_MD_whereHung_L38 (iI (w : Nat)) x2 q Q Z E g t.1 t.2.1 t.2.2.1 (iI m) t.2.2.2) (fun m t => t.1 = iI ((hgs B m).1 : Nat) ∧ t.2.1 = iI (hgs B m).2.1 ∧ t.2.2.1 = iI (hgs B m).2.2) _ 100 (fun g m t hm hI kk => ?_) (fun g t hI => ?_) lfu (0, -4, -4, qm) (by unfold lfu; omega) ⟨(show (0 : Int32) = iI ((0 : Nat) : Int) by decide), (show (-4 : Int32) = iI (-4) by decide), (show (-4 : Int32) = iI (-4) by decide)⟩
  · obtain ⟨t1, t2, t3, t4⟩ := t
    obtain ⟨h1, h2, h3⟩ := hI
    dsimp only at h1 h2 h3 ⊢
    obtain ⟨u1, u2⟩ := ten_q m hm
    obtain ⟨b1, b2, b3⟩ := hgs_b B m
    rw [S_MD_whereHung_L38, if_neg (show ¬ (100 : Int32) ≤ iI (m : Nat) by rw [c_100, iI_le (by omega) (by omega) (by omega) (by omega)]; omega), u2, u1, iI_S]
    by_cases h8 : m % 10 < 8
    · rw [if_neg (show ¬ (8 : Int32) ≤ iI ((m % 10 : Nat) : Int) by rw [c_8, iI_le (by omega) (by omega) (by omega) (by omega)]; omega)]
      obtain ⟨⟨o1, o2⟩, k1, k2⟩ := m_hung hO hq hd (sw := m / 10) (pl := m % 10) (by omega) (by omega) hw hz hQ hZ hE t4
      have eB : (B m = true) = Told el s (placeOn (c.wl (m / 10) (m % 10))) z := by rw [← hB, hungB_t]
      dsimp only at k2
      rw [k1, o_b]
      rcases k2 with ⟨rfl, k2⟩ | ⟨rfl, k2⟩
      · have st : hgs B (m + 1) = ((hgs B m).1 + 1, (if (hgs B m).1 = 0 then (m : Int) else (hgs B m).2.1), (m : Int)) := by
          simp only [hgs]
          rw [if_pos ⟨h8, by rw [eB]; exact k2⟩]
        dsimp only
        rw [if_neg (show ¬ (1 : Int32) = 0 by decide), h1, iI_S]
        by_cases h0 : (hgs B m).1 = 0
        · rw [if_pos (by rw [h0]; decide)]
          exact kk (_, _, _, _) ⟨by first | (rw [st]; done) | (rw [st]; rfl), by first | (rw [st, if_pos h0]; done) | (rw [st, if_pos h0]; rfl), by first | (rw [st]; done) | (rw [st]; rfl)⟩
        · rw [if_neg (show ¬ iI ((hgs B m).1 : Nat) = 0 by rw [c_0, iI_eq (by omega) (by omega) (by omega) (by omega)]; omega)]
          exact kk (_, _, _, _) ⟨by first | (rw [st]; done) | (rw [st]; rfl), by rw [st, if_neg h0]; exact h2, by first | (rw [st]; done) | (rw [st]; rfl)⟩
      · have st : hgs B (m + 1) = hgs B m := by
          simp only [hgs]
          rw [if_neg (fun y => k2 (by rw [← eB]; exact y.2))]
        dsimp only
        rw [if_pos rfl]
        exact kk (_, _, _, _) ⟨by rw [st]; exact h1, by rw [st]; exact h2, by rw [st]; exact h3⟩
    · have st : hgs B (m + 1) = hgs B m := by
        simp only [hgs]
        rw [if_neg (fun y => h8 y.1)]
      rw [if_pos (show (8 : Int32) ≤ iI ((m % 10 : Nat) : Int) by rw [c_8, iI_le (by omega) (by omega) (by omega) (by omega)]; omega)]
      exact kk (_, _, _, _) ⟨by rw [st]; exact h1, by rw [st]; exact h2, by rw [st]; exact h3⟩
  · obtain ⟨t1, t2, t3, t4⟩ := t
    obtain ⟨h1, h2, h3⟩ := hI
    dsimp only at h1 h2 h3 ⊢
    rw [S_MD_whereHung_L38, if_pos (show (100 : Int32) ≤ iI ((100 : Nat) : Int) by decide)]
    by_cases x0 : x2 = 0
    · rw [if_pos x0, if_pos x0]
      exact ⟨_, rfl, h1⟩
    · rw [if_neg x0, if_neg x0]
      by_cases x1 : x2 = 1
      · rw [if_pos x1, if_pos x1]
        exact ⟨_, rfl, h2⟩
      · rw [if_neg x1, if_neg x1]
        exact ⟨_, rfl, h3⟩
theorem op_whereHung {c : MC} {S : CS} {q : Nat → Int32} (h : Rl c S q) (x y : Int32) {d : Nat} (hx : Is x d) {kd fg so sz he : Int32} {el K KK KF Q Z E : Nat → Int32} (hR : RS kd fg so sz he el d K KK KF Q Z E) (mS : CS) (qm : Nat → Int32) : ∃ r mS' qm', S_PL_whereHung x y S mS so sz he el = some (r, mS') ∧ S_MD_whereHung x y q qm K Q Z E = some (r, qm') := by
  obtain ⟨hO, hC, hq, hdy⟩ := h
  obtain ⟨r, k1, k2, k3⟩ := ref_row x hx hR
  unfold S_PL_whereHung S_MD_whereHung
  rcases isin_c y (a := 0) (b := 2) (by omega) (by omega) (by omega) (by omega) with ⟨i1, i2, -⟩ | ⟨v, w1, w2, rfl, i1, i2⟩
  · rw [show S_PL_isIn y 0 2 = 0 from i1, show S_MD_isIn y 0 2 = 0 from i2, if_pos rfl, if_pos rfl]
    exact ⟨_, _, _, rfl, rfl⟩
  · rw [show S_PL_isIn (iI v) 0 2 = 1 from i1, show S_MD_isIn (iI v) 0 2 = 1 from i2, if_neg (show ¬ (1 : Int32) = 0 by decide), if_neg (show ¬ (1 : Int32) = 0 by decide), k1, k2, o_b, o_b]
    rcases k3 with hr | ⟨rfl, rfl, hK, rfl, s, z, a1, a2, rfl, rfl, a5, a6, a7, a8⟩
    · rw [if_neg hr, if_neg hr]
      exact ⟨_, _, _, rfl, rfl⟩
    · have hd := hx.1
      obtain ⟨⟨o1, o2⟩, z1, z2⟩ := s_hangs hO hC hdy (iI v) mS el s a2
      obtain ⟨⟨p1, p2⟩, z3, z4⟩ := m_hangs hO hq hdy (iI v) hd a2 a5 a6 a7 qm
      dsimp only at z2 z4
      rw [if_pos rfl, if_pos rfl, if_neg (g_8 hd), z1, z3, o_b, z2, z4]
      exact ⟨_, _, _, rfl, rfl⟩
