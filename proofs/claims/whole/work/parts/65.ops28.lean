/-! a city told: statement by statement -/
theorem dig_s {el : Nat → Int32} {z i g : Nat} (hz : z ≤ 100) (h : DG el z i g) : S_Shelf_digit (iI (i : Nat)) (iI (z : Nat)) el = some (iI (g : Nat)) := by
  obtain ⟨h1, h2, h3⟩ := h
  unfold S_Shelf_digit
  rw [hasEl_i hz (by omega), if_pos h1, if_neg (show ¬ (1 : Int32) = 0 by decide), if_neg (g_100 (by omega)), iI_N (by omega), h3, show (48 : Int32) = iI 48 by decide, iI_sub]
  congr 2
  omega
theorem dig_2 {el : Nat → Int32} {z i g h : Nat} (hz : z ≤ 100) (h1 : DG el z i g) (h2 : DG el z (i + 1) h) : S_Shelf_twoDigits (iI (i : Nat)) (iI (z : Nat)) el = some (iI ((10 * g + h : Nat) : Int)) := by
  unfold S_Shelf_twoDigits
  rw [dig_s hz h1, o_b, iI_S, dig_s hz h2, o_b, c_10, iI_mul, iI_add]
  congr 2
/-- the tuple that takesStatement hands back, as a city -/
def TK (o : Int32 × Int32 × Int32 × Int32 × Int32 × Int32 × Int32 × Int32 × (Nat → Int32) × (Nat → Int32) × (Nat → Int32)) (se : Nat → Int32) : CS := (o.2.1, o.2.2.1, o.2.2.2.1, o.2.2.2.2.1, o.2.2.2.2.2.1, o.2.2.2.2.2.2.1, o.2.2.2.2.2.2.2.1, o.2.2.2.2.2.2.2.2.1, o.2.2.2.2.2.2.2.2.2.1, o.2.2.2.2.2.2.2.2.2.2, se)
def OutT (el : Nat → Int32) (z p ch : Nat) (T : CS) (q num : Nat → Int32) : Prop := ∃ o, S_City_takesStatement (iI (p : Nat)) T.1 T.2.1 T.2.2.1 T.2.2.2.1 T.2.2.2.2.1 T.2.2.2.2.2.1 T.2.2.2.2.2.2.1 T.2.2.2.2.2.2.2.1 T.2.2.2.2.2.2.2.2.1 T.2.2.2.2.2.2.2.2.2.1 (iI (z : Nat)) el = some o ∧ ((o.1 = 1 ∧ ∃ q' c', S_MD_isDone (iI (ch : Nat)) q num = some (1, q') ∧ ∀ se, Rl c' (TK o se) q') ∨ (o.1 = 0 ∧ ∃ q', S_MD_isDone (iI (ch : Nat)) q num = some (0, q')))
theorem pos_i (p k : Nat) {x : Int32} (hx : x = iI (k : Nat)) : iI (p : Nat) + x = iI ((p + k : Nat) : Int) := by rw [hx, iI_add]; rfl
theorem tk_109 {el : Nat → Int32} {z p : Nat} {gs : Nat → Nat} (hz : z ≤ 100) (hS : Stm el z p 109 4 gs) {c : MC} {T : CS} {q num : Nat → Int32} (h : Rl c T q) (hN : NT 109 gs num) : OutT el z p 109 T q num := by
  obtain ⟨-, hp, he, hd⟩ := hS
  obtain ⟨hO, ⟨r1, r2, r3, r4, r5, r6, r7⟩, hq, hdy⟩ := h
  have hn := hO.1.1
  obtain ⟨n0, n1, n2⟩ := hN.2.2.1 rfl
  have d0 := hd 0 (by omega)
  have d1 := hd 1 (by omega)
  have d2 := hd 2 (by omega)
  have d3 := hd 3 (by omega)
  have b0 := d0.2.1
  have b1 := d1.2.1
  have b2 := d2.2.1
  have b3 := d3.2.1
  have s0 : S_Shelf_digit (iI ((p + 1 : Nat) : Int)) (iI (z : Nat)) el = some (iI (gs 0 : Nat)) := dig_s hz d0
  have s1 : S_Shelf_digit (iI ((p + 2 : Nat) : Int)) (iI (z : Nat)) el = some (iI (gs 1 : Nat)) := dig_s hz d1
  have s2 : S_Shelf_twoDigits (iI ((p + 3 : Nat) : Int)) (iI (z : Nat)) el = some (iI ((10 * gs 2 + gs 3 : Nat) : Int)) := dig_2 hz d2 d3
  have n0 : num (0 : Int32).toNatClampNeg = iI (gs 0 : Nat) := n0
  have n1 : num (1 : Int32).toNatClampNeg = iI (gs 1 : Nat) := n1
  have n2 : num (2 : Int32).toNatClampNeg = iI ((10 * gs 2 + gs 3 : Nat) : Int) := n2
  have q0 : q (0 : Int32).toNatClampNeg = iI c.n := hq.1
  unfold OutT S_City_takesStatement S_City_takesManTold S_City_takesIn S_MD_isDone
  rw [if_neg (g_100 (show p < 100 by omega)), iI_N (show p < 2147483648 by omega), he, if_neg (show ¬ iI ((109 : Nat) : Int) = 108 by decide), if_pos (show iI ((109 : Nat) : Int) = 109 by decide), if_neg (show ¬ iI ((109 : Nat) : Int) = 108 by decide), if_pos (show iI ((109 : Nat) : Int) = 109 by decide), pos_i p 1 (x := 1) (by decide), pos_i p 2 (x := 2) (by decide), pos_i p 3 (x := 3) (by decide), s0, s1, s2, o_b, o_b, n0, n1, n2, q0, r1, c_45, iI_sub]
  by_cases c1 : 8 ≤ gs 0
  · rw [if_pos (show (8 : Int32) ≤ iI (gs 0 : Nat) by rw [c_8, iI_le (by omega) (by omega) (by omega) (by omega)]; omega), if_pos (show (8 : Int32) ≤ iI (gs 0 : Nat) by rw [c_8, iI_le (by omega) (by omega) (by omega) (by omega)]; omega), o_b]
    dsimp only
    rw [if_neg (show ¬ ¬ ((0 : Int32) = 0 ∨ (0 : Int32) = 1) by decide)]
    exact ⟨_, rfl, Or.inr ⟨rfl, _, rfl⟩⟩
  · rw [if_neg (show ¬ (8 : Int32) ≤ iI (gs 0 : Nat) by rw [c_8, iI_le (by omega) (by omega) (by omega) (by omega)]; omega), if_neg (show ¬ (8 : Int32) ≤ iI (gs 0 : Nat) by rw [c_8, iI_le (by omega) (by omega) (by omega) (by omega)]; omega)]
    by_cases c2 : 90 < 10 * gs 2 + gs 3
    · rw [if_pos (show iI 45 < iI (((10 * gs 2 + gs 3 : Nat) : Int) - 45) by rw [iI_lt (by omega) (by omega) (by omega) (by omega)]; omega), if_pos (show (90 : Int32) < iI ((10 * gs 2 + gs 3 : Nat) : Int) by rw [c_90, iI_lt (by omega) (by omega) (by omega) (by omega)]; omega), o_b]
      dsimp only
      rw [if_neg (show ¬ ¬ ((0 : Int32) = 0 ∨ (0 : Int32) = 1) by decide)]
      exact ⟨_, rfl, Or.inr ⟨rfl, _, rfl⟩⟩
    · rw [if_neg (show ¬ iI 45 < iI (((10 * gs 2 + gs 3 : Nat) : Int) - 45) by rw [iI_lt (by omega) (by omega) (by omega) (by omega)]; omega), if_neg (show ¬ (90 : Int32) < iI ((10 * gs 2 + gs 3 : Nat) : Int) by rw [c_90, iI_lt (by omega) (by omega) (by omega) (by omega)]; omega), o_b]
      by_cases h8 : c.n = 8
      · rw [if_neg (show ¬ iI (c.n : Nat) < 8 by rw [c_8, iI_lt (by omega) (by omega) (by omega) (by omega)]; omega), if_pos (show iI (c.n : Nat) = 8 by rw [h8]; decide), o_b]
        dsimp only
        rw [if_pos rfl, o_b]
        dsimp only
        rw [if_neg (show ¬ ¬ ((0 : Int32) = 0 ∨ (0 : Int32) = 1) by decide)]
        exact ⟨_, rfl, Or.inr ⟨rfl, _, rfl⟩⟩
      · obtain ⟨q', m1, m2⟩ := m_adds (c := c) (q := q) (by omega) hq (gs 0) (gs 1) (((10 * gs 2 + gs 3 : Nat) : Int) - 45)
        rw [if_pos (show iI (c.n : Nat) < 8 by rw [c_8, iI_lt (by omega) (by omega) (by omega) (by omega)]; omega), if_neg (show ¬ iI (c.n : Nat) = 8 by rw [c_8, iI_eq (by omega) (by omega) (by omega) (by omega)]; omega), if_neg (g_8 (show c.n < 8 by omega)), o_b]
        dsimp only
        rw [if_neg (show ¬ (1 : Int32) = 0 by decide), o_b]
        dsimp only
        rw [if_neg (show ¬ ¬ ((1 : Int32) = 0 ∨ (1 : Int32) = 1) by decide), m1, o_b, iI_N (show c.n < 2147483648 by omega), iI_S]
        refine ⟨_, rfl, Or.inl ⟨rfl, q', c.add (gs 0) (gs 1) (((10 * gs 2 + gs 3 : Nat) : Int) - 45), rfl, fun se => ⟨add_ok hO (by omega) (by omega) b1 (by omega) (by omega), ⟨rfl, ?_, r3, r4, r5, r6, add_ca r7 (gs 0) (gs 1) (((10 * gs 2 + gs 3 : Nat) : Int) - 45)⟩, m2, hdy⟩⟩⟩
        show T.2.1 = iI (setOf (fun i => if i = c.n then false else c.p i) (c.n + 1) : Nat)
        rw [add_p]
        exact r2
theorem tk_108 {el : Nat → Int32} {z p : Nat} {gs : Nat → Nat} (hz : z ≤ 100) (hS : Stm el z p 108 3 gs) {c : MC} {T : CS} {q num : Nat → Int32} (h : Rl c T q) (hN : NT 108 gs num) : OutT el z p 108 T q num := by
  obtain ⟨-, hp, he, hd⟩ := hS
  obtain ⟨hO, ⟨r1, r2, r3, r4, r5, r6, r7⟩, hq, hdy⟩ := h
  have hn := hO.1.1
  obtain ⟨n0, n1⟩ := hN.2.1 rfl
  have d0 := hd 0 (by omega)
  have d1 := hd 1 (by omega)
  have d2 := hd 2 (by omega)
  have b0 := d0.2.1
  have b1 := d1.2.1
  have b2 := d2.2.1
  have s0 : S_Shelf_digit (iI ((p + 1 : Nat) : Int)) (iI (z : Nat)) el = some (iI (gs 0 : Nat)) := dig_s hz d0
  have s2 : S_Shelf_twoDigits (iI ((p + 2 : Nat) : Int)) (iI (z : Nat)) el = some (iI ((10 * gs 1 + gs 2 : Nat) : Int)) := dig_2 hz d1 d2
  have n0 : num (0 : Int32).toNatClampNeg = iI (gs 0 : Nat) := n0
  have n1 : num (1 : Int32).toNatClampNeg = iI ((10 * gs 1 + gs 2 : Nat) : Int) := n1
  unfold OutT S_City_takesStatement S_City_takesLeanTold S_MD_isDone
  rw [if_neg (g_100 (show p < 100 by omega)), iI_N (show p < 2147483648 by omega), he, if_pos (show iI ((108 : Nat) : Int) = 108 by decide), if_pos (show iI ((108 : Nat) : Int) = 108 by decide), pos_i p 1 (x := 1) (by decide), pos_i p 2 (x := 2) (by decide), s0, s2, o_b, o_b, n0, n1, r1, has_i (by omega) (by omega) hn, isMan_i hn hq (by omega) (by omega), o_b, c_45, iI_sub]
  by_cases c1 : (0 : Int) ≤ (gs 0 : Nat) ∧ ((gs 0 : Nat) : Int) < c.n
  · rw [if_pos c1, if_neg (show ¬ (1 : Int32) = 0 by decide), if_neg (show ¬ (1 : Int32) = 0 by decide)]
    by_cases c2 : 10 * gs 1 + gs 2 ≤ 90
    · have h8 : gs 0 < 8 := by omega
      rw [if_pos (show iI (((10 * gs 1 + gs 2 : Nat) : Int) - 45) ≤ iI 45 by rw [iI_le (by omega) (by omega) (by omega) (by omega)]; omega), if_pos (show iI ((10 * gs 1 + gs 2 : Nat) : Int) ≤ 90 by rw [c_90, iI_le (by omega) (by omega) (by omega) (by omega)]; omega), if_neg (g_8 h8), o_b]
      dsimp only
      rw [if_neg (show ¬ ¬ ((1 : Int32) = 0 ∨ (1 : Int32) = 1) by decide), if_neg (g_37 h8), n_37 h8, iI_N (show gs 0 < 2147483648 by omega)]
      exact ⟨_, rfl, Or.inl ⟨rfl, _, c.put (gs 0) (((10 * gs 1 + gs 2 : Nat) : Int) - 45), rfl, fun se => ⟨put_ok hO (by omega) (by omega), ⟨rfl, r2, r3, r4, r5, r6, put_ca r7 (gs 0) (((10 * gs 1 + gs 2 : Nat) : Int) - 45)⟩, put_row hq _, hdy⟩⟩⟩
    · rw [if_neg (show ¬ iI (((10 * gs 1 + gs 2 : Nat) : Int) - 45) ≤ iI 45 by rw [iI_le (by omega) (by omega) (by omega) (by omega)]; omega), if_neg (show ¬ iI ((10 * gs 1 + gs 2 : Nat) : Int) ≤ 90 by rw [c_90, iI_le (by omega) (by omega) (by omega) (by omega)]; omega), o_b]
      dsimp only
      rw [if_neg (show ¬ ¬ ((0 : Int32) = 0 ∨ (0 : Int32) = 1) by decide)]
      exact ⟨_, rfl, Or.inr ⟨rfl, _, rfl⟩⟩
  · rw [if_neg c1, if_pos rfl, if_pos rfl, o_b]
    dsimp only
    rw [if_neg (show ¬ ¬ ((0 : Int32) = 0 ∨ (0 : Int32) = 1) by decide)]
    exact ⟨_, rfl, Or.inr ⟨rfl, _, rfl⟩⟩
theorem tk_114 {el : Nat → Int32} {z p : Nat} {gs : Nat → Nat} (hz : z ≤ 100) (hS : Stm el z p 114 1 gs) {c : MC} {T : CS} {q num : Nat → Int32} (h : Rl c T q) (hN : NT 114 gs num) : OutT el z p 114 T q num := by
  obtain ⟨-, hp, he, hd⟩ := hS
  obtain ⟨hO, ⟨r1, r2, r3, r4, r5, r6, r7⟩, hq, hdy⟩ := h
  have hn := hO.1.1
  have n0 := hN.2.2.2.1 rfl
  have d0 := hd 0 (by omega)
  have b0 := d0.2.1
  have s0 : S_Shelf_digit (iI ((p + 1 : Nat) : Int)) (iI (z : Nat)) el = some (iI (gs 0 : Nat)) := dig_s hz d0
  have n0 : num (0 : Int32).toNatClampNeg = iI (gs 0 : Nat) := n0
  unfold OutT S_City_takesStatement S_City_takesPropTold S_MD_isDone
  rw [if_neg (g_100 (show p < 100 by omega)), iI_N (show p < 2147483648 by omega), he, if_neg (show ¬ iI ((114 : Nat) : Int) = 108 by decide), if_neg (show ¬ iI ((114 : Nat) : Int) = 109 by decide), if_pos (show iI ((114 : Nat) : Int) = 114 by decide), if_neg (show ¬ iI ((114 : Nat) : Int) = 108 by decide), if_neg (show ¬ iI ((114 : Nat) : Int) = 109 by decide), if_pos (show iI ((114 : Nat) : Int) = 114 by decide), pos_i p 1 (x := 1) (by decide), s0, o_b, n0, r1, has_i (by omega) (by omega) hn, isMan_i hn hq (by omega) (by omega), o_b]
  by_cases c1 : (0 : Int) ≤ (gs 0 : Nat) ∧ ((gs 0 : Nat) : Int) < c.n
  · have hin : gs 0 < c.n := by omega
    have t1 : S_City_turnProp (iI (gs 0 : Nat)) T.2.1 = iI (setOf (flip c.p (gs 0)) c.n : Nat) := by
      unfold S_City_turnProp
      rw [r2, c_1, c_31, b_xor (gs 0) (by omega) _ (setOf_256 hn), setOf_flip c.p hin]
    have t3 : q (8 + 4 * gs 0) ^^^ (1 : Int32) = iI (if flip c.p (gs 0) (gs 0) then 1 else 0) := by
      rw [(hq.at hin).2.2.2]
      have : flip c.p (gs 0) (gs 0) = !(c.p (gs 0)) := by simp [flip]
      rw [this]
      cases c.p (gs 0) <;> decide
    rw [if_pos c1, if_neg (show ¬ (1 : Int32) = 0 by decide), if_neg (show ¬ (1 : Int32) = 0 by decide), t1, o_b]
    dsimp only
    rw [if_neg (show ¬ ¬ ((1 : Int32) = 0 ∨ (1 : Int32) = 1) by decide), c_3, of_n3 (show gs 0 < 8 by omega), if_neg (show ¬ (S_MD_of (iI (gs 0 : Nat)) (iI 3) < 0 ∨ 37 ≤ 8 + 4 * gs 0) by rw [c_0, of_g3 (by omega)]; exact id), t3]
    exact ⟨_, rfl, Or.inl ⟨rfl, _, c.wp (flip c.p (gs 0)), rfl, fun se => ⟨⟨hO.1, hO.2⟩, ⟨rfl, rfl, r3, r4, r5, r6, r7⟩, flip_row hq, hdy⟩⟩⟩
  · rw [if_neg c1, if_pos rfl, if_pos rfl, o_b]
    dsimp only
    rw [if_neg (show ¬ ¬ ((0 : Int32) = 0 ∨ (0 : Int32) = 1) by decide)]
    exact ⟨_, rfl, Or.inr ⟨rfl, _, rfl⟩⟩
theorem tk_119 {el : Nat → Int32} {z p : Nat} {gs : Nat → Nat} (hz : z ≤ 100) (hS : Stm el z p 119 2 gs) {c : MC} {T : CS} {q num : Nat → Int32} (h : Rl c T q) (hN : NT 119 gs num) : OutT el z p 119 T q num := by
  obtain ⟨-, hp, he, hd⟩ := hS
  obtain ⟨hO, ⟨r1, r2, r3, r4, r5, r6, r7⟩, hq, hdy⟩ := h
  have hn := hO.1.1
  obtain ⟨n0, n1⟩ := hN.2.2.2.2 rfl
  have d0 := hd 0 (by omega)
  have d1 := hd 1 (by omega)
  have b0 := d0.2.1
  have b1 := d1.2.1
  have s0 : S_Shelf_digit (iI ((p + 1 : Nat) : Int)) (iI (z : Nat)) el = some (iI (gs 0 : Nat)) := dig_s hz d0
  have s1 : S_Shelf_digit (iI ((p + 2 : Nat) : Int)) (iI (z : Nat)) el = some (iI (gs 1 : Nat)) := dig_s hz d1
  have n0 : num (0 : Int32).toNatClampNeg = iI (gs 0 : Nat) := n0
  have n1 : num (1 : Int32).toNatClampNeg = iI (gs 1 : Nat) := n1
  unfold OutT S_City_takesStatement S_City_takesLeadTold S_MD_isDone
  rw [if_neg (g_100 (show p < 100 by omega)), iI_N (show p < 2147483648 by omega), he, if_neg (show ¬ iI ((119 : Nat) : Int) = 108 by decide), if_neg (show ¬ iI ((119 : Nat) : Int) = 109 by decide), if_neg (show ¬ iI ((119 : Nat) : Int) = 114 by decide), if_pos (show iI ((119 : Nat) : Int) = 119 by decide), if_neg (show ¬ iI ((119 : Nat) : Int) = 108 by decide), if_neg (show ¬ iI ((119 : Nat) : Int) = 109 by decide), if_neg (show ¬ iI ((119 : Nat) : Int) = 114 by decide), if_pos (show iI ((119 : Nat) : Int) = 119 by decide), pos_i p 1 (x := 1) (by decide), pos_i p 2 (x := 2) (by decide), s0, s1, o_b, o_b, n0, n1]
  by_cases c1 : gs 1 < 8
  · rw [if_pos (show iI (gs 1 : Nat) < 8 by rw [c_8, iI_lt (by omega) (by omega) (by omega) (by omega)]; omega), if_pos (show iI (gs 1 : Nat) < 8 by rw [c_8, iI_lt (by omega) (by omega) (by omega) (by omega)]; omega), o_b]
    dsimp only
    rw [if_neg (show ¬ ¬ ((1 : Int32) = 0 ∨ (1 : Int32) = 1) by decide)]
    exact ⟨_, rfl, Or.inl ⟨rfl, _, c.wl (gs 0) (gs 1), rfl, fun se => ⟨wl_ok hO b0 (by omega), ⟨r1, r2, rfl, rfl, r5, r6, r7⟩, (hq.set3 (gs 0)).set2 (gs 1), hdy⟩⟩⟩
  · rw [if_neg (show ¬ iI (gs 1 : Nat) < 8 by rw [c_8, iI_lt (by omega) (by omega) (by omega) (by omega)]; omega), if_neg (show ¬ iI (gs 1 : Nat) < 8 by rw [c_8, iI_lt (by omega) (by omega) (by omega) (by omega)]; omega), o_b]
    dsimp only
    rw [if_neg (show ¬ ¬ ((0 : Int32) = 0 ∨ (0 : Int32) = 1) by decide)]
    exact ⟨_, rfl, Or.inr ⟨rfl, _, rfl⟩⟩
theorem tk_100 {el : Nat → Int32} {z p : Nat} {gs : Nat → Nat} (hz : z ≤ 100) (hS : Stm el z p 100 2 gs) {c : MC} {T : CS} {q num : Nat → Int32} (h : Rl c T q) (hN : NT 100 gs num) : OutT el z p 100 T q num := by
  obtain ⟨-, hp, he, hd⟩ := hS
  obtain ⟨hO, hC, hq, hdy⟩ := h
  have hn := hO.1.1
  have n0 := hN.1 rfl
  have d0 := hd 0 (by omega)
  have d1 := hd 1 (by omega)
  have b0 := d0.2.1
  have b1 := d1.2.1
  have s0 : S_Shelf_twoDigits (iI ((p + 1 : Nat) : Int)) (iI (z : Nat)) el = some (iI ((10 * gs 0 + gs 1 : Nat) : Int)) := dig_2 hz d0 d1
  have n0 : num (0 : Int32).toNatClampNeg = iI ((10 * gs 0 + gs 1 : Nat) : Int) := n0
  have q1 : q (1 : Int32).toNatClampNeg = iI c.dy := hq.2.1
  have e6 := hC.2.2.2.2.2.1
  have i1 : S_PL_isIn (iI ((10 * gs 0 + gs 1 : Nat) : Int)) 1 60 = if (1 : Int) ≤ ((10 * gs 0 + gs 1 : Nat) : Int) ∧ ((10 * gs 0 + gs 1 : Nat) : Int) ≤ 60 then 1 else 0 := in_PL (a := 1) (b := 60) (by omega) (by omega) (by omega) (by omega) (by omega) (by omega)
  have i2 : S_MD_isIn (iI ((10 * gs 0 + gs 1 : Nat) : Int)) 1 60 = if (1 : Int) ≤ ((10 * gs 0 + gs 1 : Nat) : Int) ∧ ((10 * gs 0 + gs 1 : Nat) : Int) ≤ 60 then 1 else 0 := in_MD (a := 1) (b := 60) (by omega) (by omega) (by omega) (by omega) (by omega) (by omega)
  unfold OutT S_City_takesStatement S_City_takesDaysTold S_MD_isDone
  rw [if_neg (g_100 (show p < 100 by omega)), iI_N (show p < 2147483648 by omega), he, if_neg (show ¬ iI ((100 : Nat) : Int) = 108 by decide), if_neg (show ¬ iI ((100 : Nat) : Int) = 109 by decide), if_neg (show ¬ iI ((100 : Nat) : Int) = 114 by decide), if_neg (show ¬ iI ((100 : Nat) : Int) = 119 by decide), if_neg (show ¬ iI ((100 : Nat) : Int) = 108 by decide), if_neg (show ¬ iI ((100 : Nat) : Int) = 109 by decide), if_neg (show ¬ iI ((100 : Nat) : Int) = 114 by decide), if_neg (show ¬ iI ((100 : Nat) : Int) = 119 by decide), pos_i p 1 (x := 1) (by decide), s0, o_b, n0, i1, i2, q1]
  by_cases c1 : (1 : Int) ≤ ((10 * gs 0 + gs 1 : Nat) : Int) ∧ ((10 * gs 0 + gs 1 : Nat) : Int) ≤ 60
  · rw [if_pos c1, if_neg (show ¬ (1 : Int32) = 0 by decide), if_neg (show ¬ (1 : Int32) = 0 by decide), show T.2.2.2.2.2.1 + iI ((10 * gs 0 + gs 1 : Nat) : Int) = iI ((c.dy : Int) + ((10 * gs 0 + gs 1 : Nat) : Int)) by rw [e6, iI_add], iI_add]
    by_cases c2 : c.dy + (10 * gs 0 + gs 1) ≤ 999
    · obtain ⟨o, k1, k2⟩ := cr_days (n := 10 * gs 0 + gs 1) hO (by omega) (by omega) hC
      obtain ⟨q', m1, m2⟩ := m_days hO (n := 10 * gs 0 + gs 1) (by omega) (by omega) hq
      rw [if_pos (show iI ((c.dy : Int) + ((10 * gs 0 + gs 1 : Nat) : Int)) ≤ 999 by rw [c_999, iI_le (by omega) (by omega) (by omega) (by omega)]; omega), if_pos (show iI ((c.dy : Int) + ((10 * gs 0 + gs 1 : Nat) : Int)) ≤ 999 by rw [c_999, iI_le (by omega) (by omega) (by omega) (by omega)]; omega), k1, o_b, o_b]
      dsimp only
      rw [if_neg (show ¬ ¬ ((1 : Int32) = 0 ∨ (1 : Int32) = 1) by decide), m1, o_b]
      refine ⟨_, rfl, Or.inl ⟨rfl, q', days c (10 * gs 0 + gs 1), rfl, fun se => ⟨hO.days _, ?_, m2, by rw [days_dy]; exact c2⟩⟩⟩
      obtain ⟨t1, t2, t3, t4, t5, t6, t7⟩ := k2
      exact ⟨t1, t2, t3, t4, t5, t6, t7⟩
    · rw [if_neg (show ¬ iI ((c.dy : Int) + ((10 * gs 0 + gs 1 : Nat) : Int)) ≤ 999 by rw [c_999, iI_le (by omega) (by omega) (by omega) (by omega)]; omega), if_neg (show ¬ iI ((c.dy : Int) + ((10 * gs 0 + gs 1 : Nat) : Int)) ≤ 999 by rw [c_999, iI_le (by omega) (by omega) (by omega) (by omega)]; omega), o_b]
      dsimp only
      rw [if_neg (show ¬ ¬ ((0 : Int32) = 0 ∨ (0 : Int32) = 1) by decide)]
      exact ⟨_, rfl, Or.inr ⟨rfl, _, rfl⟩⟩
  · rw [if_neg c1, if_pos rfl, if_pos rfl, o_b]
    dsimp only
    rw [if_neg (show ¬ ¬ ((0 : Int32) = 0 ∨ (0 : Int32) = 1) by decide)]
    exact ⟨_, rfl, Or.inr ⟨rfl, _, rfl⟩⟩
theorem tk_all {el : Nat → Int32} {z p ch D : Nat} {gs : Nat → Nat} (hz : z ≤ 100) (hS : Stm el z p ch D gs) {c : MC} {T : CS} {q num : Nat → Int32} (h : Rl c T q) (hN : NT ch gs num) : OutT el z p ch T q num := by
  have hL := hS.1
  rcases hL with ⟨rfl, rfl⟩ | ⟨rfl, rfl⟩ | ⟨rfl, rfl⟩ | ⟨rfl, rfl⟩ | ⟨rfl, rfl⟩
  · exact tk_100 hz hS h hN
  · exact tk_108 hz hS h hN
  · exact tk_109 hz hS h hN
  · exact tk_114 hz hS h hN
  · exact tk_119 hz hS h hN
