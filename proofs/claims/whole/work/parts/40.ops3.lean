/-! hangs, pushes -/
theorem op_hangs {c : MC} {S : CS} {q : Nat → Int32} (h : Rl c S q) (x y : Int32) : ∃ r S' q' c', S_PL_hangs x y S = (r, S') ∧ S_MD_hangs x y q = (r, q') ∧ Rl c' S' q' := by
  have h0 := h
  obtain ⟨hO, ⟨r1, r2, r3, r4, r5, r6, r7⟩, hq, hdy⟩ := h
  obtain ⟨z, hz1, hz2, rfl⟩ := iI_of x
  obtain ⟨w, hw1, hw2, rfl⟩ := iI_of y
  have e1 := in_PL (z := z) (a := 0) (b := 9) hz1 hz2 (by omega) (by omega) (by omega) (by omega)
  have e2 := in_MD (z := z) (a := 0) (b := 9) hz1 hz2 (by omega) (by omega) (by omega) (by omega)
  have e3 := in_PL (z := w) (a := 0) (b := 7) hw1 hw2 (by omega) (by omega) (by omega) (by omega)
  have e4 := in_MD (z := w) (a := 0) (b := 7) hw1 hw2 (by omega) (by omega) (by omega) (by omega)
  unfold S_PL_hangs S_MD_hangs
  rw [c_0, c_9, c_7, e1, e2, e3, e4]
  by_cases hz : 0 ≤ z ∧ z ≤ 9
  · by_cases hw : 0 ≤ w ∧ w ≤ 7
    · obtain ⟨i, rfl⟩ : ∃ i : Nat, z = i := ⟨z.toNat, by omega⟩
      obtain ⟨j, rfl⟩ : ∃ j : Nat, w = j := ⟨w.toNat, by omega⟩
      rw [if_pos hz, if_pos hw, if_neg (show ¬ (1 : Int32) = iI 0 by decide), if_neg (show ¬ (1 : Int32) = iI 0 by decide), if_neg (show ¬ (1 : Int32) = iI 0 by decide), if_neg (show ¬ (1 : Int32) = iI 0 by decide)]
      refine ⟨_, _, _, (c.n, c.k, c.f, c.a, c.p, j, i, c.cr, c.dy), rfl, ?_, ⟨hO.1, ?_, ?_, hO.2.2.2⟩, ⟨r1, r2, rfl, rfl, r5, r6, r7⟩, (hq.set3 i).set2 j, hdy⟩
      · rw [r3, r4]
        show ((10 : Int32) * q 3 + q 2, _) = _
        rw [hq.2.2.2.1, hq.2.2.1]
        rfl
      · show j ≤ 7
        omega
      · show i ≤ 9
        omega
    · rw [if_pos hz, if_neg hw, if_neg (show ¬ (1 : Int32) = iI 0 by decide), if_neg (show ¬ (1 : Int32) = iI 0 by decide), if_pos (show (0 : Int32) = iI 0 by decide), if_pos (show (0 : Int32) = iI 0 by decide)]
      exact ⟨_, _, _, c, rfl, rfl, h0⟩
  · rw [if_neg hz, if_pos (show (0 : Int32) = iI 0 by decide), if_pos (show (0 : Int32) = iI 0 by decide)]
    exact ⟨_, _, _, c, rfl, rfl, h0⟩
/-- one man's lean set anew -/
def MC.put (c : MC) (i : Nat) (v : Int) : MC := c.wa (fun j => if j = i then v else c.a j)
theorem put_ok {c : MC} (h : Ok c) {i : Nat} {v : Int} (h1 : -45 ≤ v) (h2 : v ≤ 45) : Ok (c.put i v) := by
  refine ⟨⟨h.1.1, fun j hj => ⟨(h.1.2 j hj).1, (h.1.2 j hj).2.1, ?_⟩⟩, h.2⟩
  show -45 ≤ (if j = i then v else c.a j) ∧ (if j = i then v else c.a j) ≤ 45
  by_cases hij : j = i
  · rw [if_pos hij]; exact ⟨h1, h2⟩
  · rw [if_neg hij]; exact (h.1.2 j hj).2.2
theorem put_ca {n : Nat} {k f : Nat → Nat} {a : Nat → Int} {kind figure lean : Nat → Int32} (h : CA n k f a kind figure lean) (i : Nat) (v : Int) : CA n k f (fun j => if j = i then v else a j) kind figure (upd lean i (iI v)) := by
  intro j hj
  obtain ⟨h1, h2, h3⟩ := h j hj
  refine ⟨h1, h2, ?_⟩
  by_cases hij : j = i
  · subst hij; rw [upd_same]; simp
  · rw [upd_ne _ _ hij, h3]; simp [hij]
theorem put_row {c : MC} {q : Nat → Int32} (hq : MRow c q) {i : Nat} (v : Int) : MRow (c.put i v) (upd q (7 + 4 * i) (iI v)) := by
  obtain ⟨h0, h1, h2, h3, h4, h5⟩ := hq
  refine ⟨by rw [upd_ne _ _ (by omega)]; exact h0, by rw [upd_ne _ _ (by omega)]; exact h1, by rw [upd_ne _ _ (by omega)]; exact h2, by rw [upd_ne _ _ (by omega)]; exact h3, by rw [upd_ne _ _ (by omega)]; exact h4, fun j hj => ?_⟩
  obtain ⟨a1, a2, a3, a4⟩ := h5 j hj
  rw [upd_ne _ _ (by omega), upd_ne _ _ (by omega), upd_ne (k := 7 + 4 * i) (j := 8 + 4 * j) _ _ (by omega)]
  refine ⟨a1, a2, ?_, a4⟩
  show _ = iI (if j = i then v else c.a j)
  by_cases hij : j = i
  · subst hij
    rw [upd_same, if_pos rfl]
  · rw [upd_ne _ _ (by omega), a3, if_neg hij]
theorem isLean_i {w : Int} (hw1 : -2147483648 ≤ w) (hw2 : w < 2147483648) : S_MD_isLean (iI w) = some (if -45 ≤ w ∧ w ≤ 45 then 1 else 0) := by
  have e := in_MD (z := w) (a := -45) (b := 45) hw1 hw2 (by omega) (by omega) (by omega) (by omega)
  unfold S_MD_isLean
  rw [c_45, iI_neg, e]
  by_cases h : -45 ≤ w ∧ w ≤ 45
  · rw [if_pos h]; rfl
  · rw [if_neg h]; rfl
theorem op_pushes {c : MC} {S : CS} {q : Nat → Int32} (h : Rl c S q) (x y : Int32) : ∃ r S' q' c', S_PL_pushes x y S = some (r, S') ∧ S_MD_pushes x y q = some (r, q') ∧ Rl c' S' q' := by
  have h0 := h
  obtain ⟨hO, ⟨r1, r2, r3, r4, r5, r6, r7⟩, hq, hdy⟩ := h
  have hM := hO.1
  have hn := hM.1
  obtain ⟨z, hz1, hz2, rfl⟩ := iI_of x
  obtain ⟨w, hw1, hw2, rfl⟩ := iI_of y
  have e1 := has_i (n := c.n) hz1 hz2 hn
  have e2 := isMan_i hn hq hz1 hz2
  have e3 := in_PL (z := w) (a := -45) (b := 45) hw1 hw2 (by omega) (by omega) (by omega) (by omega)
  have e4 := isLean_i hw1 hw2
  unfold S_PL_pushes S_MD_pushes
  rw [r1, e1, e2, o_b, e4, o_b, c_45, iI_neg, e3]
  by_cases hi : 0 ≤ z ∧ z < c.n
  · obtain ⟨i, rfl⟩ : ∃ i : Nat, z = i := ⟨z.toNat, by omega⟩
    have hin : i < c.n := by omega
    rw [if_pos hi, if_neg (show ¬ (1 : Int32) = 0 by decide), if_neg (show ¬ (1 : Int32) = 0 by decide)]
    by_cases hw : -45 ≤ w ∧ w ≤ 45
    · have g1 : ¬ (iI (i : Nat) < 0 ∨ 8 ≤ (iI (i : Nat)).toNatClampNeg) := by
        rw [c_0, iI_N (by omega), iI_lt (by omega) (by omega) (by omega) (by omega)]; omega
      rw [if_pos hw, if_neg (show ¬ (1 : Int32) = 0 by decide), if_neg (show ¬ (1 : Int32) = 0 by decide), if_neg g1, iI_N (by omega), c_2, of_n2 (by omega), if_neg (by rw [c_0, of_g2 (by omega)]; exact id), (hq.at hin).2.2.1, (r7 i hin).2.2]
      exact ⟨_, _, _, c.put i w, rfl, rfl, put_ok hO hw.1 hw.2, ⟨rfl, r2, r3, r4, r5, r6, put_ca r7 i w⟩, put_row hq w, hdy⟩
    · rw [if_neg hw, if_pos rfl, if_pos rfl]
      exact ⟨_, _, _, c, rfl, rfl, h0⟩
  · rw [if_neg hi, if_pos rfl, if_pos rfl]
    exact ⟨_, _, _, c, rfl, rfl, h0⟩
