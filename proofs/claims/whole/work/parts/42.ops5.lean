/-! props, count -/
def flip (p : Nat → Bool) (i j : Nat) : Bool := if j = i then !(p j) else p j
theorem setOf_flip (p : Nat → Bool) {n i : Nat} (hi : i < n) : setOf p n ^^^ 2 ^ i = setOf (flip p i) n := by
  apply Nat.eq_of_testBit_eq
  intro j
  rw [Nat.testBit_xor, setOf_bit, setOf_bit, Nat.testBit_two_pow]
  by_cases hj : j = i
  · subst hj
    simp [flip, hi]
  · have h1 : ¬ i = j := fun z => hj z.symm
    simp [flip, hj, h1]
def MC.wp (c : MC) (p : Nat → Bool) : MC := (c.n, c.k, c.f, c.a, p, c.pl, c.sw, c.cr, c.dy)
theorem flip_row {c : MC} {q : Nat → Int32} (hq : MRow c q) {i : Nat} : MRow (c.wp (flip c.p i)) (upd q (8 + 4 * i) (iI (if flip c.p i i then 1 else 0))) := by
  obtain ⟨h0, h1, h2, h3, h4, h5⟩ := hq
  refine ⟨by rw [upd_ne _ _ (by omega)]; exact h0, by rw [upd_ne _ _ (by omega)]; exact h1, by rw [upd_ne _ _ (by omega)]; exact h2, by rw [upd_ne _ _ (by omega)]; exact h3, by rw [upd_ne _ _ (by omega)]; exact h4, fun j hj => ?_⟩
  obtain ⟨a1, a2, a3, a4⟩ := h5 j hj
  rw [upd_ne (k := 8 + 4 * i) (j := 5 + 4 * j) _ _ (by omega), upd_ne (k := 8 + 4 * i) (j := 6 + 4 * j) _ _ (by omega), upd_ne (k := 8 + 4 * i) (j := 7 + 4 * j) _ _ (by omega)]
  refine ⟨a1, a2, a3, ?_⟩
  show _ = iI (if flip c.p i j then 1 else 0)
  by_cases hij : j = i
  · subst hij
    rw [upd_same]
  · rw [upd_ne _ _ (by omega), a4]
    simp [flip, hij]
theorem op_props {c : MC} {S : CS} {q : Nat → Int32} (h : Rl c S q) (x : Int32) : ∃ r S' q' c', S_PL_props x S = (r, S') ∧ S_MD_props x q = some (r, q') ∧ Rl c' S' q' := by
  have h0 := h
  obtain ⟨hO, ⟨r1, r2, r3, r4, r5, r6, r7⟩, hq, hdy⟩ := h
  have hM := hO.1
  have hn := hM.1
  obtain ⟨z, hz1, hz2, rfl⟩ := iI_of x
  have e1 := has_i (n := c.n) hz1 hz2 hn
  have e2 := isMan_i hn hq hz1 hz2
  unfold S_PL_props S_MD_props
  rw [r1, e1, e2, o_b]
  by_cases hi : 0 ≤ z ∧ z < c.n
  · obtain ⟨i, rfl⟩ : ∃ i : Nat, z = i := ⟨z.toNat, by omega⟩
    have hin : i < c.n := by omega
    have t1 : S_City_turnProp (iI i) S.2.1 = iI (setOf (flip c.p i) c.n : Nat) := by
      unfold S_City_turnProp
      rw [r2, c_1, c_31, b_xor i (by omega) _ (setOf_256 hn), setOf_flip c.p hin]
    have t2 := s_propped (p := flip c.p i) hn hin
    have t3 : q (8 + 4 * i) ^^^ (1 : Int32) = iI (if flip c.p i i then 1 else 0) := by
      rw [(hq.at hin).2.2.2]
      have : flip c.p i i = !(c.p i) := by simp [flip]
      rw [this]
      cases c.p i <;> decide
    rw [if_pos hi, if_neg (show ¬ (1 : Int32) = 0 by decide), if_neg (show ¬ (1 : Int32) = 0 by decide), t1, t2, c_3, of_n3 (by omega), if_neg (show ¬ (S_MD_of (iI (i : Nat)) (iI 3) < 0 ∨ 37 ≤ 8 + 4 * i) by rw [c_0, of_g3 (by omega)]; exact id), t3, upd_same]
    cases hp : flip c.p i i with
    | true =>
      refine ⟨_, _, _, c.wp (flip c.p i), rfl, rfl, ?_⟩
      refine ⟨⟨hO.1, hO.2⟩, ⟨rfl, rfl, r3, r4, r5, r6, r7⟩, ?_, hdy⟩
      have z := flip_row hq (i := i)
      rw [hp] at z
      exact z
    | false =>
      refine ⟨_, _, _, c.wp (flip c.p i), rfl, rfl, ?_⟩
      refine ⟨⟨hO.1, hO.2⟩, ⟨rfl, rfl, r3, r4, r5, r6, r7⟩, ?_, hdy⟩
      have z := flip_row hq (i := i)
      rw [hp] at z
      exact z
  · rw [if_neg hi, if_pos rfl, if_pos rfl]
    exact ⟨_, _, _, c, rfl, rfl, h0⟩
