/-! a city told: the text's form -/
theorem by_and : ∀ t, t < 256 → (iI ((t : Nat) - 128 : Int) &&& 255) = iI (if 128 ≤ t then ((t : Nat) - 128 : Int) else ((t : Nat) + 128 : Int)) := by decide +kernel
theorem here_i {d z p : Nat} (hd : d < 8) (hz : z ≤ 100) (hp : p ≤ 1000) {el E : Nat → Int32} (hE : ∀ i, i < 100 → E (100 * d + i) = el i) (hB : ∀ i, i < 100 → By (el i)) : ∃ h : Int, S_MD_here (iI (p : Nat)) ((100 : Int32) * iI (d : Nat)) (iI (z : Nat)) E = some (iI h) ∧ -1 ≤ h ∧ h ≤ 255 ∧ ∀ ch : Int, 0 ≤ ch → ch ≤ 127 → (h = ch ↔ p < z ∧ el p = iI ch) := by
  unfold S_MD_here
  by_cases hpz : z ≤ p
  · rw [if_pos (le_yes (by omega) (by omega) hpz)]
    refine ⟨-1, rfl, by omega, by omega, fun ch h1 h2 => ⟨fun h => by omega, fun h => by omega⟩⟩
  · obtain ⟨b, b1, b2, b3⟩ := hB p (by omega)
    rw [if_neg (le_no (by omega) (by omega) (by omega)), if_neg (g_800 hd (by omega)), n_800 hd (by omega), hE p (by omega), b3]
    have z1 := by_and (b + 128).toNat (by omega)
    rw [show (((b + 128).toNat : Nat) : Int) - 128 = b by omega] at z1
    rw [z1]
    refine ⟨_, rfl, by split <;> omega, by split <;> omega, fun ch h1 h2 => ?_⟩
    rw [iI_eq (a := b) (b := ch) (by omega) (by omega) (by omega) (by omega)]
    constructor
    · intro h
      split at h <;> omega
    · intro h
      split <;> omega
/-- a digit stands at i -/
def DG (el : Nat → Int32) (z i g : Nat) : Prop := i < z ∧ g ≤ 9 ∧ el i = iI ((48 + g : Nat) : Int)
def NoD (el : Nat → Int32) (z i : Nat) : Prop := ∀ g, ¬ DG el z i g
theorem dg_c (el : Nat → Int32) (z i : Nat) : (∃ g, DG el z i g) ∨ NoD el z i := by
  by_cases h : ∃ g, DG el z i g
  · exact Or.inl h
  · exact Or.inr (fun g hg => h ⟨g, hg⟩)
/-- one digit read by the reference -/
theorem rd_step {d z p : Nat} (hd : d < 8) (hz : z ≤ 100) (hp : p ≤ 1000) {el E : Nat → Int32} (hE : ∀ i, i < 100 → E (100 * d + i) = el i) (hB : ∀ i, i < 100 → By (el i)) {k n t : Nat} (hk : k < 3) (ht : t < n) (hn : n ≤ 2) (f : Nat) (num : Nat → Int32) : (∀ g, DG el z p g → ∀ v : Nat, v ≤ 9 → num k = iI (v : Nat) → ∃ num', S_MD_readsNumber_L9 (iI (k : Nat)) (iI (n : Nat)) ((100 : Int32) * iI (d : Nat)) (iI (z : Nat)) E (f + 1) (iI (t : Nat)) (iI (p : Nat)) num = S_MD_readsNumber_L9 (iI (k : Nat)) (iI (n : Nat)) ((100 : Int32) * iI (d : Nat)) (iI (z : Nat)) E f (iI ((t + 1 : Nat) : Int)) (iI ((p + 1 : Nat) : Int)) num' ∧ num' k = iI ((10 * v + g : Nat) : Int) ∧ ∀ j, ¬ j = k → num' j = num j) ∧ (NoD el z p → S_MD_readsNumber_L9 (iI (k : Nat)) (iI (n : Nat)) ((100 : Int32) * iI (d : Nat)) (iI (z : Nat)) E (f + 1) (iI (t : Nat)) (iI (p : Nat)) num = some (0, iI (p : Nat), num)) := by
  obtain ⟨h, e1, e2, e3, e4⟩ := here_i hd hz hp hE hB
  have ein : S_MD_isIn (iI h) 48 57 = if 48 ≤ h ∧ h ≤ 57 then 1 else 0 := by
    rw [show (48 : Int32) = iI 48 by decide, show (57 : Int32) = iI 57 by decide]
    exact in_MD (by omega) (by omega) (by omega) (by omega) (by omega) (by omega)
  constructor
  · intro g hg v hv hnum
    obtain ⟨g1, g2, g3⟩ := hg
    have eh : h = ((48 + g : Nat) : Int) := (e4 _ (by omega) (by omega)).mpr ⟨g1, g3⟩
    have gk : ¬ (iI (k : Nat) < 0 ∨ 3 ≤ (iI (k : Nat)).toNatClampNeg) := by
      rw [c_0, iI_N (by omega), iI_lt (by omega) (by omega) (by omega) (by omega)]; omega
    rw [S_MD_readsNumber_L9, if_neg (le_no (by omega) (by omega) ht), e1, o_b, ein, if_pos (show 48 ≤ h ∧ h ≤ 57 by omega), if_neg (show ¬ (1 : Int32) = 0 by decide), if_neg gk, o_b, iI_N (by omega), iI_S, iI_S]
    refine ⟨_, rfl, ?_, fun j hj => upd_ne _ _ hj⟩
    rw [upd_same, hnum, eh, show (48 : Int32) = iI 48 by decide, c_10, iI_mul, iI_add, iI_sub]
    congr 1
    omega
  · intro hN
    have eh : ¬ (48 ≤ h ∧ h ≤ 57) := fun y => hN (h - 48).toNat ⟨((e4 h (by omega) (by omega)).mp rfl).1, by omega, by rw [((e4 h (by omega) (by omega)).mp rfl).2]; congr 1; omega⟩
    rw [S_MD_readsNumber_L9, if_neg (le_no (by omega) (by omega) ht), e1, o_b, ein, if_neg eh, if_pos rfl]
theorem rd_end {k n : Nat} (hn : n ≤ 2) (x y : Int32) (E : Nat → Int32) (f : Nat) (p : Int32) (num : Nat → Int32) : S_MD_readsNumber_L9 (iI (k : Nat)) (iI (n : Nat)) x y E (f + 1) (iI (n : Nat)) p num = some (1, p, num) := by
  rw [S_MD_readsNumber_L9, if_pos (le_yes (by omega) (by omega) (Nat.le_refl _))]
/-- one digit -/
theorem rd1 {d z p : Nat} (hd : d < 8) (hz : z ≤ 100) (hp : p ≤ 900) {el E : Nat → Int32} (hE : ∀ i, i < 100 → E (100 * d + i) = el i) (hB : ∀ i, i < 100 → By (el i)) {k : Nat} (hk : k < 3) (num : Nat → Int32) : (∀ g, DG el z p g → ∃ num', S_MD_readsNumber (iI (k : Nat)) 1 (iI (p : Nat)) ((100 : Int32) * iI (d : Nat)) (iI (z : Nat)) num E = some (1, iI ((p + 1 : Nat) : Int), num') ∧ num' k = iI (g : Nat) ∧ ∀ j, ¬ j = k → num' j = num j) ∧ (NoD el z p → ∃ num', S_MD_readsNumber (iI (k : Nat)) 1 (iI (p : Nat)) ((100 : Int32) * iI (d : Nat)) (iI (z : Nat)) num E = some (0, iI (p : Nat), num')) := by
  have gk : ¬ (iI (k : Nat) < 0 ∨ 3 ≤ (iI (k : Nat)).toNatClampNeg) := by
    rw [c_0, iI_N (by omega), iI_lt (by omega) (by omega) (by omega) (by omega)]; omega
  obtain ⟨s1, s2⟩ := rd_step hd hz (by omega) hE hB (p := p) hk (n := 1) (t := 0) (by omega) (by omega) 1999 (upd num k 0)
  unfold S_MD_readsNumber
  rw [if_neg gk, iI_N (by omega)]
  constructor
  · intro g hg
    obtain ⟨num', k1, k2, k3⟩ := s1 g hg 0 (by omega) (by rw [upd_same]; decide)
    refine ⟨num', ?_, by rw [k2]; congr 1; omega, fun j hj => by rw [k3 j hj, upd_ne _ _ hj]⟩
    rw [show (1 : Int32) = iI ((1 : Nat) : Int) by decide]
    refine Eq.trans k1 ?_
    exact rd_end (by omega) _ _ _ 1998 _ _
  · intro hN
    exact ⟨_, s2 hN⟩
/-- two digits -/
theorem rd2 {d z p : Nat} (hd : d < 8) (hz : z ≤ 100) (hp : p ≤ 900) {el E : Nat → Int32} (hE : ∀ i, i < 100 → E (100 * d + i) = el i) (hB : ∀ i, i < 100 → By (el i)) {k : Nat} (hk : k < 3) (num : Nat → Int32) : (∀ g h, DG el z p g → DG el z (p + 1) h → ∃ num', S_MD_readsNumber (iI (k : Nat)) 2 (iI (p : Nat)) ((100 : Int32) * iI (d : Nat)) (iI (z : Nat)) num E = some (1, iI ((p + 2 : Nat) : Int), num') ∧ num' k = iI ((10 * g + h : Nat) : Int) ∧ ∀ j, ¬ j = k → num' j = num j) ∧ (∀ g, DG el z p g → NoD el z (p + 1) → ∃ num', S_MD_readsNumber (iI (k : Nat)) 2 (iI (p : Nat)) ((100 : Int32) * iI (d : Nat)) (iI (z : Nat)) num E = some (0, iI ((p + 1 : Nat) : Int), num')) ∧ (NoD el z p → ∃ num', S_MD_readsNumber (iI (k : Nat)) 2 (iI (p : Nat)) ((100 : Int32) * iI (d : Nat)) (iI (z : Nat)) num E = some (0, iI (p : Nat), num')) := by
  have gk : ¬ (iI (k : Nat) < 0 ∨ 3 ≤ (iI (k : Nat)).toNatClampNeg) := by
    rw [c_0, iI_N (by omega), iI_lt (by omega) (by omega) (by omega) (by omega)]; omega
  obtain ⟨s1, s2⟩ := rd_step hd hz (by omega) hE hB (p := p) hk (n := 2) (t := 0) (by omega) (by omega) 1999 (upd num k 0)
  unfold S_MD_readsNumber
  rw [if_neg gk, iI_N (by omega)]
  refine ⟨fun g h hg hh => ?_, fun g hg hN => ?_, fun hN => ⟨_, s2 hN⟩⟩
  · obtain ⟨num', k1, k2, k3⟩ := s1 g hg 0 (by omega) (by rw [upd_same]; decide)
    obtain ⟨s3, -⟩ := rd_step hd hz (by omega) hE hB (p := p + 1) hk (n := 2) (t := 1) (by omega) (by omega) 1998 num'
    obtain ⟨num2, k4, k5, k6⟩ := s3 h hh g hg.2.1 (by rw [k2]; congr 1; omega)
    refine ⟨num2, ?_, k5, fun j hj => by rw [k6 j hj, k3 j hj, upd_ne _ _ hj]⟩
    rw [show (2 : Int32) = iI ((2 : Nat) : Int) by decide]
    refine Eq.trans k1 (Eq.trans k4 ?_)
    exact rd_end (by omega) _ _ _ 1997 _ _
  · obtain ⟨num', k1, k2, k3⟩ := s1 g hg 0 (by omega) (by rw [upd_same]; decide)
    obtain ⟨-, s4⟩ := rd_step hd hz (by omega) hE hB (p := p + 1) hk (n := 2) (t := 1) (by omega) (by omega) 1998 num'
    refine ⟨num', ?_⟩
    rw [show (2 : Int32) = iI ((2 : Nat) : Int) by decide]
    exact Eq.trans k1 (s4 hN)
/-! the class's digits -/
theorem hasEl_i {z i : Nat} (hz : z ≤ 100) (hi : i ≤ 1000) : S_Shelf_hasElement (iI (i : Nat)) (iI (z : Nat)) = if i < z then 1 else 0 := by
  unfold S_Shelf_hasElement
  rw [if_neg (show ¬ iI (i : Nat) < 0 by rw [c_0, iI_lt (by omega) (by omega) (by omega) (by omega)]; omega)]
  by_cases h : i < z
  · rw [if_neg (le_no (by omega) (by omega) h), if_pos h]
  · rw [if_pos (le_yes (by omega) (by omega) (by omega)), if_neg h]
theorem dig_isin {el : Nat → Int32} {i g : Nat} (hg : g ≤ 9) (he : el i = iI ((48 + g : Nat) : Int)) : S_PL_isIn (el i) 48 57 = 1 := by
  rw [he, show (48 : Int32) = iI 48 by decide, show (57 : Int32) = iI 57 by decide, in_PL (by omega) (by omega) (by omega) (by omega) (by omega) (by omega), if_pos (by omega)]
theorem f_step {el : Nat → Int32} {z y2 i : Nat} (hz : z ≤ 100) (hy : y2 ≤ 900) (hi : i < y2) (f : Nat) : (∀ g, DG el z i g → S_Shelf_faultOfStatement_L40 (iI (y2 : Nat)) (iI (z : Nat)) el (f + 1) (iI (i : Nat)) = S_Shelf_faultOfStatement_L40 (iI (y2 : Nat)) (iI (z : Nat)) el f (iI ((i + 1 : Nat) : Int))) ∧ (NoD el z i → S_Shelf_faultOfStatement_L40 (iI (y2 : Nat)) (iI (z : Nat)) el (f + 1) (iI (i : Nat)) = some (iI (i : Nat))) := by
  constructor
  · intro g hg
    obtain ⟨g1, g2, g3⟩ := hg
    rw [S_Shelf_faultOfStatement_L40, if_neg (le_no (by omega) (by omega) hi), hasEl_i hz (by omega), if_pos g1, if_neg (show ¬ (1 : Int32) = 0 by decide), if_neg (g_100 (by omega)), iI_N (by omega), dig_isin g2 g3, if_neg (show ¬ (1 : Int32) = 0 by decide), iI_S]
  · intro hN
    rw [S_Shelf_faultOfStatement_L40, if_neg (le_no (by omega) (by omega) hi), hasEl_i hz (by omega)]
    by_cases h : i < z
    · obtain ⟨w, w1, w2, w3⟩ := iI_of (el i)
      have : S_PL_isIn (el i) 48 57 = 0 := by
        rw [w3, show (48 : Int32) = iI 48 by decide, show (57 : Int32) = iI 57 by decide, in_PL w1 w2 (by omega) (by omega) (by omega) (by omega), if_neg]
        intro y
        exact hN (w - 48).toNat ⟨h, by omega, by rw [w3]; congr 1; omega⟩
      rw [if_pos h, if_neg (show ¬ (1 : Int32) = 0 by decide), if_neg (g_100 (by omega)), iI_N (by omega), this, if_pos rfl]
    · rw [if_neg h, if_pos rfl]
theorem f_end {el : Nat → Int32} {z y2 : Nat} (hz : z ≤ 100) (hy : y2 ≤ 900) (f : Nat) : (y2 < z ∧ el y2 = 59 → S_Shelf_faultOfStatement_L40 (iI (y2 : Nat)) (iI (z : Nat)) el (f + 1) (iI (y2 : Nat)) = some (-1)) ∧ (¬ (y2 < z ∧ el y2 = 59) → S_Shelf_faultOfStatement_L40 (iI (y2 : Nat)) (iI (z : Nat)) el (f + 1) (iI (y2 : Nat)) = some (iI (y2 : Nat))) := by
  rw [S_Shelf_faultOfStatement_L40, if_pos (le_yes (by omega) (by omega) (Nat.le_refl _)), hasEl_i hz (by omega)]
  by_cases h : y2 < z
  · rw [if_pos h, if_neg (show ¬ (1 : Int32) = 0 by decide), if_neg (g_100 (by omega)), iI_N (by omega)]
    exact ⟨fun y => if_pos y.2, fun y => if_neg (fun e => y ⟨h, e⟩)⟩
  · rw [if_neg h, if_pos rfl]
    exact ⟨fun y => absurd y.1 h, fun _ => rfl⟩
/-- a letter, and how many digits stand behind it -/
def LT (ch D : Nat) : Prop := (ch = 100 ∧ D = 2) ∨ (ch = 108 ∧ D = 3) ∨ (ch = 109 ∧ D = 4) ∨ (ch = 114 ∧ D = 1) ∨ (ch = 119 ∧ D = 2)
/-- a statement stands at p -/
def Stm (el : Nat → Int32) (z p ch D : Nat) (gs : Nat → Nat) : Prop := LT ch D ∧ p + D + 2 ≤ z ∧ el p = iI (ch : Nat) ∧ ∀ i, i < D → DG el z (p + 1 + i) (gs i)
/-- what the numbers tell -/
def NT (ch : Nat) (gs : Nat → Nat) (num : Nat → Int32) : Prop := (ch = 100 → num 0 = iI ((10 * gs 0 + gs 1 : Nat) : Int)) ∧ (ch = 108 → num 0 = iI (gs 0 : Nat) ∧ num 1 = iI ((10 * gs 1 + gs 2 : Nat) : Int)) ∧ (ch = 109 → num 0 = iI (gs 0 : Nat) ∧ num 1 = iI (gs 1 : Nat) ∧ num 2 = iI ((10 * gs 2 + gs 3 : Nat) : Int)) ∧ (ch = 114 → num 0 = iI (gs 0 : Nat)) ∧ (ch = 119 → num 0 = iI (gs 0 : Nat) ∧ num 1 = iI (gs 1 : Nat))
/-- what comes of one statement's form, in class and reference -/
def OutS (d z p : Nat) (el E num : Nat → Int32) : Prop := (∃ ch D gs num', Stm el z p ch D gs ∧ NT ch gs num' ∧ S_Shelf_faultOfStatement (iI (p : Nat)) (iI (z : Nat)) el = some (-1) ∧ S_MD_readsStatement (iI (p : Nat)) ((100 : Int32) * iI (d : Nat)) (iI (z : Nat)) num E = some (1, iI ((p + D + 2 : Nat) : Int), num')) ∨ (∃ f num', f ≤ 900 ∧ S_Shelf_faultOfStatement (iI (p : Nat)) (iI (z : Nat)) el = some (iI (f : Nat)) ∧ S_MD_readsStatement (iI (p : Nat)) ((100 : Int32) * iI (d : Nat)) (iI (z : Nat)) num E = some (0, iI (f : Nat), num'))
/-- the end of a statement: its ';' -/
theorem j190_end {d z p : Nat} (hd : d < 8) (hz : z ≤ 100) (hp : p ≤ 900) {el E : Nat → Int32} (hE : ∀ i, i < 100 → E (100 * d + i) = el i) (hB : ∀ i, i < 100 → By (el i)) (num : Nat → Int32) : (p < z ∧ el p = 59 → S_MD_readsStatement_J190 1 ((100 : Int32) * iI (d : Nat)) (iI (z : Nat)) E (iI (p : Nat)) num = some (1, iI ((p + 1 : Nat) : Int), num)) ∧ (¬ (p < z ∧ el p = 59) → S_MD_readsStatement_J190 1 ((100 : Int32) * iI (d : Nat)) (iI (z : Nat)) E (iI (p : Nat)) num = some (0, iI (p : Nat), num)) := by
  obtain ⟨h, e1, e2, e3, e4⟩ := here_i hd hz (p := p) (by omega) hE hB
  have e5 := e4 59 (by omega) (by omega)
  rw [show iI 59 = 59 by decide] at e5
  unfold S_MD_readsStatement_J190
  have e6 : (iI h = 59) = (h = 59) := by rw [show (59 : Int32) = iI 59 by decide, iI_eq (by omega) (by omega) (by omega) (by omega)]
  rw [if_neg (show ¬ (1 : Int32) = 0 by decide), e1, o_b, iI_S]
  exact ⟨fun y => if_pos (by rw [e6]; exact e5.mpr y), fun y => if_neg (by rw [e6]; exact fun e => y (e5.mp e))⟩
theorem j190_0 {d z : Nat} {E : Nat → Int32} (p : Int32) (num : Nat → Int32) : S_MD_readsStatement_J190 0 ((100 : Int32) * iI (d : Nat)) (iI (z : Nat)) E p num = some (0, p, num) := by
  unfold S_MD_readsStatement_J190
  rw [if_pos rfl]
/-- the class's digits, D of them at most four -/
theorem f_all {el : Nat → Int32} {z p D : Nat} (hz : z ≤ 100) (hp : p ≤ 100) (hD : D ≤ 4) (gs : Nat → Nat) : ∀ m, m ≤ D → (∀ i, i < m → DG el z (p + 1 + i) (gs i)) → S_Shelf_faultOfStatement_L40 (iI ((p + 1 + D : Nat) : Int)) (iI (z : Nat)) el (1990 + 10) (iI ((p + 1 : Nat) : Int)) = S_Shelf_faultOfStatement_L40 (iI ((p + 1 + D : Nat) : Int)) (iI (z : Nat)) el (1990 + (10 - m)) (iI ((p + 1 + m : Nat) : Int))
  | 0, _, _ => rfl
  | m + 1, hm, h => by
    have ih := f_all hz hp hD gs m (by omega) (fun i hi => h i (by omega))
    rw [ih, show 1990 + (10 - m) = (1990 + (10 - (m + 1))) + 1 by omega]
    exact (f_step hz (by omega) (by omega) _).1 _ (h m (by omega))
theorem f_bad {el : Nat → Int32} {z p D : Nat} (hz : z ≤ 100) (hp : p ≤ 100) (hD : D ≤ 4) (gs : Nat → Nat) {m : Nat} (hm : m < D) (h : ∀ i, i < m → DG el z (p + 1 + i) (gs i)) (hN : NoD el z (p + 1 + m)) : S_Shelf_faultOfStatement_L40 (iI ((p + 1 + D : Nat) : Int)) (iI (z : Nat)) el lfu (iI ((p + 1 : Nat) : Int)) = some (iI ((p + 1 + m : Nat) : Int)) := by
  have e := f_all hz hp hD gs m (by omega) h
  refine Eq.trans e ?_
  rw [show 1990 + (10 - m) = (1990 + (9 - m)) + 1 by omega]
  exact (f_step hz (by omega) (by omega) _).2 hN
theorem f_good {el : Nat → Int32} {z p D : Nat} (hz : z ≤ 100) (hp : p ≤ 100) (hD : D ≤ 4) (gs : Nat → Nat) (h : ∀ i, i < D → DG el z (p + 1 + i) (gs i)) : (p + 1 + D < z ∧ el (p + 1 + D) = 59 → S_Shelf_faultOfStatement_L40 (iI ((p + 1 + D : Nat) : Int)) (iI (z : Nat)) el lfu (iI ((p + 1 : Nat) : Int)) = some (-1)) ∧ (¬ (p + 1 + D < z ∧ el (p + 1 + D) = 59) → S_Shelf_faultOfStatement_L40 (iI ((p + 1 + D : Nat) : Int)) (iI (z : Nat)) el lfu (iI ((p + 1 : Nat) : Int)) = some (iI ((p + 1 + D : Nat) : Int))) := by
  have e := f_all hz hp hD gs D (Nat.le_refl _) h
  have r := f_end (el := el) (z := z) (y2 := p + 1 + D) hz (by omega) (1990 + (9 - D))
  rw [show 1990 + (9 - D) + 1 = 1990 + (10 - D) by omega] at r
  exact ⟨fun y => Eq.trans e (r.1 y), fun y => Eq.trans e (r.2 y)⟩
theorem f_open {el : Nat → Int32} {z p ch D : Nat} (hz : z ≤ 100) (hp : p < z) (hL : LT ch D) (he : el p = iI (ch : Nat)) : S_Shelf_faultOfStatement (iI (p : Nat)) (iI (z : Nat)) el = S_Shelf_faultOfStatement_L40 (iI ((p + 1 + D : Nat) : Int)) (iI (z : Nat)) el lfu (iI ((p + 1 : Nat) : Int)) := by
  have hb : S_Shelf_digitsBehind (iI (ch : Nat)) = iI (D : Nat) := by
    rcases hL with ⟨rfl, rfl⟩ | ⟨rfl, rfl⟩ | ⟨rfl, rfl⟩ | ⟨rfl, rfl⟩ | ⟨rfl, rfl⟩ <;> decide
  have hD : 0 < D ∧ D ≤ 4 := by
    rcases hL with ⟨-, rfl⟩ | ⟨-, rfl⟩ | ⟨-, rfl⟩ | ⟨-, rfl⟩ | ⟨-, rfl⟩ <;> omega
  unfold S_Shelf_faultOfStatement S_Shelf_lengthBy
  rw [hasEl_i hz (by omega), if_pos hp, if_neg (show ¬ (1 : Int32) = 0 by decide), if_neg (g_100 (by omega)), iI_N (by omega), he, hb, if_neg (show ¬ iI (D : Nat) = 0 by rw [c_0, iI_eq (by omega) (by omega) (by omega) (by omega)]; omega), iI_S, c_1, c_2, iI_add, iI_add, iI_sub]
  congr 2
  omega
/-- the three digits' list as a function -/
def gsF (a b c d : Nat) : Nat → Nat
  | 0 => a
  | 1 => b
  | 2 => c
  | _ => d
theorem all1 {P : Nat → Prop} (h0 : P 0) : ∀ i, i < 1 → P i := fun i hi => by
  obtain rfl : i = 0 := by omega
  exact h0
theorem all2 {P : Nat → Prop} (h0 : P 0) (h1 : P 1) : ∀ i, i < 2 → P i := fun i hi => by
  rcases (show i = 0 ∨ i = 1 by omega) with rfl | rfl <;> assumption
theorem all3 {P : Nat → Prop} (h0 : P 0) (h1 : P 1) (h2 : P 2) : ∀ i, i < 3 → P i := fun i hi => by
  rcases (show i = 0 ∨ i = 1 ∨ i = 2 by omega) with rfl | rfl | rfl <;> assumption
theorem all4 {P : Nat → Prop} (h0 : P 0) (h1 : P 1) (h2 : P 2) (h3 : P 3) : ∀ i, i < 4 → P i := fun i hi => by
  rcases (show i = 0 ∨ i = 1 ∨ i = 2 ∨ i = 3 by omega) with rfl | rfl | rfl | rfl <;> assumption
theorem all0 {P : Nat → Prop} : ∀ i, i < 0 → P i := fun i hi => absurd hi (Nat.not_lt_zero i)
