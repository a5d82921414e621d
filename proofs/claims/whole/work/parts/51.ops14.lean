/-! shelves: class and reference side by side -/
/-- a byte -/
def By (v : Int32) : Prop := ∃ b : Int, -128 ≤ b ∧ b ≤ 127 ∧ v = iI b
def RS (kd fg so sz he : Int32) (el : Nat → Int32) (j : Nat) (K KK KF Q Z E : Nat → Int32) : Prop := K j = he ∧ (he = 0 ∨ (he = 1 ∧ ∃ k f : Nat, k < 8 ∧ f ≤ 9 ∧ kd = iI k ∧ fg = iI f ∧ KK j = iI k ∧ KF j = iI f) ∨ (he = 2 ∧ ∃ s z : Nat, s ≤ 2 ∧ z ≤ 100 ∧ so = iI s ∧ sz = iI z ∧ Q j = iI s ∧ Z j = iI z ∧ (∀ i, i < 100 → E (100 * j + i) = el i) ∧ (s = 0 → ∀ i, i < 100 → By (el i))))
def RSh (hk hf hs hz hh : Nat → Int32) (he : Nat → Nat → Int32) (K KK KF Q Z E : Nat → Int32) : Prop := ∀ j, j < 8 → RS (hk j) (hf j) (hs j) (hz j) (hh j) (he j) j K KK KF Q Z E
/-- which shelf is meant, if x is one -/
def Is (x : Int32) (d : Nat) : Prop := d < 8 ∧ ∀ j : Nat, j < 8 → x = iI j → j = d
theorem isin_c (x : Int32) {a b : Int} (h1 : -1000 ≤ a) (h2 : a ≤ 1000) (h3 : -1000 ≤ b) (h4 : b ≤ 1000) : (S_PL_isIn x (iI a) (iI b) = 0 ∧ S_MD_isIn x (iI a) (iI b) = 0 ∧ ¬ (∃ z : Int, a ≤ z ∧ z ≤ b ∧ x = iI z)) ∨ (∃ z : Int, a ≤ z ∧ z ≤ b ∧ x = iI z ∧ S_PL_isIn x (iI a) (iI b) = 1 ∧ S_MD_isIn x (iI a) (iI b) = 1) := by
  obtain ⟨z, hz1, hz2, rfl⟩ := iI_of x
  have e1 := in_PL (z := z) (a := a) (b := b) hz1 hz2 (by omega) (by omega) (by omega) (by omega)
  have e2 := in_MD (z := z) (a := a) (b := b) hz1 hz2 (by omega) (by omega) (by omega) (by omega)
  rw [e1, e2]
  by_cases h : a ≤ z ∧ z ≤ b
  · rw [if_pos h]
    exact Or.inr ⟨z, h.1, h.2, rfl, rfl, rfl⟩
  · rw [if_neg h]
    refine Or.inl ⟨rfl, rfl, ?_⟩
    rintro ⟨w, hw1, hw2, hw3⟩
    rw [iI_eq hz1 hz2 (by omega) (by omega)] at hw3
    omega
theorem shelf_c (x : Int32) : (S_PL_isShelf x = some 0 ∧ S_MD_isShelf x = some 0) ∨ (∃ j : Nat, j < 8 ∧ x = iI j ∧ S_PL_isShelf x = some 1 ∧ S_MD_isShelf x = some 1) := by
  unfold S_PL_isShelf S_MD_isShelf
  rcases isin_c x (a := 0) (b := 7) (by omega) (by omega) (by omega) (by omega) with ⟨h1, h2, -⟩ | ⟨z, h1, h2, rfl, h3, h4⟩
  · left
    rw [c_0, c_7, h1, h2]
    exact ⟨rfl, rfl⟩
  · right
    obtain ⟨j, rfl⟩ : ∃ j : Nat, z = j := ⟨z.toNat, by omega⟩
    refine ⟨j, by omega, rfl, ?_⟩
    rw [c_0, c_7, h3, h4]
    exact ⟨rfl, rfl⟩
theorem g_800 {j i : Nat} (hj : j < 8) (hi : i < 100) : ¬ ((100 : Int32) * iI (j : Nat) + iI (i : Nat) < 0 ∨ 800 ≤ ((100 : Int32) * iI (j : Nat) + iI (i : Nat)).toNatClampNeg) := by
  rw [c_100, iI_mul, iI_add, c_0, iI_Nz (by omega) (by omega), iI_lt (by omega) (by omega) (by omega) (by omega)]; omega
theorem n_800 {j i : Nat} (hj : j < 8) (hi : i < 100) : ((100 : Int32) * iI (j : Nat) + iI (i : Nat)).toNatClampNeg = 100 * j + i := by
  rw [c_100, iI_mul, iI_add, iI_Nz (by omega) (by omega)]; omega
theorem g_100 {i : Nat} (hi : i < 100) : ¬ (iI (i : Nat) < 0 ∨ 100 ≤ (iI (i : Nat)).toNatClampNeg) := by
  rw [c_0, iI_N (by omega), iI_lt (by omega) (by omega) (by omega) (by omega)]; omega
theorem ref_kind (x : Int32) {d : Nat} (hx : Is x d) {kd fg so sz he : Int32} {el K KK KF Q Z E : Nat → Int32} (hR : RS kd fg so sz he el d K KK KF Q Z E) : ∃ r, S_PL_refusalOfKind x he = some r ∧ S_MD_wrongKept x K = some r ∧ (¬ r = 0 ∨ r = 0 ∧ x = iI d ∧ ∃ k f : Nat, k < 8 ∧ f ≤ 9 ∧ kd = iI k ∧ fg = iI f ∧ KK d = iI k ∧ KF d = iI f) := by
  unfold S_PL_refusalOfKind S_MD_wrongKept
  rcases shelf_c x with ⟨h1, h2⟩ | ⟨j, hj, rfl, h1, h2⟩
  · rw [h1, h2, o_b, o_b, if_pos rfl, if_pos rfl]
    exact ⟨_, rfl, rfl, Or.inl (by decide)⟩
  · obtain rfl := hx.2 j hj rfl
    rw [h1, h2, o_b, o_b, if_neg (show ¬ (1 : Int32) = 0 by decide), if_neg (show ¬ (1 : Int32) = 0 by decide), if_neg (g_8 hj), if_neg (g_8 hj), iI_N (by omega)]
    obtain ⟨hK, h0 | ⟨h0, k, f, a1, a2, a3, a4, a5, a6⟩ | ⟨h0, -⟩⟩ := hR
    · rw [hK, h0]
      exact ⟨_, rfl, rfl, Or.inl (by decide)⟩
    · rw [hK, h0]
      exact ⟨0, rfl, rfl, Or.inr ⟨rfl, rfl, k, f, a1, a2, a3, a4, a5, a6⟩⟩
    · rw [hK, h0]
      exact ⟨_, rfl, rfl, Or.inl (by decide)⟩
theorem ref_row (x : Int32) {d : Nat} (hx : Is x d) {kd fg so sz he : Int32} {el K KK KF Q Z E : Nat → Int32} (hR : RS kd fg so sz he el d K KK KF Q Z E) : ∃ r, S_PL_refusalOfRow x he = some r ∧ S_MD_wrongRow x (-1) K Q = some r ∧ (¬ r = 0 ∨ r = 0 ∧ x = iI d ∧ K d = 2 ∧ he = 2 ∧ ∃ s z : Nat, s ≤ 2 ∧ z ≤ 100 ∧ so = iI s ∧ sz = iI z ∧ Q d = iI s ∧ Z d = iI z ∧ (∀ i, i < 100 → E (100 * d + i) = el i) ∧ (s = 0 → ∀ i, i < 100 → By (el i))) := by
  unfold S_PL_refusalOfRow S_MD_wrongRow
  rcases shelf_c x with ⟨h1, h2⟩ | ⟨j, hj, rfl, h1, h2⟩
  · rw [h1, h2, o_b, o_b, if_pos rfl, if_pos rfl]
    exact ⟨_, rfl, rfl, Or.inl (by decide)⟩
  · obtain rfl := hx.2 j hj rfl
    rw [h1, h2, o_b, o_b, if_neg (show ¬ (1 : Int32) = 0 by decide), if_neg (show ¬ (1 : Int32) = 0 by decide), if_neg (g_8 hj), if_neg (g_8 hj), iI_N (by omega)]
    obtain ⟨hK, h0 | ⟨h0, -⟩ | ⟨h0, s, z, a1, a2, a3, a4, a5, a6, a7, a8⟩⟩ := hR
    · rw [hK, h0]
      exact ⟨_, rfl, rfl, Or.inl (by decide)⟩
    · rw [hK, h0]
      exact ⟨_, rfl, rfl, Or.inl (by decide)⟩
    · rw [hK, h0]
      exact ⟨0, rfl, rfl, Or.inr ⟨rfl, rfl, rfl, rfl, s, z, a1, a2, a3, a4, a5, a6, a7, a8⟩⟩
/-- one more man -/
def MC.add (c : MC) (k f : Nat) (v : Int) : MC := (c.n + 1, (fun i => if i = c.n then k else c.k i), (fun i => if i = c.n then f else c.f i), (fun i => if i = c.n then v else c.a i), (fun i => if i = c.n then false else c.p i), c.pl, c.sw, c.cr, c.dy)
theorem add_ok {c : MC} (h : Ok c) (hn : c.n < 8) {k f : Nat} {v : Int} (hk : k < 8) (hf : f ≤ 9) (h1 : -45 ≤ v) (h2 : v ≤ 45) : Ok (c.add k f v) := by
  refine ⟨⟨hn, fun i hi => ?_⟩, h.2⟩
  show (if i = c.n then k else c.k i) < 8 ∧ (if i = c.n then f else c.f i) ≤ 9 ∧ -45 ≤ (if i = c.n then v else c.a i) ∧ (if i = c.n then v else c.a i) ≤ 45
  by_cases hin : i = c.n
  · rw [if_pos hin, if_pos hin, if_pos hin]; exact ⟨hk, hf, h1, h2⟩
  · rw [if_neg hin, if_neg hin, if_neg hin]
    have hi : i < c.n + 1 := hi
    exact h.1.2 i (by omega)
theorem add_ca {n : Nat} {k f : Nat → Nat} {a : Nat → Int} {kind figure lean : Nat → Int32} (h : CA n k f a kind figure lean) (k0 f0 : Nat) (v : Int) : CA (n + 1) (fun i => if i = n then k0 else k i) (fun i => if i = n then f0 else f i) (fun i => if i = n then v else a i) (upd kind n (iI k0)) (upd figure n (iI f0)) (upd lean n (iI v)) := by
  intro i hi
  by_cases hin : i = n
  · subst hin
    rw [upd_same, upd_same, upd_same]
    simp
  · rw [upd_ne _ _ hin, upd_ne _ _ hin, upd_ne _ _ hin]
    simp only [hin, if_false]
    exact h i (by omega)
theorem add_p (p : Nat → Bool) : ∀ n, setOf (fun i => if i = n then false else p i) (n + 1) = setOf p n := by
  intro n
  simp only [setOf]
  rw [if_neg (by simp), Nat.add_zero]
  exact setOf_congr (fun i hi => by rw [if_neg (by omega)])
theorem m_adds {c : MC} {q : Nat → Int32} (hn : c.n < 8) (hq : MRow c q) (k f : Nat) (v : Int) : ∃ q', S_MD_adds (iI k) (iI f) (iI v) q = some q' ∧ MRow (c.add k f v) q' := by
  obtain ⟨h0, h1, h2, h3, h4, h5⟩ := hq
  unfold S_MD_adds
  rw [show q (0 : Int32).toNatClampNeg = iI c.n from h0, c_0, c_1, c_2, c_3, of_n0 hn, of_n1 hn, of_n2 hn, of_n3 hn, if_neg (show ¬ (S_MD_of (iI (c.n : Nat)) (iI 0) < iI 0 ∨ 37 ≤ 5 + 4 * c.n) by rw [of_g0 hn]; exact id), if_neg (show ¬ (S_MD_of (iI (c.n : Nat)) (iI 1) < iI 0 ∨ 37 ≤ 6 + 4 * c.n) by rw [of_g1 hn]; exact id), if_neg (show ¬ (S_MD_of (iI (c.n : Nat)) (iI 2) < iI 0 ∨ 37 ≤ 7 + 4 * c.n) by rw [of_g2 hn]; exact id), if_neg (show ¬ (S_MD_of (iI (c.n : Nat)) (iI 3) < iI 0 ∨ 37 ≤ 8 + 4 * c.n) by rw [of_g3 hn]; exact id)]
  refine ⟨_, rfl, ?_, ?_, ?_, ?_, ?_, fun i hi => ?_⟩
  · show upd (upd (upd (upd (upd q (5 + 4 * c.n) _) (6 + 4 * c.n) _) (7 + 4 * c.n) _) (8 + 4 * c.n) _) 0 _ 0 = _
    rw [upd_same]
    show (upd (upd (upd (upd q (5 + 4 * c.n) _) (6 + 4 * c.n) _) (7 + 4 * c.n) _) (8 + 4 * c.n) _) 0 + iI 1 = _
    rw [upd_ne _ _ (by omega), upd_ne _ _ (by omega), upd_ne _ _ (by omega), upd_ne _ _ (by omega), h0, iI_add]
    rfl
  · show upd (upd (upd (upd (upd q (5 + 4 * c.n) _) (6 + 4 * c.n) _) (7 + 4 * c.n) _) (8 + 4 * c.n) _) 0 _ 1 = _
    rw [upd_ne _ _ (by omega), upd_ne _ _ (by omega), upd_ne _ _ (by omega), upd_ne _ _ (by omega), upd_ne _ _ (by omega)]
    exact h1
  · show upd (upd (upd (upd (upd q (5 + 4 * c.n) _) (6 + 4 * c.n) _) (7 + 4 * c.n) _) (8 + 4 * c.n) _) 0 _ 2 = _
    rw [upd_ne _ _ (by omega), upd_ne _ _ (by omega), upd_ne _ _ (by omega), upd_ne _ _ (by omega), upd_ne _ _ (by omega)]
    exact h2
  · show upd (upd (upd (upd (upd q (5 + 4 * c.n) _) (6 + 4 * c.n) _) (7 + 4 * c.n) _) (8 + 4 * c.n) _) 0 _ 3 = _
    rw [upd_ne _ _ (by omega), upd_ne _ _ (by omega), upd_ne _ _ (by omega), upd_ne _ _ (by omega), upd_ne _ _ (by omega)]
    exact h3
  · show upd (upd (upd (upd (upd q (5 + 4 * c.n) _) (6 + 4 * c.n) _) (7 + 4 * c.n) _) (8 + 4 * c.n) _) 0 _ 4 = _
    rw [upd_ne _ _ (by omega), upd_ne _ _ (by omega), upd_ne _ _ (by omega), upd_ne _ _ (by omega), upd_ne _ _ (by omega)]
    exact h4
  · have hi : i < c.n + 1 := hi
    show upd (upd (upd (upd (upd q (5 + 4 * c.n) _) (6 + 4 * c.n) _) (7 + 4 * c.n) _) (8 + 4 * c.n) _) 0 _ (5 + 4 * i) = iI ((if i = c.n then k else c.k i : Nat) : Int) ∧ upd (upd (upd (upd (upd q (5 + 4 * c.n) _) (6 + 4 * c.n) _) (7 + 4 * c.n) _) (8 + 4 * c.n) _) 0 _ (6 + 4 * i) = iI ((if i = c.n then f else c.f i : Nat) : Int) ∧ upd (upd (upd (upd (upd q (5 + 4 * c.n) _) (6 + 4 * c.n) _) (7 + 4 * c.n) _) (8 + 4 * c.n) _) 0 _ (7 + 4 * i) = iI (if i = c.n then v else c.a i) ∧ upd (upd (upd (upd (upd q (5 + 4 * c.n) _) (6 + 4 * c.n) _) (7 + 4 * c.n) _) (8 + 4 * c.n) _) 0 _ (8 + 4 * i) = iI (if (if i = c.n then false else c.p i) then 1 else 0)
    rw [upd_ne (k := 0) _ _ (by omega), upd_ne (k := 0) _ _ (by omega), upd_ne (k := 0) _ _ (by omega), upd_ne (k := 0) _ _ (by omega)]
    by_cases hin : i = c.n
    · subst hin
      rw [if_pos rfl, if_pos rfl, if_pos rfl, if_pos rfl]
      refine ⟨?_, ?_, ?_, ?_⟩
      · rw [upd_ne _ _ (by omega), upd_ne _ _ (by omega), upd_ne _ _ (by omega), upd_same]
      · rw [upd_ne _ _ (by omega), upd_ne _ _ (by omega), upd_same]
      · rw [upd_ne _ _ (by omega), upd_same]
      · rw [upd_same]
        rfl
    · rw [if_neg hin, if_neg hin, if_neg hin, if_neg hin]
      obtain ⟨b1, b2, b3, b4⟩ := h5 i (by omega)
      refine ⟨?_, ?_, ?_, ?_⟩
      · rw [upd_ne _ _ (by omega), upd_ne _ _ (by omega), upd_ne _ _ (by omega), upd_ne _ _ (by omega)]; exact b1
      · rw [upd_ne _ _ (by omega), upd_ne _ _ (by omega), upd_ne _ _ (by omega), upd_ne _ _ (by omega)]; exact b2
      · rw [upd_ne _ _ (by omega), upd_ne _ _ (by omega), upd_ne _ _ (by omega), upd_ne _ _ (by omega)]; exact b3
      · rw [upd_ne _ _ (by omega), upd_ne _ _ (by omega), upd_ne _ _ (by omega), upd_ne _ _ (by omega)]; exact b4
theorem op_comes {c : MC} {S : CS} {q : Nat → Int32} (h : Rl c S q) (x y : Int32) {d : Nat} (hx : Is x d) {kd fg so sz he : Int32} {el K KK KF Q Z E : Nat → Int32} (hR : RS kd fg so sz he el d K KK KF Q Z E) : ∃ r S' q' c', S_PL_comes x y S kd fg he = some (r, S') ∧ S_MD_comes x y q K KK KF = some (r, q') ∧ Rl c' S' q' := by
  have h0 := h
  obtain ⟨hO, ⟨r1, r2, r3, r4, r5, r6, r7⟩, hq, hdy⟩ := h
  have hn := hO.1.1
  unfold S_PL_comes S_MD_comes S_MD_isLean
  rw [c_45, iI_neg]
  rcases isin_c y (a := -45) (b := 45) (by omega) (by omega) (by omega) (by omega) with ⟨h1, h2, -⟩ | ⟨v, h1, h2, rfl, h3, h4⟩
  · rw [h1, h2, if_pos rfl, if_neg (show ¬ ¬ ((0 : Int32) = 0 ∨ (0 : Int32) = 1) by decide), o_b, if_pos rfl]
    exact ⟨_, _, _, c, rfl, rfl, h0⟩
  · obtain ⟨r, k1, k2, k3⟩ := ref_kind x hx hR
    rw [h3, h4, if_neg (show ¬ (1 : Int32) = 0 by decide), if_neg (show ¬ ¬ ((1 : Int32) = 0 ∨ (1 : Int32) = 1) by decide), o_b, if_neg (show ¬ (1 : Int32) = 0 by decide), k1, k2, o_b, o_b]
    rcases k3 with hr | ⟨rfl, rfl, k, f, a1, a2, rfl, rfl, a5, a6⟩
    · rw [if_neg hr, if_neg hr]
      exact ⟨_, _, _, c, rfl, rfl, h0⟩
    · rw [if_pos rfl, if_pos rfl, if_neg (g_8 hx.1), if_neg (g_8 hx.1), iI_N (show d < 2147483648 by have := hx.1; omega), a5, a6, show q (0 : Int32).toNatClampNeg = iI c.n from hq.1]
      unfold S_City_takesIn
      rw [r1]
      by_cases h8 : c.n = 8
      · rw [if_neg (show ¬ iI (c.n : Nat) < 8 by rw [c_8, iI_lt (by omega) (by omega) (by omega) (by omega)]; omega), if_pos (show iI (c.n : Nat) = 8 by rw [h8]; decide), o_b, if_pos rfl]
        refine ⟨_, _, _, c, rfl, rfl, hO, ⟨rfl, r2, r3, r4, r5, r6, r7⟩, hq, hdy⟩
      · obtain ⟨q', m1, m2⟩ := m_adds (c := c) (q := q) (by omega) hq k f v
        rw [if_pos (show iI (c.n : Nat) < 8 by rw [c_8, iI_lt (by omega) (by omega) (by omega) (by omega)]; omega), if_neg (show ¬ iI (c.n : Nat) = 8 by rw [c_8, iI_eq (by omega) (by omega) (by omega) (by omega)]; omega), if_neg (g_8 (show c.n < 8 by omega)), o_b, m1, o_b, iI_N (show c.n < 2147483648 by omega), if_neg (show ¬ (1 : Int32) = 0 by decide), iI_S]
        refine ⟨_, _, q', c.add k f v, rfl, ?_, add_ok hO (by omega) a1 a2 h1 h2, ⟨rfl, ?_, r3, r4, r5, r6, add_ca r7 k f v⟩, m2, hdy⟩
        · rw [show q' (0 : Int32).toNatClampNeg = iI ((c.n + 1 : Nat) : Int) from m2.1]
        · show S.2.1 = iI (setOf (fun i => if i = c.n then false else c.p i) (c.n + 1) : Nat)
          rw [add_p]
          exact r2
