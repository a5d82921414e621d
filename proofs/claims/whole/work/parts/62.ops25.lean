/-! copy -/
theorem elems_i {a b z : Int} (ha : -2147483648 ≤ a) (ha2 : a < 2147483648) (hb : -2147483648 ≤ b) (hb2 : b < 2147483648) (hz : 0 ≤ z) (hz2 : z ≤ 100) : S_Shelf_hasElements (iI a) (iI b) (iI z) = if 0 ≤ a ∧ 0 ≤ b ∧ a + b ≤ z then 1 else 0 := by
  unfold S_Shelf_hasElements
  rw [c_0]
  by_cases h1 : a < 0
  · rw [if_pos (by rw [iI_lt ha ha2 (by omega) (by omega)]; exact h1), if_neg (by omega)]
  · rw [if_neg (by rw [iI_lt ha ha2 (by omega) (by omega)]; exact h1)]
    by_cases h2 : b < 0
    · rw [if_pos (by rw [iI_lt hb hb2 (by omega) (by omega)]; exact h2), if_neg (by omega)]
    · rw [if_neg (by rw [iI_lt hb hb2 (by omega) (by omega)]; exact h2)]
      by_cases h3 : z < a
      · rw [if_pos (by rw [iI_lt (by omega) (by omega) ha ha2]; exact h3), if_neg (by omega)]
      · rw [if_neg (by rw [iI_lt (by omega) (by omega) ha ha2]; exact h3), iI_sub]
        by_cases h4 : z - a < b
        · rw [if_pos (by rw [iI_lt (by omega) (by omega) hb hb2]; exact h4), if_neg (by omega)]
        · rw [if_neg (by rw [iI_lt (by omega) (by omega) hb hb2]; exact h4), if_pos (by omega)]
/-- which elements are copied after t steps -/
def dne (back : Prop) [Decidable back] (m t v : Nat) : Prop := v < m ∧ (if back then m ≤ v + t else v < t)
theorem copy_l {d e a b m : Nat} (hd : d < 8) (he : e < 8) (hm : a + m ≤ 100) (hm2 : b + m ≤ 100) (E : Nat → Int32) : ∃ E', S_MD_copy_L122 (iI (d : Nat)) (iI (a : Nat)) (iI (e : Nat)) (iI (b : Nat)) (iI (m : Nat)) lfu 0 E = some (iI (m : Nat), E') ∧ (∀ i, i < 100 → E' (100 * e + i) = if b ≤ i ∧ i < b + m then E (100 * d + (a + (i - b))) else E (100 * e + i)) ∧ ∀ j i, ¬ j = e → i < 100 → E' (100 * j + i) = E (100 * j + i) := by
  have z := for_i (fun g t (s : Nat → Int32) => S_MD_copy_L122 (iI (d : Nat)) (iI (a : Nat)) (iI (e : Nat)) (iI (b : Nat)) (iI (m : Nat)) g (iI t) s) (fun t s => (∀ v, v < m → (if a ≤ b then m ≤ v + t else v < t) → s (100 * e + (b + v)) = E (100 * d + (a + v))) ∧ (∀ i, i < 100 → (∀ v, v < m → (if a ≤ b then m ≤ v + t else v < t) → ¬ i = b + v) → s (100 * e + i) = E (100 * e + i)) ∧ ∀ j i, ¬ j = e → i < 100 → s (100 * j + i) = E (100 * j + i)) (fun o => ∃ E', o = (iI (m : Nat), E') ∧ (∀ i, i < 100 → E' (100 * e + i) = if b ≤ i ∧ i < b + m then E (100 * d + (a + (i - b))) else E (100 * e + i)) ∧ ∀ j i, ¬ j = e → i < 100 → E' (100 * j + i) = E (100 * j + i)) m (fun g t s ht hI kk => by
    show ∃ o, S_MD_copy_L122 _ _ _ _ _ (g + 1) _ _ = some o ∧ _
    obtain ⟨h1, h2, h3⟩ := hI
    have one : ∀ v0 : Nat, v0 < m → (if a ≤ b then v0 + t + 1 = m else v0 = t) → ∃ o, S_MD_copy_J147 (S_MD_copy_L122 (iI (d : Nat)) (iI (a : Nat)) (iI (e : Nat)) (iI (b : Nat)) (iI (m : Nat)) g) (iI (d : Nat)) (iI (a : Nat)) (iI (e : Nat)) (iI (b : Nat)) (iI (t : Nat)) (iI (v0 : Nat)) s = some o ∧ ∃ E', o = (iI (m : Nat), E') ∧ (∀ i, i < 100 → E' (100 * e + i) = if b ≤ i ∧ i < b + m then E (100 * d + (a + (i - b))) else E (100 * e + i)) ∧ ∀ j i, ¬ j = e → i < 100 → E' (100 * j + i) = E (100 * j + i) := by
      intro v0 hv hv2
      have x1 : (100 : Int32) * iI (d : Nat) + iI (a : Nat) + iI (v0 : Nat) = (100 : Int32) * iI (d : Nat) + iI ((a + v0 : Nat) : Int) := by rw [c_100, iI_mul, iI_add, iI_add, iI_add]; congr 1; omega
      have x2 : (100 : Int32) * iI (e : Nat) + iI (b : Nat) + iI (v0 : Nat) = (100 : Int32) * iI (e : Nat) + iI ((b + v0 : Nat) : Int) := by rw [c_100, iI_mul, iI_add, iI_add, iI_add]; congr 1; omega
      have rd : s (100 * d + (a + v0)) = E (100 * d + (a + v0)) := by
        by_cases hde : d = e
        · rw [hde]
          refine h2 (a + v0) (by omega) (fun v hv3 hv4 => ?_)
          by_cases hab : a ≤ b
          · rw [if_pos hab] at hv4 hv2
            omega
          · rw [if_neg hab] at hv4 hv2
            omega
        · exact h3 d (a + v0) hde (by omega)
      unfold S_MD_copy_J147
      rw [x1, x2, if_neg (g_800 hd (by omega)), if_neg (g_800 he (by omega)), n_800 hd (by omega), n_800 he (by omega), rd, iI_S]
      refine kk _ ⟨fun v hv3 hv4 => ?_, fun i hi hv4 => ?_, fun j i hj hi => ?_⟩
      · by_cases hvv : v = v0
        · rw [hvv, upd_same]
        · rw [upd_ne _ _ (by omega)]
          refine h1 v hv3 ?_
          by_cases hab : a ≤ b
          · rw [if_pos hab] at hv4 hv2 ⊢
            omega
          · rw [if_neg hab] at hv4 hv2 ⊢
            omega
      · have hne : ¬ i = b + v0 := hv4 v0 hv (by
          by_cases hab : a ≤ b
          · rw [if_pos hab] at hv2 ⊢
            omega
          · rw [if_neg hab] at hv2 ⊢
            omega)
        rw [upd_ne _ _ (by omega)]
        refine h2 i hi (fun v hv5 hv6 => hv4 v hv5 ?_)
        by_cases hab : a ≤ b
        · rw [if_pos hab] at hv6 ⊢
          omega
        · rw [if_neg hab] at hv6 ⊢
          omega
      · rw [upd_ne _ _ (by omega)]
        exact h3 j i hj hi
    rw [S_MD_copy_L122, if_neg (le_no (by omega) (by omega) ht)]
    by_cases hab : a ≤ b
    · rw [if_pos (le_yes (by omega) (by omega) hab), show iI (m : Nat) - 1 - iI (t : Nat) = iI ((m - 1 - t : Nat) : Int) by rw [c_1, iI_sub, iI_sub]; congr 1; omega]
      exact one (m - 1 - t) (by omega) (by rw [if_pos hab]; omega)
    · rw [if_neg (le_no (by omega) (by omega) (by omega))]
      exact one t ht (by rw [if_neg hab])) (fun g s hI => by
    show ∃ o, S_MD_copy_L122 _ _ _ _ _ (g + 1) _ _ = some o ∧ _
    obtain ⟨h1, h2, h3⟩ := hI
    rw [S_MD_copy_L122, if_pos (le_yes (by omega) (by omega) (Nat.le_refl _))]
    refine ⟨_, rfl, s, rfl, fun i hi => ?_, h3⟩
    by_cases hin : b ≤ i ∧ i < b + m
    · rw [if_pos hin]
      have := h1 (i - b) (by omega) (by split <;> omega)
      rw [show b + (i - b) = i by omega] at this
      exact this
    · rw [if_neg hin]
      exact h2 i hi (fun v hv _ hiv => hin (by omega))) lfu E (by unfold lfu; omega) ⟨fun v hv hv2 => absurd hv2 (by split <;> omega), fun i hi _ => rfl, fun j i _ _ => rfl⟩
  obtain ⟨o, k1, E', rfl, k2, k3⟩ := z
  exact ⟨E', k1, k2, k3⟩
theorem sort_eq {s t : Nat} (hs : s ≤ 2) (ht : t ≤ 2) : (iI (s : Nat) = iI (t : Nat)) = (s = t) := by
  rw [iI_eq (by omega) (by omega) (by omega) (by omega)]
  apply propext
  omega
/-- what is copied, where both are rows of one sort -/
theorem copy_e {P : Int32 → Prop} {d e : Nat} (hd : d < 8) (he : e < 8) {zd ze : Nat} (h1 : zd ≤ 100) (h2 : ze ≤ 100) {eld ele Z E : Nat → Int32} (hZd : Z d = iI (zd : Nat)) (hZe : Z e = iI (ze : Nat)) (hEd : ∀ i, i < 100 → E (100 * d + i) = eld i) (hEe : ∀ i, i < 100 → E (100 * e + i) = ele i) (hPd : ∀ i, i < 100 → P (eld i)) (hPe : ∀ i, i < 100 → P (ele i)) (x2 x4 x5 : Int32) : ∃ r el' E', (if (S_Shelf_hasElements x2 x5 (iI (zd : Nat))) = 0 then some ((-13 : Int32), ele) else (if (S_Shelf_hasElements x4 x5 (iI (ze : Nat))) = 0 then some ((-13), ele) else (if (x2 : Int32) < 0 ∨ (x4 : Int32) < 0 ∨ (x5 : Int32) < 0 ∨ 100 < (x2 : Int32).toNatClampNeg + (x5 : Int32).toNatClampNeg ∨ 100 < (x4 : Int32).toNatClampNeg + (x5 : Int32).toNatClampNeg then none else some (x5, (va_cpy eld ele (x2 : Int32).toNatClampNeg (x4 : Int32).toNatClampNeg (x5 : Int32).toNatClampNeg))))) = some (r, el') ∧ (if x5 < 0 then some ((-13), E) else (if x2 < 0 then some ((-13), E) else (if x4 < 0 then some ((-13), E) else (if (iI (zd : Nat) - x2) < x5 then some ((-13), E) else (if x5 ≤ (iI (ze : Nat) - x4) then (S_MD_copy_L122 (iI (d : Nat)) x2 (iI (e : Nat)) x4 x5 lfu 0 E) else some ((-13), E)))))) = some (r, E') ∧ (∀ i, i < 100 → E' (100 * e + i) = el' i) ∧ (∀ j i, ¬ j = e → i < 100 → E' (100 * j + i) = E (100 * j + i)) ∧ ∀ i, i < 100 → P (el' i) := by
  obtain ⟨a, ha1, ha2, rfl⟩ := iI_of x2
  obtain ⟨b, hb1, hb2, rfl⟩ := iI_of x4
  obtain ⟨m, hm1, hm2, rfl⟩ := iI_of x5
  rw [elems_i ha1 ha2 hm1 hm2 (by omega) (by omega), elems_i hb1 hb2 hm1 hm2 (by omega) (by omega), c_0]
  have no : True → ∃ r el' E', some ((-13 : Int32), ele) = some (r, el') ∧ some ((-13 : Int32), E) = some (r, E') ∧ (∀ i, i < 100 → E' (100 * e + i) = el' i) ∧ (∀ j i, ¬ j = e → i < 100 → E' (100 * j + i) = E (100 * j + i)) ∧ ∀ i, i < 100 → P (el' i) := fun _ => ⟨_, _, _, rfl, rfl, hEe, fun _ _ _ _ => rfl, hPe⟩
  by_cases c1 : m < 0
  · rw [if_neg (show ¬ (0 ≤ a ∧ 0 ≤ m ∧ a + m ≤ zd) by omega), if_pos (show iI 0 = iI 0 from rfl), if_pos (by rw [iI_lt hm1 hm2 (by omega) (by omega)]; exact c1)]
    exact no trivial
  · rw [if_neg (c := iI m < iI 0) (by rw [iI_lt hm1 hm2 (by omega) (by omega)]; exact c1)]
    by_cases c2 : a < 0
    · rw [if_neg (show ¬ (0 ≤ a ∧ 0 ≤ m ∧ a + m ≤ zd) by omega), if_pos (show iI 0 = iI 0 from rfl), if_pos (by rw [iI_lt ha1 ha2 (by omega) (by omega)]; exact c2)]
      exact no trivial
    · rw [if_neg (c := iI a < iI 0) (by rw [iI_lt ha1 ha2 (by omega) (by omega)]; exact c2)]
      by_cases c3 : b < 0
      · rw [if_pos (c := iI b < iI 0) (by rw [iI_lt hb1 hb2 (by omega) (by omega)]; exact c3), if_neg (show ¬ (0 ≤ b ∧ 0 ≤ m ∧ b + m ≤ ze) by omega), if_pos (c := iI 0 = iI 0) rfl]
        rw [ite_self]
        exact no trivial
      · rw [if_neg (c := iI b < iI 0) (by rw [iI_lt hb1 hb2 (by omega) (by omega)]; exact c3), iI_sub, iI_sub]
        by_cases c4 : (zd : Int) - a < m
        · rw [if_neg (show ¬ (0 ≤ a ∧ 0 ≤ m ∧ a + m ≤ zd) by omega), if_pos (show iI 0 = iI 0 from rfl), if_pos (by rw [iI_lt (by omega) (by omega) hm1 hm2]; exact c4)]
          exact no trivial
        · rw [if_pos (show 0 ≤ a ∧ 0 ≤ m ∧ a + m ≤ zd by omega), if_neg (show ¬ (1 : Int32) = iI 0 by decide), if_neg (c := iI ((zd : Int) - a) < iI m) (by rw [iI_lt (by omega) (by omega) hm1 hm2]; exact c4)]
          by_cases c5 : m ≤ (ze : Int) - b
          · obtain ⟨a, rfl⟩ : ∃ i : Nat, a = i := ⟨a.toNat, by omega⟩
            obtain ⟨b, rfl⟩ : ∃ i : Nat, b = i := ⟨b.toNat, by omega⟩
            obtain ⟨m, rfl⟩ : ∃ i : Nat, m = i := ⟨m.toNat, by omega⟩
            obtain ⟨E', k1, k2, k3⟩ := copy_l hd he (a := a) (b := b) (m := m) (by omega) (by omega) E
            rw [if_pos (show 0 ≤ (b : Int) ∧ 0 ≤ (m : Int) ∧ (b : Int) + m ≤ ze by omega), if_neg (show ¬ (1 : Int32) = iI 0 by decide), if_pos (c := iI (m : Nat) ≤ iI ((ze : Int) - (b : Nat))) (by rw [iI_le hm1 hm2 (by omega) (by omega)]; exact c5), iI_N (show a < 2147483648 by omega), iI_N (show b < 2147483648 by omega), iI_N (show m < 2147483648 by omega), if_neg (by
              rw [iI_lt (by omega) (by omega) (by omega) (by omega), iI_lt (by omega) (by omega) (by omega) (by omega), iI_lt (by omega) (by omega) (by omega) (by omega)]
              omega), ← c_0, k1]
            refine ⟨_, _, _, rfl, rfl, fun i hi => ?_, k3, fun i hi => ?_⟩
            · rw [k2 i hi]
              unfold va_cpy
              by_cases hin : b ≤ i ∧ i < b + m
              · rw [if_pos hin, if_pos hin, hEd _ (by omega)]
              · rw [if_neg hin, if_neg hin, hEe _ hi]
            · unfold va_cpy
              by_cases hin : b ≤ i ∧ i < b + m
              · rw [if_pos hin]; exact hPd _ (by omega)
              · rw [if_neg hin]; exact hPe i hi
          · rw [if_neg (show ¬ (0 ≤ b ∧ 0 ≤ m ∧ b + m ≤ ze) by omega), if_pos (show iI 0 = iI 0 from rfl), if_neg (c := iI m ≤ iI ((ze : Int) - b)) (by rw [iI_le hm1 hm2 (by omega) (by omega)]; exact c5)]
            exact no trivial
theorem op_copy2 (x1 x2 x3 x4 x5 : Int32) {d e : Nat} (hx : Is x1 d) (hy : Is x3 e) {kd fg so sz he kd2 fg2 so2 sz2 he2 : Int32} {el el2 K KK KF Q Z E : Nat → Int32} (hR : RS kd fg so sz he el d K KK KF Q Z E) (hR2 : RS kd2 fg2 so2 sz2 he2 el2 e K KK KF Q Z E) : ∃ r el' E', S_PL_copy2 x1 x2 x3 x4 x5 so sz he el so2 sz2 he2 el2 = some (r, el') ∧ S_MD_copy x1 x2 x3 x4 x5 K Q Z E = some (r, E') ∧ RS kd2 fg2 so2 sz2 he2 el' e K KK KF Q Z E' ∧ ∀ j, ¬ j = e → ∀ i, i < 100 → E' (100 * j + i) = E (100 * j + i) := by
  have h0 := hR2
  unfold S_PL_copy2 S_MD_copy
  rcases shelf_c x1 with ⟨h1, h2⟩ | ⟨j, hj, rfl, h1, h2⟩
  · rw [h1, h2, o_b, o_b, if_pos rfl, if_pos rfl]
    exact ⟨_, _, _, rfl, rfl, h0, fun j _ i _ => rfl⟩
  · obtain rfl := hx.2 j hj rfl
    rw [h1, h2, o_b, o_b, if_neg (show ¬ (1 : Int32) = 0 by decide), if_neg (show ¬ (1 : Int32) = 0 by decide)]
    rcases shelf_c x3 with ⟨h3, h4⟩ | ⟨w, hw, rfl, h3, h4⟩
    · rw [h3, h4, o_b, o_b, if_pos rfl, if_pos rfl]
      exact ⟨_, _, _, rfl, rfl, h0, fun j _ i _ => rfl⟩
    · obtain rfl := hy.2 w hw rfl
      rw [h3, h4, o_b, o_b, if_neg (show ¬ (1 : Int32) = 0 by decide), if_neg (show ¬ (1 : Int32) = 0 by decide), if_neg (g_8 hj), if_neg (g_8 hw), if_neg (g_8 hj), if_neg (g_8 hw), iI_N (show j < 2147483648 by omega), iI_N (show w < 2147483648 by omega)]
      obtain ⟨hK, hR⟩ := hR
      obtain ⟨hK2, hR2⟩ := hR2
      rw [hK, hK2]
      rcases hR with a0 | ⟨a0, -⟩ | ⟨a0, s, z, a1, a2, a3, a4, a5, a6, a7, a8⟩
      · rw [a0]
        exact ⟨_, _, _, rfl, rfl, h0, fun j _ i _ => rfl⟩
      · rw [a0]
        rcases hR2 with b0 | ⟨b0, -⟩ | ⟨b0, -⟩
        · rw [b0] at h0 ⊢
          exact ⟨_, _, _, rfl, rfl, h0, fun j _ i _ => rfl⟩
        · rw [b0] at h0 ⊢
          exact ⟨_, _, _, rfl, rfl, h0, fun j _ i _ => rfl⟩
        · rw [b0] at h0 ⊢
          exact ⟨_, _, _, rfl, rfl, h0, fun j _ i _ => rfl⟩
      · rw [a0]
        rcases hR2 with b0 | ⟨b0, -⟩ | ⟨b0, s2, z2, b1, b2, b3, b4, b5, b6, b7, b8⟩
        · rw [b0] at h0 ⊢
          exact ⟨_, _, _, rfl, rfl, h0, fun j _ i _ => rfl⟩
        · rw [b0] at h0 ⊢
          exact ⟨_, _, _, rfl, rfl, h0, fun j _ i _ => rfl⟩
        · rw [b0] at h0 hK2 ⊢
          rw [if_pos (show S_Shelf_isEmpty 2 = 0 by decide), if_pos (show S_Shelf_isEmpty 2 = 0 by decide), if_neg (show ¬ S_Shelf_hasRow 2 = 0 by decide), if_neg (show ¬ S_Shelf_hasRow 2 = 0 by decide), if_neg (show ¬ (2 : Int32) = 0 by decide), if_neg (show ¬ (2 : Int32) = 0 by decide), if_pos rfl, if_pos rfl, a3, b3, a4, b4, a5, b5, a6, b6]
          by_cases hs : s = s2
          · rw [if_pos (show iI (s : Nat) = iI (s2 : Nat) by rw [hs]), if_pos (show iI (s : Nat) = iI (s2 : Nat) by rw [hs])]
            obtain ⟨r, el', E', k1, k2, k3, k4, k5⟩ := copy_e (P := fun v => s2 = 0 → By v) hj hw a2 b2 a6 b6 a7 b7 (fun i hi e => a8 (by rw [hs]; exact e) i hi) (fun i hi e => b8 e i hi) x2 x4 x5
            exact ⟨r, el', E', k1, k2, ⟨hK2, Or.inr (Or.inr ⟨rfl, s2, z2, b1, b2, rfl, rfl, b5, b6, k3, fun e i hi => k5 i hi e⟩)⟩, fun j hj i hi => k4 j i hj hi⟩
          · rw [if_neg (show ¬ iI (s : Nat) = iI (s2 : Nat) by rw [sort_eq a1 b1]; exact hs), if_neg (show ¬ iI (s : Nat) = iI (s2 : Nat) by rw [sort_eq a1 b1]; exact hs)]
            rw [b3, b4] at h0
            exact ⟨_, _, _, rfl, rfl, h0, fun j _ i _ => rfl⟩
theorem op_copy1 (x1 x2 x3 x4 x5 : Int32) {d : Nat} (hx : Is x1 d) (hy : Is x3 d) {kd fg so sz he : Int32} {el K KK KF Q Z E : Nat → Int32} (hR : RS kd fg so sz he el d K KK KF Q Z E) : ∃ r el' E', S_PL_copy1 x1 x2 x3 x4 x5 so sz he el = some (r, el') ∧ S_MD_copy x1 x2 x3 x4 x5 K Q Z E = some (r, E') ∧ RS kd fg so sz he el' d K KK KF Q Z E' ∧ ∀ j, ¬ j = d → ∀ i, i < 100 → E' (100 * j + i) = E (100 * j + i) := op_copy2 x1 x2 x3 x4 x5 hx hy hR hR
