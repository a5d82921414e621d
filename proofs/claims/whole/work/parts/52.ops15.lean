/-! keep, row, put, cost, toss, element -/
theorem RSh.at2 {hk hf hs hz hh : Nat → Int32} {he : Nat → Nat → Int32} {K KK KF Q Z E K2 KK2 KF2 Q2 Z2 E2 : Nat → Int32} (h : RSh hk hf hs hz hh he K KK KF Q Z E) {d : Nat} {kd fg so sz hd : Int32} {el : Nat → Int32} (hd0 : RS kd fg so sz hd el d K2 KK2 KF2 Q2 Z2 E2) (ho : ∀ j, j < 8 → ¬ j = d → K2 j = K j ∧ KK2 j = KK j ∧ KF2 j = KF j ∧ Q2 j = Q j ∧ Z2 j = Z j ∧ ∀ i, i < 100 → E2 (100 * j + i) = E (100 * j + i)) : RSh (upd hk d kd) (upd hf d fg) (upd hs d so) (upd hz d sz) (upd hh d hd) (fun j => if j = d then el else he j) K2 KK2 KF2 Q2 Z2 E2 := by
  intro j hj
  by_cases hjd : j = d
  · subst hjd
    rw [upd_same, upd_same, upd_same, upd_same, upd_same]
    dsimp only
    rw [if_pos rfl]
    exact hd0
  · rw [upd_ne _ _ hjd, upd_ne _ _ hjd, upd_ne _ _ hjd, upd_ne _ _ hjd, upd_ne _ _ hjd]
    dsimp only
    rw [if_neg hjd]
    obtain ⟨e1, e2, e3, e4, e5, e6⟩ := ho j hj hjd
    obtain ⟨b1, b2⟩ := h j hj
    unfold RS
    rw [e1, e2, e3, e4, e5]
    refine ⟨b1, ?_⟩
    rcases b2 with b2 | b2 | ⟨b2, s, z, a1, a2, a3, a4, a5, a6, a7, a8⟩
    · exact Or.inl b2
    · exact Or.inr (Or.inl b2)
    · exact Or.inr (Or.inr ⟨b2, s, z, a1, a2, a3, a4, a5, a6, (fun i hi => by rw [e6 i hi, a7 i hi]), a8⟩)
theorem op_keep (x y u v : Int32) {d : Nat} (hx : Is x d) {kd fg so sz he : Int32} {el K KK KF Q Z E : Nat → Int32} (hR : RS kd fg so sz he el d K KK KF Q Z E) : ∃ r kd' fg' he' K' KK' KF', S_PL_keep x y u v kd fg he = some (r, kd', fg', he') ∧ S_MD_keep x y u v K KK KF = some (r, K', KK', KF') ∧ RS kd' fg' so sz he' el d K' KK' KF' Q Z E ∧ ∀ j, ¬ j = d → K' j = K j ∧ KK' j = KK j ∧ KF' j = KF j := by
  unfold S_PL_keep S_MD_keep S_MD_keep_J44
  rcases shelf_c x with ⟨h1, h2⟩ | ⟨j, hj, rfl, h1, h2⟩
  · rw [h1, h2, o_b, o_b, if_pos rfl, if_pos rfl]
    exact ⟨_, _, _, _, _, _, _, rfl, rfl, hR, fun j _ => ⟨rfl, rfl, rfl⟩⟩
  · obtain rfl := hx.2 j hj rfl
    rw [h1, h2, o_b, o_b, if_neg (show ¬ (1 : Int32) = 0 by decide), if_neg (show ¬ (1 : Int32) = 0 by decide), c_0, c_1]
    rcases isin_c y (a := 0) (b := 1) (by omega) (by omega) (by omega) (by omega) with ⟨i1, i2, -⟩ | ⟨w, w1, w2, rfl, i1, i2⟩
    · rw [i1, i2, if_pos (show (0 : Int32) = iI 0 by decide), if_pos (show (0 : Int32) = iI 0 by decide)]
      exact ⟨_, _, _, _, _, _, _, rfl, rfl, hR, fun j _ => ⟨rfl, rfl, rfl⟩⟩
    · rw [i1, i2, if_neg (show ¬ (1 : Int32) = iI 0 by decide), if_neg (show ¬ (1 : Int32) = iI 0 by decide), ← c_0]
      rcases (show w = 0 ∨ w = 1 by omega) with rfl | rfl
      · rw [if_pos (show iI 0 = 0 by decide), if_neg (show ¬ iI 0 = iI 1 by decide), if_neg (g_8 hj), if_neg (g_8 hj), iI_N (by omega)]
        refine ⟨_, _, _, _, _, _, _, rfl, rfl, ⟨?_, Or.inl rfl⟩, fun i hi => ⟨upd_ne _ _ hi, upd_ne _ _ hi, upd_ne _ _ hi⟩⟩
        rw [upd_same]
        show iI 0 = (0 : Int32)
        decide
      · rw [if_neg (show ¬ iI 1 = 0 by decide), if_pos rfl, c_0, c_7, c_9]
        rcases isin_c u (a := 0) (b := 7) (by omega) (by omega) (by omega) (by omega) with ⟨i3, i4, -⟩ | ⟨k, k1, k2, rfl, i3, i4⟩
        · rw [i3, i4, if_pos (show (0 : Int32) = iI 0 by decide), if_pos (show (0 : Int32) = iI 0 by decide)]
          exact ⟨_, _, _, _, _, _, _, rfl, rfl, hR, fun j _ => ⟨rfl, rfl, rfl⟩⟩
        · rw [i3, i4, if_neg (show ¬ (1 : Int32) = iI 0 by decide), if_neg (show ¬ (1 : Int32) = iI 0 by decide)]
          rcases isin_c v (a := 0) (b := 9) (by omega) (by omega) (by omega) (by omega) with ⟨i5, i6, -⟩ | ⟨f, f1, f2, rfl, i5, i6⟩
          · rw [i5, i6, if_pos (show (0 : Int32) = iI 0 by decide), if_pos (show (0 : Int32) = iI 0 by decide)]
            exact ⟨_, _, _, _, _, _, _, rfl, rfl, hR, fun j _ => ⟨rfl, rfl, rfl⟩⟩
          · rw [i5, i6, if_neg (show ¬ (1 : Int32) = iI 0 by decide), if_neg (show ¬ (1 : Int32) = iI 0 by decide), ← c_0, if_neg (g_8 hj), if_neg (g_8 hj), iI_N (by omega)]
            obtain ⟨k, rfl⟩ : ∃ m : Nat, k = m := ⟨k.toNat, by omega⟩
            obtain ⟨f, rfl⟩ : ∃ m : Nat, f = m := ⟨f.toNat, by omega⟩
            refine ⟨_, _, _, _, _, _, _, rfl, rfl, ⟨?_, Or.inr (Or.inl ⟨rfl, k, f, by omega, by omega, rfl, rfl, ?_, ?_⟩)⟩, fun i hi => ⟨upd_ne _ _ hi, upd_ne _ _ hi, upd_ne _ _ hi⟩⟩
            · rw [upd_same]
              show iI 1 = (1 : Int32)
              decide
            · rw [upd_same]
            · rw [upd_same]
theorem row_s (so sz : Int32) (el : Nat → Int32) : ∃ el', S_Shelf_holdsRow_L17 so sz 2 lfu 0 el = some (so, sz, 2, el') ∧ ∀ i, i < 100 → el' i = 0 := by
  have z := for_i (fun n j s => S_Shelf_holdsRow_L17 so sz 2 n (iI j) s) (fun j s => ∀ i, i < j → s i = 0) (fun o => ∃ el', o = (so, sz, 2, el') ∧ ∀ i, i < 100 → el' i = 0) 100 (fun n j s hj hI kk => by
    show ∃ o, S_Shelf_holdsRow_L17 so sz 2 (n + 1) (iI j) s = some o ∧ _
    rw [S_Shelf_holdsRow_L17, if_neg (show ¬ (100 : Int32) ≤ iI (j : Nat) by rw [c_100, iI_le (by omega) (by omega) (by omega) (by omega)]; omega), if_neg (g_100 hj), iI_N (by omega), iI_S]
    exact kk _ (fun i hi => by
      by_cases hij : i = j
      · rw [hij, upd_same]
      · rw [upd_ne _ _ hij]; exact hI i (by omega))) (fun n s hI => by
    show ∃ o, S_Shelf_holdsRow_L17 so sz 2 (n + 1) (iI ((100 : Nat) : Int)) s = some o ∧ _
    rw [S_Shelf_holdsRow_L17, if_pos (show (100 : Int32) ≤ iI ((100 : Nat) : Int) by decide)]
    exact ⟨_, rfl, s, rfl, hI⟩) lfu el (by unfold lfu; omega) (fun i hi => absurd hi (Nat.not_lt_zero i))
  obtain ⟨o, k1, el', rfl, k2⟩ := z
  exact ⟨el', k1, k2⟩
theorem row_m {d : Nat} (hd : d < 8) (K Q Z E : Nat → Int32) : ∃ E', S_MD_row_L55 (iI (d : Nat)) K Q Z lfu 0 E = some (0, K, Q, Z, E') ∧ (∀ i, i < 100 → E' (100 * d + i) = 0) ∧ ∀ j i, ¬ j = d → i < 100 → E' (100 * j + i) = E (100 * j + i) := by
  have z := for_i (fun n j s => S_MD_row_L55 (iI (d : Nat)) K Q Z n (iI j) s) (fun j s => (∀ i, i < j → s (100 * d + i) = 0) ∧ ∀ m i, ¬ m = d → i < 100 → s (100 * m + i) = E (100 * m + i)) (fun o => ∃ E', o = (0, K, Q, Z, E') ∧ (∀ i, i < 100 → E' (100 * d + i) = 0) ∧ ∀ j i, ¬ j = d → i < 100 → E' (100 * j + i) = E (100 * j + i)) 100 (fun n j s hj hI kk => by
    show ∃ o, S_MD_row_L55 (iI (d : Nat)) K Q Z (n + 1) (iI j) s = some o ∧ _
    rw [S_MD_row_L55, if_neg (show ¬ (100 : Int32) ≤ iI (j : Nat) by rw [c_100, iI_le (by omega) (by omega) (by omega) (by omega)]; omega), if_neg (g_800 hd hj), n_800 hd hj, iI_S]
    exact kk _ ⟨fun i hi => by
      by_cases hij : i = j
      · rw [hij, upd_same]
      · rw [upd_ne _ _ (by omega)]; exact hI.1 i (by omega), fun m i hm hi => by
      rw [upd_ne _ _ (by omega)]
      exact hI.2 m i hm hi⟩) (fun n s hI => by
    show ∃ o, S_MD_row_L55 (iI (d : Nat)) K Q Z (n + 1) (iI ((100 : Nat) : Int)) s = some o ∧ _
    rw [S_MD_row_L55, if_pos (show (100 : Int32) ≤ iI ((100 : Nat) : Int) by decide)]
    exact ⟨_, rfl, s, rfl, hI⟩) lfu E (by unfold lfu; omega) ⟨fun i hi => absurd hi (Nat.not_lt_zero i), fun m i hm hi => rfl⟩
  obtain ⟨o, k1, E', rfl, k2⟩ := z
  exact ⟨E', k1, k2⟩
theorem op_row (x y u : Int32) {d : Nat} (hx : Is x d) {kd fg so sz he : Int32} {el K KK KF Q Z E : Nat → Int32} (hR : RS kd fg so sz he el d K KK KF Q Z E) : ∃ r so' sz' he' el' K' Q' Z' E', S_PL_row x y u so sz he el = some (r, so', sz', he', el') ∧ S_MD_row x y u K Q Z E = some (r, K', Q', Z', E') ∧ RS kd fg so' sz' he' el' d K' KK KF Q' Z' E' ∧ ∀ j, ¬ j = d → K' j = K j ∧ Q' j = Q j ∧ Z' j = Z j ∧ ∀ i, i < 100 → E' (100 * j + i) = E (100 * j + i) := by
  unfold S_PL_row S_MD_row
  rcases shelf_c x with ⟨h1, h2⟩ | ⟨j, hj, rfl, h1, h2⟩
  · rw [h1, h2, o_b, o_b, if_pos rfl, if_pos rfl]
    exact ⟨_, _, _, _, _, _, _, _, _, rfl, rfl, hR, fun j _ => ⟨rfl, rfl, rfl, fun i _ => rfl⟩⟩
  · obtain rfl := hx.2 j hj rfl
    rw [h1, h2, o_b, o_b, if_neg (show ¬ (1 : Int32) = 0 by decide), if_neg (show ¬ (1 : Int32) = 0 by decide), c_0, c_2]
    rcases isin_c y (a := 0) (b := 2) (by omega) (by omega) (by omega) (by omega) with ⟨i1, i2, -⟩ | ⟨w, w1, w2, rfl, i1, i2⟩
    · rw [i1, i2, if_pos (show (0 : Int32) = iI 0 by decide), if_pos (show (0 : Int32) = iI 0 by decide)]
      exact ⟨_, _, _, _, _, _, _, _, _, rfl, rfl, hR, fun j _ => ⟨rfl, rfl, rfl, fun i _ => rfl⟩⟩
    · rw [i1, i2, if_neg (show ¬ (1 : Int32) = iI 0 by decide), if_neg (show ¬ (1 : Int32) = iI 0 by decide)]
      by_cases hu : u ≤ 100
      · rw [if_pos hu, if_pos hu]
        by_cases hu0 : iI 0 ≤ u
        · rw [if_pos hu0, if_pos hu0, ← c_0, ← c_2, if_neg (g_8 hj), if_neg (g_8 hj), iI_N (by omega)]
          obtain ⟨w, rfl⟩ : ∃ m : Nat, w = m := ⟨w.toNat, by omega⟩
          obtain ⟨z, hz1, hz2, rfl⟩ := iI_of u
          rw [c_100, iI_le hz1 hz2 (by omega) (by omega)] at hu
          rw [iI_le (by omega) (by omega) hz1 hz2] at hu0
          obtain ⟨z, rfl⟩ : ∃ m : Nat, z = m := ⟨z.toNat, by omega⟩
          obtain ⟨el', e1, e2⟩ := row_s (iI (w : Nat)) (iI (z : Nat)) el
          obtain ⟨E', e3, e4, e5⟩ := row_m hj (upd K j 2) (upd Q j (iI (w : Nat))) (upd Z j (iI (z : Nat))) E
          unfold S_Shelf_holdsRow
          rw [e1, e3, o_b]
          refine ⟨_, _, _, _, _, _, _, _, _, rfl, rfl, ⟨upd_same _ _ _, Or.inr (Or.inr ⟨rfl, w, z, by omega, by omega, rfl, rfl, upd_same _ _ _, upd_same _ _ _, (fun i hi => (e4 i hi).trans (e2 i hi).symm), fun _ i hi => ⟨0, by omega, by omega, (e2 i hi).trans (by decide)⟩⟩)⟩, fun i hi => ⟨upd_ne _ _ hi, upd_ne _ _ hi, upd_ne _ _ hi, fun m hm => e5 i m hi hm⟩⟩
        · rw [if_neg hu0, if_neg hu0]
          exact ⟨_, _, _, _, _, _, _, _, _, rfl, rfl, hR, fun j _ => ⟨rfl, rfl, rfl, fun i _ => rfl⟩⟩
      · rw [if_neg hu, if_neg hu]
        exact ⟨_, _, _, _, _, _, _, _, _, rfl, rfl, hR, fun j _ => ⟨rfl, rfl, rfl, fun i _ => rfl⟩⟩
theorem elem_c (x : Int32) {z : Nat} (hz : z ≤ 100) : (S_Shelf_hasElement x (iI (z : Nat)) = 0 ∧ S_MD_isIn x 0 (iI (z : Nat) - 1) = 0) ∨ (∃ i : Nat, i < z ∧ x = iI i ∧ S_Shelf_hasElement x (iI (z : Nat)) = 1 ∧ S_MD_isIn x 0 (iI (z : Nat) - 1) = 1) := by
  obtain ⟨w, hw1, hw2, rfl⟩ := iI_of x
  unfold S_Shelf_hasElement
  rw [c_0, c_1, iI_sub, in_MD hw1 hw2 (by omega) (by omega) (by omega) (by omega)]
  by_cases h0 : w < 0
  · left
    rw [if_pos (by rw [iI_lt hw1 hw2 (by omega) (by omega)]; exact h0), if_neg (by omega)]
    exact ⟨rfl, rfl⟩
  · rw [if_neg (by rw [iI_lt hw1 hw2 (by omega) (by omega)]; exact h0)]
    by_cases h1 : (z : Int) ≤ w
    · left
      rw [if_pos (by rw [iI_le (by omega) (by omega) hw1 hw2]; exact h1), if_neg (by omega)]
      exact ⟨rfl, rfl⟩
    · right
      obtain ⟨i, rfl⟩ : ∃ m : Nat, w = m := ⟨w.toNat, by omega⟩
      rw [if_neg (by rw [iI_le (by omega) (by omega) hw1 hw2]; exact h1), if_pos (by omega)]
      exact ⟨i, by omega, rfl, rfl, rfl⟩
theorem put_el {d i : Nat} {el E : Nat → Int32} (hE : ∀ m, m < 100 → E (100 * d + m) = el m) (v : Int32) : ∀ m, m < 100 → upd E (100 * d + i) v (100 * d + m) = upd el i v m := by
  intro m hm
  by_cases hmi : m = i
  · rw [hmi, upd_same, upd_same]
  · rw [upd_ne _ _ hmi, upd_ne _ _ (by omega)]
    exact hE m hm
theorem by_i8 (x : Int32) : By x.toInt8.toInt32 := by
  refine ⟨x.toInt8.toInt, ?_, ?_, ?_⟩
  · have := x.toInt8.le_toInt; omega
  · have := x.toInt8.toInt_lt; omega
  · apply Int32.toInt_inj.mp
    have h1 := x.toInt8.le_toInt
    have h2 := x.toInt8.toInt_lt
    rw [Int8.toInt_toInt32, iI_toInt (by omega) (by omega)]
theorem op_put (x y u : Int32) {d : Nat} (hx : Is x d) {kd fg so sz he : Int32} {el K KK KF Q Z E : Nat → Int32} (hR : RS kd fg so sz he el d K KK KF Q Z E) : ∃ r el' E', S_PL_put x y u so sz he el = some (r, el') ∧ S_MD_put x y u K Q Z E = some (r, E') ∧ RS kd fg so sz he el' d K KK KF Q Z E' ∧ ∀ j, ¬ j = d → ∀ i, i < 100 → E' (100 * j + i) = E (100 * j + i) := by
  obtain ⟨r, k1, k2, k3⟩ := ref_row x hx hR
  unfold S_PL_put S_MD_put
  rw [k1, k2, o_b, o_b]
  rcases k3 with hr | ⟨rfl, rfl, hK, rfl, s, z, a1, a2, rfl, rfl, a5, a6, a7, a8⟩
  · rw [if_neg hr, if_neg hr]
    exact ⟨_, _, _, rfl, rfl, hR, fun j _ i _ => rfl⟩
  · rw [if_pos rfl, if_pos rfl, if_neg (g_8 hx.1), if_neg (g_8 hx.1), iI_N (show d < 2147483648 by have := hx.1; omega), a5, a6]
    rcases elem_c y a2 with ⟨e1, e2⟩ | ⟨i, hi, rfl, e1, e2⟩
    · rw [e1, e2, if_pos rfl, if_pos rfl]
      exact ⟨_, _, _, rfl, rfl, hR, fun j _ i _ => rfl⟩
    · have fin : ∀ v : Int32, (s = 0 → By v) → RS kd fg (iI (s : Nat)) (iI (z : Nat)) 2 (upd el i v) d K KK KF Q Z (upd E (100 * d + i) v) := fun v hv => ⟨hK, Or.inr (Or.inr ⟨rfl, s, z, a1, a2, rfl, rfl, a5, a6, put_el a7 v, fun hs m hm => by
        by_cases hmi : m = i
        · rw [hmi, upd_same]; exact hv hs
        · rw [upd_ne _ _ hmi]; exact a8 hs m hm⟩)⟩
      have sne : ∀ {P : Prop}, ¬ iI (s : Nat) = 0 → s = 0 → P := fun h e => absurd (show iI (s : Nat) = 0 by rw [e]; decide) h
      have oth : ∀ v : Int32, ∀ j, ¬ j = d → ∀ m, m < 100 → upd E (100 * d + i) v (100 * j + m) = E (100 * j + m) := fun v j hj m hm => upd_ne _ _ (by omega)
      unfold S_Shelf_sets
      rw [e1, e2, if_neg (show ¬ (1 : Int32) = 0 by decide), if_neg (show ¬ (1 : Int32) = 0 by decide), if_neg (g_100 (by omega)), if_neg (g_100 (by omega)), if_neg (g_100 (by omega)), if_neg (g_800 hx.1 (by omega)), if_neg (g_800 hx.1 (by omega)), if_neg (g_800 hx.1 (by omega)), n_800 hx.1 (by omega), iI_N (show i < 2147483648 by omega)]
      by_cases s0 : iI (s : Nat) = 0
      · rw [if_pos s0, if_pos s0, o_b]
        exact ⟨_, _, _, rfl, rfl, fin _ (fun _ => by_i8 u), oth _⟩
      · rw [if_neg s0, if_neg s0]
        by_cases s1 : iI (s : Nat) = 1
        · rw [if_pos s1, if_pos s1, o_b]
          exact ⟨_, _, _, rfl, rfl, fin _ (sne s0), oth _⟩
        · rw [if_neg s1, if_neg s1, o_b]
          exact ⟨_, _, _, rfl, rfl, fin _ (sne s0), oth _⟩
theorem price_i : ∀ k, k < 8 → ∀ f, f ≤ 9 → V_priceBy k (iI (f : Nat)) = S_MD_costBy (iI (k : Nat)) (iI (f : Nat)) := by decide +kernel
theorem op_cost (x : Int32) {d : Nat} (hx : Is x d) {kd fg so sz he : Int32} {el K KK KF Q Z E : Nat → Int32} (hR : RS kd fg so sz he el d K KK KF Q Z E) : ∃ r, S_PL_cost x kd fg he = some r ∧ S_MD_cost x K KK KF = some r := by
  obtain ⟨r, k1, k2, k3⟩ := ref_kind x hx hR
  unfold S_PL_cost S_MD_cost S_Shelf_price
  rw [k1, k2, o_b, o_b]
  rcases k3 with hr | ⟨rfl, rfl, k, f, a1, a2, rfl, rfl, a5, a6⟩
  · rw [if_neg hr, if_neg hr]
    exact ⟨_, rfl, rfl⟩
  · rw [if_pos rfl, if_pos rfl, if_neg (g_8 hx.1), if_neg (g_8 hx.1), if_neg (g_8 a1), iI_N (show d < 2147483648 by have := hx.1; omega), iI_N (show k < 2147483648 by omega), a5, a6, price_i k a1 f a2, o_b]
    exact ⟨_, rfl, rfl⟩
theorem op_toss (x : Int32) {d : Nat} (hx : Is x d) {kd fg so sz he : Int32} {el K KK KF Q Z E : Nat → Int32} (hR : RS kd fg so sz he el d K KK KF Q Z E) : ∃ r, S_PL_toss x kd fg so sz he = some r ∧ S_MD_toss x K KK KF = some r := by
  obtain ⟨r, k1, k2, k3⟩ := ref_kind x hx hR
  unfold S_PL_toss S_MD_toss S_Shelf_price
  rw [k1, k2, o_b, o_b]
  rcases k3 with hr | ⟨rfl, rfl, k, f, a1, a2, rfl, rfl, a5, a6⟩
  · rw [if_neg hr, if_neg hr]
    exact ⟨_, rfl, rfl⟩
  · rw [if_pos rfl, if_pos rfl, if_neg (g_8 hx.1), if_neg (g_8 hx.1), if_neg (g_8 a1), if_neg (g_8 a1), iI_N (show d < 2147483648 by have := hx.1; omega), iI_N (show k < 2147483648 by omega), a5, a6, ← price_i k a1 f a2, o_b]
    have f0 : (iI (f : Nat) = 0) = (f = 0) := by
      rw [c_0, iI_eq (by omega) (by omega) (by omega) (by omega)]
      apply propext
      omega
    by_cases hf : f = 0
    · subst hf
      rcases k_8 a1 with rfl | rfl | rfl | rfl | rfl | rfl | rfl | rfl <;> exact ⟨_, rfl, by decide +kernel⟩
    · have hf2 : ¬ iI (f : Nat) = 0 := by rw [f0]; exact hf
      rcases k_8 a1 with rfl | rfl | rfl | rfl | rfl | rfl | rfl | rfl
      · refine ⟨iI (f : Nat), ?_, ?_⟩
        · rw [show V_fails 0 (iI (f : Nat)) = .error "java/lang/IllegalStateException" from if_neg hf2]
          exact (if_neg (by decide)).trans (if_neg (by decide))
        · rw [if_neg (by decide), if_neg (by decide), if_neg hf2, if_neg (by decide), if_neg (by decide), if_neg (by decide)]
      · refine ⟨100 + iI (f : Nat), ?_, ?_⟩
        · rw [show V_fails 1 (iI (f : Nat)) = .error "java/lang/IllegalArgumentException" from if_neg hf2]
          exact (if_neg (by decide)).trans (if_pos rfl)
        · rw [if_neg (by decide), if_neg (by decide), if_neg hf2, if_neg (by decide), if_pos (by decide)]
      · exact ⟨_, rfl, by rw [if_pos (by decide)]⟩
      · refine ⟨iI (f : Nat), ?_, ?_⟩
        · rw [show V_fails 3 (iI (f : Nat)) = .error "java/lang/IllegalStateException" from if_neg hf2]
          exact (if_neg (by decide)).trans (if_neg (by decide))
        · rw [if_neg (by decide), if_neg (by decide), if_neg hf2, if_neg (by decide), if_neg (by decide), if_neg (by decide)]
      · refine ⟨100 + iI (f : Nat), ?_, ?_⟩
        · rw [show V_fails 4 (iI (f : Nat)) = .error "java/lang/IllegalArgumentException" from if_neg hf2]
          exact (if_neg (by decide)).trans (if_pos rfl)
        · rw [if_neg (by decide), if_neg (by decide), if_neg hf2, if_neg (by decide), if_neg (by decide), if_pos (by decide)]
      · exact ⟨_, rfl, by rw [if_neg (by decide), if_pos (by decide)]⟩
      · refine ⟨200 + V_priceBy 6 (iI (f : Nat)), ?_, ?_⟩
        · rw [show V_fails 6 (iI (f : Nat)) = .error "java/lang/UnsupportedOperationException" from if_neg hf2]
          exact if_pos rfl
        · rw [if_neg (by decide), if_neg (by decide), if_neg hf2, if_pos (by decide)]
      · refine ⟨iI (f : Nat), ?_, ?_⟩
        · rw [show V_fails 7 (iI (f : Nat)) = .error "java/lang/IllegalStateException" from if_neg hf2]
          exact (if_neg (by decide)).trans (if_neg (by decide))
        · rw [if_neg (by decide), if_neg (by decide), if_neg hf2, if_neg (by decide), if_neg (by decide), if_neg (by decide)]
/-- element: what the law makes of the answer -/
def elemK (o : Except String Int64) : Int32 := match o with
  | .ok _ => 0
  | .error E => if E = "java/lang/IllegalArgumentException" then 1 else 2
theorem op_element (x y tq : Int32) {d : Nat} (hx : Is x d) {kd fg so sz he : Int32} {el K KK KF Q Z E : Nat → Int32} (hR : RS kd fg so sz he el d K KK KF Q Z E) : ∃ o b t, S_PL_element x y sz he el = some o ∧ S_MD_element x y tq K Z E = some (b, t) ∧ ((∃ v, o = .ok v ∧ b = v ∧ t = 0) ∨ (o = .error "java/lang/IllegalArgumentException" ∧ t = 1) ∨ (o = .error "java/lang/IllegalStateException" ∧ t = 2)) := by
  unfold S_PL_element S_MD_element S_MD_element_J38 S_MD_element_J43
  rcases shelf_c x with ⟨h1, h2⟩ | ⟨j, hj, rfl, h1, h2⟩
  · rw [h1, h2, o_b, o_b, if_pos rfl, if_pos rfl, if_neg (show ¬ (1 : Int32) = 0 by decide)]
    exact ⟨_, _, _, rfl, rfl, Or.inr (Or.inl ⟨rfl, rfl⟩)⟩
  · obtain rfl := hx.2 j hj rfl
    rw [h1, h2, o_b, o_b, if_neg (show ¬ (1 : Int32) = 0 by decide), if_neg (show ¬ (1 : Int32) = 0 by decide), if_neg (g_8 hj), if_neg (g_8 hj), iI_N (show j < 2147483648 by omega), if_neg (show ¬ (2 : Int32) = 0 by decide)]
    obtain ⟨hK, h0 | ⟨h0, -⟩ | ⟨h0, s, z, a1, a2, a3, rfl, a5, a6, a7, a8⟩⟩ := hR
    · rw [hK, h0, if_pos (show S_Shelf_hasRow 0 = 0 by decide), if_neg (show ¬ (0 : Int32) = 2 by decide)]
      exact ⟨_, _, _, rfl, rfl, Or.inr (Or.inr ⟨rfl, rfl⟩)⟩
    · rw [hK, h0, if_pos (show S_Shelf_hasRow 1 = 0 by decide), if_neg (show ¬ (1 : Int32) = 2 by decide)]
      exact ⟨_, _, _, rfl, rfl, Or.inr (Or.inr ⟨rfl, rfl⟩)⟩
    · rw [hK, h0, if_neg (show ¬ S_Shelf_hasRow 2 = 0 by decide), if_pos rfl, a6]
      rcases elem_c y a2 with ⟨e1, e2⟩ | ⟨i, hi, rfl, e1, e2⟩
      · rw [e1, e2, if_pos rfl, if_pos rfl]
        exact ⟨_, _, _, rfl, rfl, Or.inr (Or.inr ⟨rfl, rfl⟩)⟩
      · rw [e1, e2, if_neg (show ¬ (1 : Int32) = 0 by decide), if_neg (show ¬ (1 : Int32) = 0 by decide), if_neg (g_100 (by omega)), if_pos rfl, if_neg (g_800 hj (by omega)), n_800 hj (by omega), iI_N (show i < 2147483648 by omega), a7 i (by omega)]
        exact ⟨_, _, _, rfl, rfl, Or.inl ⟨_, rfl, rfl, rfl⟩⟩
