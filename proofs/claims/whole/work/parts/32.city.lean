/-! the class's city, method by method, in the mathematical words -/
theorem s_step (x t m : Int) (hx : -200 ≤ x) (hx2 : x ≤ 200) (ht : -200 ≤ t) (ht2 : t ≤ 200) (hm : 0 ≤ m) (hm2 : m ≤ 9) : S_Man_stepTowards (iI x) (iI t) (iI m) = iI (stepTo x t m) := by
  unfold S_Man_stepTowards stepTo
  simp (disch := omega) only [Int.toNat_natCast, if_true, if_false, iI_add, iI_sub, iI_mul, iI_neg, iI_le, iI_lt, iI_eq, iI_N, iI_Nz, c_0, c_1, c_2, c_3, c_4, c_5, c_6, c_7, c_8, c_9, c_10, c_11, c_12, c_13, c_16, c_20, c_23, c_26, c_30, c_31, c_32, c_37, c_45, c_48, c_57, c_59, c_60, c_63, c_64, c_90, c_91, c_97, c_100, c_108, c_109, c_114, c_119, c_127, c_128, c_200, c_255, c_256, c_999, c_1000, c_2000, c_12345, c_32768, c_65536]
  by_cases h1 : t - x ≤ m
  · by_cases h2 : -m ≤ t - x
    · simp (disch := omega) only [if_pos, if_neg]
    · simp (disch := omega) only [if_pos, if_neg]
  · simp (disch := omega) only [if_pos, if_neg]
theorem s_f3 : ∀ f, f ≤ 9 → iI (f : Nat) / iI 3 + iI 1 = iI ((f / 3 + 1 : Nat)) := by decide +kernel
theorem s_par (d : Nat) (h : d < 1000000) : (iI (d : Nat) - iI (d : Nat) / iI 2 * iI 2 = iI 0) = (d % 2 = 0) := by
  rw [iI_div (by omega) (by omega) (by omega) (by omega), iI_mul, iI_sub, Int.tdiv_eq_ediv_of_nonneg (by omega), iI_eq (by omega) (by omega) (by omega) (by omega)]
  apply propext
  omega
theorem s_more {k f : Nat} {x mean : Int} {dy : Nat} (hk : k < 8) (hf : f ≤ 9) (hx : -45 ≤ x) (hx2 : x ≤ 45) (hm : -45 ≤ mean) (hm2 : mean ≤ 45) (hd : dy < 1000000) : V_leansMore k (iI x) (iI f) (iI mean) (iI dy) = iI (more k f x mean dy) := by
  have e3 := s_f3 f hf
  have ep := s_par dy hd
  rcases k_8 hk with rfl | rfl | rfl | rfl | rfl | rfl | rfl | rfl
  · show S_Man_stepTowards _ _ _ = _
    rw [c_1, s_step _ _ _ (by omega) (by omega) (by omega) (by omega) (by omega) (by omega)]; rfl
  · rfl
  · show S_Man_stepTowards _ _ _ = _
    rw [c_1, c_0, s_step _ _ _ (by omega) (by omega) (by omega) (by omega) (by omega) (by omega)]; rfl
  · show S_Man_stepTowards _ _ _ = _
    rw [c_2, s_step _ _ _ (by omega) (by omega) (by omega) (by omega) (by omega) (by omega)]; rfl
  · show S_Broker_leansMore (iI x) (iI f) (iI mean) (iI dy) = _
    unfold S_Broker_leansMore more
    rw [c_1, c_3, e3]
    simp (disch := omega) only [c_0, iI_le, iI_neg]
    split <;> rfl
  · show S_Man_stepTowards _ _ _ = _
    rw [c_5, c_0, s_step _ _ _ (by omega) (by omega) (by omega) (by omega) (by omega) (by omega)]; rfl
  · show S_Swindler_leansMore (iI x) (iI f) (iI mean) (iI dy) = _
    unfold S_Swindler_leansMore S_Broker_leansMore more
    rw [c_1, c_3, c_2, e3]
    simp (disch := omega) only [c_0, iI_le, iI_neg]
    split <;> rw [iI_mul]
  · show S_Partner_leansMore (iI x) (iI f) (iI mean) (iI dy) = _
    unfold S_Partner_leansMore more S_Clerk_leansMore
    rw [c_0, c_2, s_step _ _ _ (by omega) (by omega) (by omega) (by omega) (by omega) (by omega), ← c_2, ← c_0]
    simp only [c_0, c_2, ep]
    split <;> rfl
theorem s_within {k f : Nat} (hk : k < 8) (hf : f ≤ 9) : V_uprightWithin k (iI f) = iI (wthn k f : Nat) := by
  rcases k_8 hk with rfl | rfl | rfl | rfl | rfl | rfl | rfl | rfl
  · rfl
  · rfl
  · rfl
  · rfl
  · show (2 : Int32) * iI f = iI ((2 * f : Nat))
    rw [c_2, iI_mul]; rfl
  · rfl
  · show (2 : Int32) * iI f = iI ((2 * f : Nat))
    rw [c_2, iI_mul]; rfl
  · rfl
theorem s_abs {z : Int} (h1 : -1000 ≤ z) (h2 : z ≤ 1000) : jabs (iI z) = iI (z.natAbs : Nat) := by
  unfold jabs
  simp (disch := omega) only [c_0, iI_le, iI_sub]
  split
  · rw [show ((z.natAbs : Nat) : Int) = z by omega]
  · rw [show ((z.natAbs : Nat) : Int) = 0 - z by omega]
theorem s_sum {n : Nat} {a : Nat → Int} {lean : Nat → Int32} (hn : n ≤ 8) (hl : ∀ i, i < n → lean i = iI (a i)) : S_City_sumOfLeans (iI n) lean = some (iI (sumA a n)) := by
  unfold S_City_sumOfLeans
  refine for_g (fun f j => S_City_sumOfLeans_L4 (iI n) lean f (iI (sumA a j)) (iI j)) n _ (fun f j hj => ?_) (fun f => ?_) lfu (by unfold lfu; omega)
  · have e := hl j hj
    show S_City_sumOfLeans_L4 (iI n) lean (f + 1) _ _ = _
    rw [S_City_sumOfLeans_L4]
    simp (disch := omega) only [Int.toNat_natCast, if_true, if_false, iI_add, iI_sub, iI_mul, iI_neg, iI_le, iI_lt, iI_eq, iI_N, iI_Nz, c_0, c_1, c_2, c_3, c_4, c_5, c_6, c_7, c_8, c_9, c_10, c_11, c_12, c_13, c_16, c_20, c_23, c_26, c_30, c_31, c_32, c_37, c_45, c_48, c_57, c_59, c_60, c_63, c_64, c_90, c_91, c_97, c_100, c_108, c_109, c_114, c_119, c_127, c_128, c_200, c_255, c_256, c_999, c_1000, c_2000, c_12345, c_32768, c_65536, Int.natCast_add, Int.natCast_mul, Int.cast_ofNat_Int, Int.natCast_succ, if_pos, if_neg, e, sumA]
  · show S_City_sumOfLeans_L4 (iI n) lean (f + 1) _ _ = _
    rw [S_City_sumOfLeans_L4]
    simp (disch := omega) only [Int.toNat_natCast, if_true, if_false, iI_add, iI_sub, iI_mul, iI_neg, iI_le, iI_lt, iI_eq, iI_N, iI_Nz, c_0, c_1, c_2, c_3, c_4, c_5, c_6, c_7, c_8, c_9, c_10, c_11, c_12, c_13, c_16, c_20, c_23, c_26, c_30, c_31, c_32, c_37, c_45, c_48, c_57, c_59, c_60, c_63, c_64, c_90, c_91, c_97, c_100, c_108, c_109, c_114, c_119, c_127, c_128, c_200, c_255, c_256, c_999, c_1000, c_2000, c_12345, c_32768, c_65536, Int.natCast_add, Int.natCast_mul, Int.cast_ofNat_Int, Int.natCast_succ, if_pos, if_neg]
theorem s_upright {n : Nat} {k f : Nat → Nat} {a : Nat → Int} {kind figure lean : Nat → Int32} (hM : Men n k f a) (hc : CA n k f a kind figure lean) : S_City_upright (iI n) kind figure lean = some (iI (setOf (upr k f a) n : Nat)) := by
  unfold S_City_upright
  have hn := hM.1
  refine for_g (fun g j => S_City_upright_L4 (iI n) kind figure lean g (iI (setOf (upr k f a) j : Nat)) (iI j)) n _ (fun g j hj => ?_) (fun g => ?_) lfu (by unfold lfu; omega)
  · obtain ⟨e1, e2, e3⟩ := hc j hj
    obtain ⟨b1, b2, b3, b4⟩ := hM.2 j hj
    have e4 := s_within b1 b2
    have b5 := within_b (k j) (f j) b2
    have e5 := s_abs (z := a j) (by omega) (by omega)
    have e6 := b_or j (by omega) _ (setOf_lt (upr k f a) j)
    show S_City_upright_L4 (iI n) kind figure lean (g + 1) _ _ = _
    rw [S_City_upright_L4]
    by_cases hu : (a j).natAbs ≤ wthn (k j) (f j)
    · have : upr k f a j = true := decide_eq_true hu
      simp (disch := omega) only [Int.toNat_natCast, if_true, if_false, iI_add, iI_sub, iI_mul, iI_neg, iI_le, iI_lt, iI_eq, iI_N, iI_Nz, c_0, c_1, c_2, c_3, c_4, c_5, c_6, c_7, c_8, c_9, c_10, c_11, c_12, c_13, c_16, c_20, c_23, c_26, c_30, c_31, c_32, c_37, c_45, c_48, c_57, c_59, c_60, c_63, c_64, c_90, c_91, c_97, c_100, c_108, c_109, c_114, c_119, c_127, c_128, c_200, c_255, c_256, c_999, c_1000, c_2000, c_12345, c_32768, c_65536, Int.natCast_add, Int.natCast_mul, Int.cast_ofNat_Int, Int.natCast_succ, if_pos, if_neg, e1, e2, e3, e4, e5, e6, setOf, this, if_true]
    · have : upr k f a j = false := decide_eq_false hu
      simp (disch := omega) only [Int.toNat_natCast, if_true, if_false, iI_add, iI_sub, iI_mul, iI_neg, iI_le, iI_lt, iI_eq, iI_N, iI_Nz, c_0, c_1, c_2, c_3, c_4, c_5, c_6, c_7, c_8, c_9, c_10, c_11, c_12, c_13, c_16, c_20, c_23, c_26, c_30, c_31, c_32, c_37, c_45, c_48, c_57, c_59, c_60, c_63, c_64, c_90, c_91, c_97, c_100, c_108, c_109, c_114, c_119, c_127, c_128, c_200, c_255, c_256, c_999, c_1000, c_2000, c_12345, c_32768, c_65536, Int.natCast_add, Int.natCast_mul, Int.cast_ofNat_Int, Int.natCast_succ, if_pos, if_neg, e1, e2, e3, e4, e5, setOf, this, Bool.false_eq_true, Nat.add_zero]
  · show S_City_upright_L4 (iI n) kind figure lean (g + 1) _ _ = _
    rw [S_City_upright_L4]
    simp (disch := omega) only [Int.toNat_natCast, if_true, if_false, iI_add, iI_sub, iI_mul, iI_neg, iI_le, iI_lt, iI_eq, iI_N, iI_Nz, c_0, c_1, c_2, c_3, c_4, c_5, c_6, c_7, c_8, c_9, c_10, c_11, c_12, c_13, c_16, c_20, c_23, c_26, c_30, c_31, c_32, c_37, c_45, c_48, c_57, c_59, c_60, c_63, c_64, c_90, c_91, c_97, c_100, c_108, c_109, c_114, c_119, c_127, c_128, c_200, c_255, c_256, c_999, c_1000, c_2000, c_12345, c_32768, c_65536, Int.natCast_add, Int.natCast_mul, Int.cast_ofNat_Int, Int.natCast_succ, if_pos, if_neg]
theorem s_propped {p : Nat → Bool} {n m : Nat} (hn : n ≤ 8) (hm : m < n) : S_City_isPropped (iI m) (iI (setOf p n : Nat)) = if p m then 1 else 0 := by
  unfold S_City_isPropped
  have e := b_and m (by omega) (setOf p n) (setOf_256 hn)
  rw [setOf_bit] at e
  rw [c_1, c_31, c_0]
  simp only [e, hm, decide_true, Bool.true_and]
  cases p m <;> rfl
/-- an array whose first cells below j are another's -/
def mix (a b : Nat → Int) (j : Nat) (i : Nat) : Int := if i < j then a i else b i
theorem upd_same (f : Nat → Int32) (k : Nat) (v : Int32) : upd f k v k = v := by simp [upd]
theorem upd_ne (f : Nat → Int32) {k j : Nat} (v : Int32) (h : ¬ j = k) : upd f k v j = f j := by simp [upd, h]
def LA (n : Nat) (a : Nat → Int) (lean : Nat → Int32) : Prop := ∀ i, i < n → lean i = iI (a i)
theorem LA.step {n : Nat} {a b : Nat → Int} {lean : Nat → Int32} {j : Nat} (h : LA n (mix a b j) lean) {v : Int32} (hv : v = iI (a j)) : LA n (mix a b (j + 1)) (upd lean j v) := by
  intro i hi
  by_cases hij : i = j
  · subst hij
    rw [upd_same, hv]
    simp [mix]
  · rw [upd_ne _ _ hij, h i hi]
    have : (i < j + 1) = (i < j) := propext ⟨fun z => by omega, fun z => by omega⟩
    simp [mix, this]
theorem LA.skip {n : Nat} {a b : Nat → Int} {lean : Nat → Int32} {j : Nat} (h : LA n (mix a b j) lean) (hv : a j = b j) : LA n (mix a b (j + 1)) lean := by
  intro i hi
  rw [h i hi]
  by_cases hij : i = j
  · subst hij
    simp [mix, hv]
  · have : (i < j + 1) = (i < j) := propext ⟨fun z => by omega, fun z => by omega⟩
    simp [mix, this]
theorem LA.done {n : Nat} {a b : Nat → Int} {lean : Nat → Int32} (h : LA n (mix a b n) lean) : LA n a lean := fun i hi => by rw [h i hi]; simp [mix, hi]
theorem LA.zero {n : Nat} {a b : Nat → Int} {lean : Nat → Int32} (h : LA n b lean) : LA n (mix a b 0) lean := fun i hi => by rw [h i hi]; simp [mix]
/-- a counted loop whose state isn't told but by what it holds -/
theorem for_i {R σ : Type} (g : Nat → Nat → σ → Option R) (I : Nat → σ → Prop) (Post : R → Prop) (k : Nat) (step : ∀ n j s, j < k → I j s → (∀ s', I (j + 1) s' → ∃ o, g n (j + 1) s' = some o ∧ Post o) → ∃ o, g (n + 1) j s = some o ∧ Post o) (ex : ∀ n s, I k s → ∃ o, g (n + 1) k s = some o ∧ Post o) : ∀ f s, k < f → I 0 s → ∃ o, g f 0 s = some o ∧ Post o := by
  have key : ∀ d j f s, j + d = k → d < f → I j s → ∃ o, g f j s = some o ∧ Post o := by
    intro d
    induction d with
    | zero =>
      intro j f s hj hf hI
      obtain ⟨m, rfl⟩ : ∃ m, f = m + 1 := ⟨f - 1, by omega⟩
      obtain rfl : j = k := by omega
      exact ex m s hI
    | succ d ih =>
      intro j f s hj hf hI
      obtain ⟨m, rfl⟩ : ∃ m, f = m + 1 := ⟨f - 1, by omega⟩
      exact step m j s (by omega) hI (fun s' hI' => ih (j + 1) m s' (by omega) (by omega) hI')
  intro f s hf hI
  exact key k 0 f s (by omega) hf hI
theorem s_turn {n : Nat} {a : Nat → Int} {p : Nat → Bool} {lean : Nat → Int32} (hn : n ≤ 8) (hl : LA n a lean) : ∃ o, S_City_turnSigns (iI n) (iI (setOf p n : Nat)) lean = some o ∧ LA n (turned p a) o := by
  unfold S_City_turnSigns
  refine for_i (fun g j s => S_City_turnSigns_L2 (iI n) (iI (setOf p n : Nat)) g (iI j) s) (fun j s => LA n (mix (turned p a) a j) s) _ n (fun g j s hj hI kk => ?_) (fun g s hI => ?_) lfu lean (by unfold lfu; omega) hl.zero
  · have e1 := s_propped (p := p) hn hj
    have e2 : s j = iI (a j) := by rw [hI j hj]; simp [mix]
    show ∃ o, S_City_turnSigns_L2 _ _ (g + 1) _ _ = some o ∧ _
    rw [S_City_turnSigns_L2]
    by_cases hp : p j = true
    · rw [if_pos hp] at e1
      obtain ⟨o, k1, k2⟩ := kk s (hI.skip (by simp [turned, hp]))
      refine ⟨o, ?_, k2⟩
      rw [← k1]
      simp (disch := omega) only [e1, Int.toNat_natCast, if_true, if_false, iI_add, iI_sub, iI_mul, iI_neg, iI_le, iI_lt, iI_eq, iI_N, iI_Nz, c_0, c_1, c_2, c_3, c_4, c_5, c_6, c_7, c_8, c_9, c_10, c_11, c_12, c_13, c_16, c_20, c_23, c_26, c_30, c_31, c_32, c_37, c_45, c_48, c_57, c_59, c_60, c_63, c_64, c_90, c_91, c_97, c_100, c_108, c_109, c_114, c_119, c_127, c_128, c_200, c_255, c_256, c_999, c_1000, c_2000, c_12345, c_32768, c_65536, Int.natCast_add, Int.natCast_mul, Int.cast_ofNat_Int, Int.natCast_succ, if_pos, if_neg]
    · rw [if_neg hp] at e1
      obtain ⟨o, k1, k2⟩ := kk (upd s j (- s j)) (hI.step (by rw [e2, iI_neg]; simp [turned, hp]))
      refine ⟨o, ?_, k2⟩
      rw [← k1]
      simp (disch := omega) only [e1, Int.toNat_natCast, if_true, if_false, iI_add, iI_sub, iI_mul, iI_neg, iI_le, iI_lt, iI_eq, iI_N, iI_Nz, c_0, c_1, c_2, c_3, c_4, c_5, c_6, c_7, c_8, c_9, c_10, c_11, c_12, c_13, c_16, c_20, c_23, c_26, c_30, c_31, c_32, c_37, c_45, c_48, c_57, c_59, c_60, c_63, c_64, c_90, c_91, c_97, c_100, c_108, c_109, c_114, c_119, c_127, c_128, c_200, c_255, c_256, c_999, c_1000, c_2000, c_12345, c_32768, c_65536, Int.natCast_add, Int.natCast_mul, Int.cast_ofNat_Int, Int.natCast_succ, if_pos, if_neg]
  · refine ⟨s, ?_, hI.done⟩
    show S_City_turnSigns_L2 _ _ (g + 1) _ _ = _
    rw [S_City_turnSigns_L2]
    simp (disch := omega) only [Int.toNat_natCast, if_true, if_false, iI_add, iI_sub, iI_mul, iI_neg, iI_le, iI_lt, iI_eq, iI_N, iI_Nz, c_0, c_1, c_2, c_3, c_4, c_5, c_6, c_7, c_8, c_9, c_10, c_11, c_12, c_13, c_16, c_20, c_23, c_26, c_30, c_31, c_32, c_37, c_45, c_48, c_57, c_59, c_60, c_63, c_64, c_90, c_91, c_97, c_100, c_108, c_109, c_114, c_119, c_127, c_128, c_200, c_255, c_256, c_999, c_1000, c_2000, c_12345, c_32768, c_65536, Int.natCast_add, Int.natCast_mul, Int.cast_ofNat_Int, Int.natCast_succ, if_pos, if_neg]
theorem s_plumb {n : Nat} {a : Nat → Int} {lean : Nat → Int32} (hn : n ≤ 8) (hl : LA n a lean) (hb : ∀ i, i < n → -45 ≤ a i ∧ a i ≤ 45) : S_City_plumb (iI n) lean = some (iI (if n = 0 then -4 else (pb a n : Nat))) := by
  unfold S_City_plumb
  refine for_g (fun g j => S_City_plumb_L5 (iI n) lean g (iI (if j = 0 then -4 else (pb a j : Nat))) (iI j)) n _ (fun g j hj => ?_) (fun g => ?_) lfu (by unfold lfu; omega)
  · show S_City_plumb_L5 _ _ (g + 1) _ _ = _
    rw [S_City_plumb_L5]
    by_cases h0 : j = 0
    · subst h0
      simp (disch := omega) only [Int.toNat_natCast, if_true, if_false, iI_add, iI_sub, iI_mul, iI_neg, iI_le, iI_lt, iI_eq, iI_N, iI_Nz, c_0, c_1, c_2, c_3, c_4, c_5, c_6, c_7, c_8, c_9, c_10, c_11, c_12, c_13, c_16, c_20, c_23, c_26, c_30, c_31, c_32, c_37, c_45, c_48, c_57, c_59, c_60, c_63, c_64, c_90, c_91, c_97, c_100, c_108, c_109, c_114, c_119, c_127, c_128, c_200, c_255, c_256, c_999, c_1000, c_2000, c_12345, c_32768, c_65536, Int.natCast_add, Int.natCast_mul, Int.cast_ofNat_Int, Int.natCast_succ, if_pos, if_neg, pb]
    · have hlt := pb_lt a j (by omega)
      have e1 := hl j hj
      have e2 := hl (pb a j) (by omega)
      obtain ⟨b1, b2⟩ := hb j hj
      obtain ⟨b3, b4⟩ := hb (pb a j) (by omega)
      have e3 := s_abs (z := a j) (by omega) (by omega)
      have e4 := s_abs (z := a (pb a j)) (by omega) (by omega)
      have h1 : ¬ j + 1 = 0 := by omega
      simp (disch := omega) only [Int.toNat_natCast, if_true, if_false, iI_add, iI_sub, iI_mul, iI_neg, iI_le, iI_lt, iI_eq, iI_N, iI_Nz, c_0, c_1, c_2, c_3, c_4, c_5, c_6, c_7, c_8, c_9, c_10, c_11, c_12, c_13, c_16, c_20, c_23, c_26, c_30, c_31, c_32, c_37, c_45, c_48, c_57, c_59, c_60, c_63, c_64, c_90, c_91, c_97, c_100, c_108, c_109, c_114, c_119, c_127, c_128, c_200, c_255, c_256, c_999, c_1000, c_2000, c_12345, c_32768, c_65536, Int.natCast_add, Int.natCast_mul, Int.cast_ofNat_Int, Int.natCast_succ, if_pos, if_neg, h0, h1, if_false, e1, e2, e3, e4]
      by_cases hc : (a j).natAbs < (a (pb a j)).natAbs
      · simp (disch := omega) only [if_pos, if_neg, pb]
      · simp (disch := omega) only [if_pos, if_neg, pb]
  · show S_City_plumb_L5 _ _ (g + 1) _ _ = _
    rw [S_City_plumb_L5]
    simp (disch := omega) only [Int.toNat_natCast, if_true, if_false, iI_add, iI_sub, iI_mul, iI_neg, iI_le, iI_lt, iI_eq, iI_N, iI_Nz, c_0, c_1, c_2, c_3, c_4, c_5, c_6, c_7, c_8, c_9, c_10, c_11, c_12, c_13, c_16, c_20, c_23, c_26, c_30, c_31, c_32, c_37, c_45, c_48, c_57, c_59, c_60, c_63, c_64, c_90, c_91, c_97, c_100, c_108, c_109, c_114, c_119, c_127, c_128, c_200, c_255, c_256, c_999, c_1000, c_2000, c_12345, c_32768, c_65536, Int.natCast_add, Int.natCast_mul, Int.cast_ofNat_Int, Int.natCast_succ, if_pos, if_neg]
theorem s_lead {n pl sw : Nat} {a : Nat → Int} {lean : Nat → Int32} (hn : n ≤ 8) (hp : pl ≤ 7) (hs : sw ≤ 9) (hl : LA n a lean) (hb : ∀ i, i < n → -45 ≤ a i ∧ a i ≤ 45) : S_City_moveLead (iI n) (iI pl) (iI sw) lean = some (iI (leadTo n pl sw a : Nat)) := by
  unfold S_City_moveLead leadTo
  rw [s_plumb hn hl hb]
  by_cases h0 : n = 0
  · simp (disch := omega) only [Int.toNat_natCast, if_true, if_false, iI_add, iI_sub, iI_mul, iI_neg, iI_le, iI_lt, iI_eq, iI_N, iI_Nz, c_0, c_1, c_2, c_3, c_4, c_5, c_6, c_7, c_8, c_9, c_10, c_11, c_12, c_13, c_16, c_20, c_23, c_26, c_30, c_31, c_32, c_37, c_45, c_48, c_57, c_59, c_60, c_63, c_64, c_90, c_91, c_97, c_100, c_108, c_109, c_114, c_119, c_127, c_128, c_200, c_255, c_256, c_999, c_1000, c_2000, c_12345, c_32768, c_65536, Int.natCast_add, Int.natCast_mul, Int.cast_ofNat_Int, Int.natCast_succ, if_pos, if_neg]
  · have hlt := pb_lt a n (by omega)
    simp (disch := omega) only [Int.toNat_natCast, if_true, if_false, iI_add, iI_sub, iI_mul, iI_neg, iI_le, iI_lt, iI_eq, iI_N, iI_Nz, c_0, c_1, c_2, c_3, c_4, c_5, c_6, c_7, c_8, c_9, c_10, c_11, c_12, c_13, c_16, c_20, c_23, c_26, c_30, c_31, c_32, c_37, c_45, c_48, c_57, c_59, c_60, c_63, c_64, c_90, c_91, c_97, c_100, c_108, c_109, c_114, c_119, c_127, c_128, c_200, c_255, c_256, c_999, c_1000, c_2000, c_12345, c_32768, c_65536, h0, if_false, Option.bind_some, s_step, Int.natCast_eq_zero]
    by_cases h1 : 0 < sw
    · by_cases h2 : pl + 1 < n
      · simp (disch := omega) only [Int.toNat_natCast, if_true, if_false, iI_add, iI_sub, iI_mul, iI_neg, iI_le, iI_lt, iI_eq, iI_N, iI_Nz, c_0, c_1, c_2, c_3, c_4, c_5, c_6, c_7, c_8, c_9, c_10, c_11, c_12, c_13, c_16, c_20, c_23, c_26, c_30, c_31, c_32, c_37, c_45, c_48, c_57, c_59, c_60, c_63, c_64, c_90, c_91, c_97, c_100, c_108, c_109, c_114, c_119, c_127, c_128, c_200, c_255, c_256, c_999, c_1000, c_2000, c_12345, c_32768, c_65536, Int.natCast_add, Int.natCast_mul, Int.cast_ofNat_Int, Int.natCast_succ, if_pos, if_neg]
      · simp (disch := omega) only [Int.toNat_natCast, if_true, if_false, iI_add, iI_sub, iI_mul, iI_neg, iI_le, iI_lt, iI_eq, iI_N, iI_Nz, c_0, c_1, c_2, c_3, c_4, c_5, c_6, c_7, c_8, c_9, c_10, c_11, c_12, c_13, c_16, c_20, c_23, c_26, c_30, c_31, c_32, c_37, c_45, c_48, c_57, c_59, c_60, c_63, c_64, c_90, c_91, c_97, c_100, c_108, c_109, c_114, c_119, c_127, c_128, c_200, c_255, c_256, c_999, c_1000, c_2000, c_12345, c_32768, c_65536, Int.natCast_add, Int.natCast_mul, Int.cast_ofNat_Int, Int.natCast_succ, if_pos, if_neg]
    · have e : (pl : Int) + stepTo pl (pb a n : Nat) 1 = ((if pl < pb a n then pl + 1 else if pb a n < pl then pl - 1 else pl : Nat) : Int) := by
        unfold stepTo
        repeat' split
        all_goals omega
      simp (disch := omega) only [if_pos, if_neg, e]
