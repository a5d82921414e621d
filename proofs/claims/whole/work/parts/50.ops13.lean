/-! tells: who is told, at last -/
def acc (t : Nat → Nat → Bool) (p : Nat → Bool) : Nat → Nat → Bool
  | 0 => p
  | j + 1 => if p j then (fun i => acc t p j i || t i j) else acc t p j
def gse (t : Nat → Nat → Bool) (p : Nat → Bool) : Nat → Nat → Bool
  | 0 => p
  | j + 1 => if gse t p j j then (fun i => gse t p j i || t i j) else gse t p j
def accN (t : Nat → Nat → Bool) (n : Nat) (p : Nat → Bool) : Nat → Nat → Bool
  | 0 => p
  | k + 1 => acc t (accN t n p k) n
def gseN (t : Nat → Nat → Bool) (n : Nat) (p : Nat → Bool) : Nat → Nat → Bool
  | 0 => p
  | k + 1 => gse t (gseN t n p k) n
def Sb (n : Nat) (p q : Nat → Bool) : Prop := ∀ i, i < n → p i = true → q i = true
theorem acc_up (t : Nat → Nat → Bool) (n : Nat) (p : Nat → Bool) : ∀ j, Sb n p (acc t p j)
  | 0 => fun _ _ h => h
  | j + 1 => fun i hi h => by
    have := acc_up t n p j i hi h
    simp only [acc]
    split
    · simp [this]
    · exact this
theorem gse_up (t : Nat → Nat → Bool) (n : Nat) (p : Nat → Bool) : ∀ j, Sb n p (gse t p j)
  | 0 => fun _ _ h => h
  | j + 1 => fun i hi h => by
    have := gse_up t n p j i hi h
    simp only [gse]
    split
    · simp [this]
    · exact this
theorem acc_gse (t : Nat → Nat → Bool) (n : Nat) {p q : Nat → Bool} (h : Sb n p q) : ∀ j, j ≤ n → Sb n (acc t p j) (gse t q j)
  | 0, _ => h
  | j + 1, hj => fun i hi hp => by
    have ih := acc_gse t n h j (by omega) i hi
    simp only [acc] at hp
    simp only [gse]
    by_cases hpj : p j = true
    · have hg := gse_up t n q j j (by omega) (h j (by omega) hpj)
      rw [if_pos hpj] at hp
      rw [if_pos hg]
      rcases Bool.or_eq_true_iff.mp hp with h1 | h1
      · simp [ih h1]
      · simp [h1]
    · rw [if_neg hpj] at hp
      split
      · simp [ih hp]
      · exact ih hp
def Cld (t : Nat → Nat → Bool) (n : Nat) (q : Nat → Bool) : Prop := ∀ i j, i < n → j < n → q j = true → t i j = true → q i = true
theorem gse_cl (t : Nat → Nat → Bool) (n : Nat) {p q : Nat → Bool} (h : Sb n p q) (hc : Cld t n q) : ∀ j, j ≤ n → Sb n (gse t p j) q
  | 0, _ => h
  | j + 1, hj => fun i hi hp => by
    have ih := gse_cl t n h hc j (by omega)
    simp only [gse] at hp
    by_cases hpj : gse t p j j = true
    · rw [if_pos hpj] at hp
      rcases Bool.or_eq_true_iff.mp hp with h1 | h1
      · exact ih i hi h1
      · exact hc i j hi (by omega) (ih j (by omega) hpj) h1
    · rw [if_neg hpj] at hp
      exact ih i hi hp
theorem acc_ge (t : Nat → Nat → Bool) (p : Nat → Bool) : ∀ n i j, j < n → p j = true → t i j = true → acc t p n i = true
  | n + 1, i, j, hj, h1, h2 => by
    simp only [acc]
    by_cases hjn : j = n
    · subst hjn
      rw [if_pos h1]
      simp [h2]
    · have := acc_ge t p n i j (by omega) h1 h2
      split
      · simp [this]
      · exact this
theorem accN_up (t : Nat → Nat → Bool) (n : Nat) (p : Nat → Bool) (k : Nat) : ∀ d, Sb n (accN t n p k) (accN t n p (k + d))
  | 0 => fun _ _ h => h
  | d + 1 => fun i hi h => acc_up t n _ n i hi (accN_up t n p k d i hi h)
theorem accN_gseN (t : Nat → Nat → Bool) (n : Nat) (p : Nat → Bool) : ∀ k, Sb n (accN t n p k) (gseN t n p k)
  | 0 => fun _ _ h => h
  | k + 1 => acc_gse t n (accN_gseN t n p k) n (Nat.le_refl _)
theorem gseN_cl (t : Nat → Nat → Bool) (n : Nat) {p q : Nat → Bool} (h : Sb n p q) (hc : Cld t n q) : ∀ k, Sb n (gseN t n p k) q
  | 0 => h
  | k + 1 => gse_cl t n (gseN_cl t n h hc k) hc n (Nat.le_refl _)
theorem cnt_sb {p q : Nat → Bool} : ∀ {n : Nat}, Sb n p q → cnt p n ≤ cnt q n
  | 0, _ => Nat.le_refl _
  | n + 1, h => by
    have ih := cnt_sb (n := n) (p := p) (q := q) (fun i hi => h i (by omega))
    simp only [cnt]
    by_cases hp : p n = true
    · rw [if_pos hp, if_pos (h n (by omega) hp)]; omega
    · rw [if_neg hp]; split <;> omega
theorem cnt_eq_sb {p q : Nat → Bool} : ∀ {n : Nat}, Sb n p q → cnt q n ≤ cnt p n → Sb n q p
  | 0, _, _ => fun i hi => absurd hi (Nat.not_lt_zero i)
  | n + 1, h, hc => fun i hi hq => by
    have h' : Sb n p q := fun i hi => h i (by omega)
    have le := cnt_sb h'
    simp only [cnt] at hc
    by_cases hp : p n = true
    · have hq2 := h n (by omega) hp
      rw [if_pos hp, if_pos hq2] at hc
      by_cases hin : i = n
      · rw [hin]; exact hp
      · exact cnt_eq_sb h' (by omega) i (by omega) hq
    · rw [if_neg hp] at hc
      by_cases hq2 : q n = true
      · rw [if_pos hq2] at hc; omega
      · rw [if_neg hq2] at hc
        by_cases hin : i = n
        · rw [hin] at hq; exact absurd hq hq2
        · exact cnt_eq_sb h' (by omega) i (by omega) hq
/-- after n rounds nothing more is told -/
theorem accN_cl (t : Nat → Nat → Bool) (n : Nat) (p : Nat → Bool) : Cld t n (accN t n p n) := by
  have key : ∀ k, Cld t n (accN t n p k) ∨ k ≤ cnt (accN t n p k) n := by
    intro k
    induction k with
    | zero => exact Or.inr (Nat.zero_le _)
    | succ k ih =>
      have up : Sb n (accN t n p k) (accN t n p (k + 1)) := accN_up t n p k 1
      have le := cnt_sb up
      have stay : Cld t n (accN t n p k) → Cld t n (accN t n p (k + 1)) := by
        intro hc
        have back : Sb n (accN t n p (k + 1)) (accN t n p k) := fun i hi h => gse_cl t n (fun _ _ h => h) hc n (Nat.le_refl _) i hi (acc_gse t n (fun _ _ h => h) n (Nat.le_refl _) i hi h)
        exact fun i j hi hj h1 h2 => up i hi (hc i j hi hj (back j hj h1) h2)
      rcases ih with hc | hk
      · exact Or.inl (stay hc)
      · by_cases he : cnt (accN t n p (k + 1)) n ≤ cnt (accN t n p k) n
        · have back := cnt_eq_sb up he
          have hc : Cld t n (accN t n p k) := fun i j hi hj h1 h2 => back i hi (acc_ge t _ n i j hj h1 h2)
          exact Or.inl (stay hc)
        · exact Or.inr (by omega)
  rcases key n with h | h
  · exact h
  · intro i j hi hj _ _
    have full : ∀ m, m ≤ cnt (accN t n p n) m → ∀ i, i < m → accN t n p n i = true := by
      intro m
      induction m with
      | zero => intro _ i hi; exact absurd hi (Nat.not_lt_zero i)
      | succ m ih =>
        intro hm i hi
        have b := cnt_le (accN t n p n) m
        simp only [cnt] at hm
        by_cases hp : accN t n p n m = true
        · rw [if_pos hp] at hm
          by_cases him : i = m
          · rw [him]; exact hp
          · exact ih (by omega) i (by omega)
        · rw [if_neg hp] at hm; omega
    exact full n h i hi
theorem tell_eq (t : Nat → Nat → Bool) {n : Nat} (hn : n ≤ 8) (p : Nat → Bool) : setOf (accN t n p n) n = setOf (gseN t n p 8) n := by
  apply setOf_congr
  intro i hi
  have h1 : accN t n p n i = true → gseN t n p 8 i = true := by
    intro h
    have h2 := accN_up t n p n (8 - n) i hi h
    rw [show n + (8 - n) = 8 by omega] at h2
    exact accN_gseN t n p 8 i hi h2
  have h2 : gseN t n p 8 i = true → accN t n p n i = true := by
    have z := accN_up t n p 0 n
    rw [Nat.zero_add] at z
    exact gseN_cl t n z (accN_cl t n p) 8 i hi
  cases h3 : accN t n p n i <;> cases h4 : gseN t n p 8 i <;> simp_all
theorem setOf_or (p q : Nat → Bool) (n : Nat) : setOf p n ||| setOf q n = setOf (fun i => p i || q i) n := by
  apply Nat.eq_of_testBit_eq
  intro j
  rw [Nat.testBit_or, setOf_bit, setOf_bit, setOf_bit]
  cases decide (j < n) <;> simp
theorem bit_and {p : Nat → Bool} {n j : Nat} (hn : n ≤ 8) (hj : j < n) : ((iI (setOf p n : Nat) &&& ((1 : Int32) <<< (iI (j : Nat) &&& 31))) = 0) = (p j = false) := by
  have e := b_and j (by omega) (setOf p n) (setOf_256 hn)
  rw [setOf_bit] at e
  rw [c_1, c_31, c_0, e]
  simp [hj]
theorem s_tell {n : Nat} {a : Nat → Int} {lean : Nat → Int32} (hn : n ≤ 8) (hl : LA n a lean) (hb : Ab n a) {m : Nat} (hm : m < n) : S_City_tellers (iI m) (iI n) lean = some (iI (setOf (accN (tr a) n (fun i => tr a i m) n) n : Nat)) := by
  unfold S_City_tellers
  rw [s_trBy hn hl hb hm, o_b]
  refine for_g (fun g k => S_City_tellers_L8 (iI n) lean g (iI (setOf (accN (tr a) n (fun i => tr a i m) k) n : Nat)) (iI k)) n _ (fun g k hk => ?_) (fun g => ?_) lfu (by unfold lfu; omega)
  · show S_City_tellers_L8 _ _ (g + 1) _ _ = _
    rw [S_City_tellers_L8, if_neg (le_no (by omega) (by omega) hk)]
    generalize hP : accN (tr a) n (fun i => tr a i m) k = p
    have hP2 : accN (tr a) n (fun i => tr a i m) (k + 1) = acc (tr a) p n := by rw [← hP]; rfl
    rw [hP2]
    refine for_g (fun g2 j => S_City_tellers_L22 (S_City_tellers_L8 (iI n) lean g) (iI (setOf p n : Nat)) (iI k) (iI n) lean g2 (iI (setOf (acc (tr a) p j) n : Nat)) (iI j)) n _ (fun g2 j hj => ?_) (fun g2 => ?_) lfu (by unfold lfu; omega)
    · show S_City_tellers_L22 _ _ _ _ _ (g2 + 1) _ _ = _
      rw [S_City_tellers_L22, if_neg (le_no (by omega) (by omega) hj)]
      by_cases hp : p j = true
      · rw [if_neg (by rw [bit_and hn hj, hp]; decide), s_trBy hn hl hb hj, o_b, b_orr, setOf_or, iI_S]
        have e : acc (tr a) p (j + 1) = fun i => acc (tr a) p j i || tr a i j := by simp only [acc]; rw [if_pos hp]
        rw [e]
      · rw [if_pos (by rw [bit_and hn hj]; simpa using hp), iI_S]
        have e : acc (tr a) p (j + 1) = acc (tr a) p j := by simp only [acc]; rw [if_neg hp]
        rw [e]
    · show S_City_tellers_L22 _ _ _ _ _ (g2 + 1) _ _ = _
      rw [S_City_tellers_L22, if_pos (le_yes (by omega) (by omega) (Nat.le_refl _)), iI_S]
  · show S_City_tellers_L8 _ _ (g + 1) _ _ = _
    rw [S_City_tellers_L8, if_pos (le_yes (by omega) (by omega) (Nat.le_refl _))]
theorem has_bit {p : Nat → Bool} {n j : Nat} (hn : n ≤ 8) (hj : j < n) : S_MD_has (iI (setOf p n : Nat)) (iI (j : Nat)) = if p j then 1 else 0 := by
  have e := b_sh1 j (by omega) (setOf p n) (setOf_256 hn)
  rw [setOf_bit] at e
  unfold S_MD_has
  rw [c_31, c_1, e]
  simp only [hj, decide_true, Bool.true_and]
  cases p j <;> decide
theorem m_tell {c : MC} (h : Men c.n c.k c.f c.a) {q : Nat → Int32} (hq : MRow c q) (p0 : Nat → Bool) : S_MD_tells_L18 q lfu (iI (setOf p0 c.n : Nat)) 0 = some (iI (setOf (gseN (tr c.a) c.n p0 8) c.n : Nat)) := by
  have hn := h.1
  have e0 : q (0 : Int32).toNatClampNeg = iI c.n := hq.1
  refine for_g (fun g k => S_MD_tells_L18 q g (iI (setOf (gseN (tr c.a) c.n p0 k) c.n : Nat)) (iI k)) 8 _ (fun g k hk => ?_) (fun g => ?_) lfu (by unfold lfu; omega)
  · show S_MD_tells_L18 _ (g + 1) _ _ = _
    rw [S_MD_tells_L18, if_neg (show ¬ (8 : Int32) ≤ iI (k : Nat) by rw [c_8, iI_le (by omega) (by omega) (by omega) (by omega)]; omega)]
    generalize hP : gseN (tr c.a) c.n p0 k = p
    have hP2 : gseN (tr c.a) c.n p0 (k + 1) = gse (tr c.a) p c.n := by rw [← hP]; rfl
    rw [hP2]
    refine for_g (fun g2 j => S_MD_tells_L27 (S_MD_tells_L18 q g) (iI k) q g2 (iI (setOf (gse (tr c.a) p j) c.n : Nat)) (iI j)) c.n _ (fun g2 j hj => ?_) (fun g2 => ?_) lfu (by unfold lfu; omega)
    · show S_MD_tells_L27 _ _ _ (g2 + 1) _ _ = _
      rw [S_MD_tells_L27, e0, if_neg (le_no (by omega) (by omega) hj), has_bit hn hj]
      by_cases hp : gse (tr c.a) p j j = true
      · rw [if_pos hp, if_neg (by decide), m_trBy h hq hj, o_b, b_orr, setOf_or, iI_S]
        have e : gse (tr c.a) p (j + 1) = fun i => gse (tr c.a) p j i || tr c.a i j := by simp only [gse]; rw [if_pos hp]
        rw [e]
      · rw [if_neg hp, if_pos rfl, iI_S]
        have e : gse (tr c.a) p (j + 1) = gse (tr c.a) p j := by simp only [gse]; rw [if_neg hp]
        rw [e]
    · show S_MD_tells_L27 _ _ _ (g2 + 1) _ _ = _
      rw [S_MD_tells_L27, e0, if_pos (le_yes (by omega) (by omega) (Nat.le_refl _)), iI_S]
  · show S_MD_tells_L18 _ (g + 1) _ _ = _
    rw [S_MD_tells_L18, if_pos (by decide)]
theorem op_tells {c : MC} {S : CS} {q : Nat → Int32} (h : Rl c S q) (x : Int32) : ∃ r, S_PL_tells x S = some r ∧ S_MD_tells x q = some r := by
  obtain ⟨hO, ⟨r1, r2, r3, r4, r5, r6, r7⟩, hq, -⟩ := h
  have hM := hO.1
  have hn := hM.1
  obtain ⟨z, hz1, hz2, rfl⟩ := iI_of x
  have e1 := has_i (n := c.n) hz1 hz2 hn
  have e2 := isMan_i hn hq hz1 hz2
  unfold S_PL_tells S_MD_tells
  rw [r1, e1, e2, o_b]
  by_cases hi : 0 ≤ z ∧ z < c.n
  · obtain ⟨i, rfl⟩ : ∃ i : Nat, z = i := ⟨z.toNat, by omega⟩
    have hin : i < c.n := by omega
    rw [if_pos hi, if_neg (show ¬ (1 : Int32) = 0 by decide), if_neg (show ¬ (1 : Int32) = 0 by decide), s_tell hn r7.la hM.ab hin, m_trBy hM hq hin, o_b, o_b, m_tell hM hq, tell_eq _ hn]
    exact ⟨_, rfl, rfl⟩
  · rw [if_neg hi, if_pos rfl, if_pos rfl]
    exact ⟨_, rfl, rfl⟩
