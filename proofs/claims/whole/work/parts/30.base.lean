/-! numbers of the pure text: Int32 as whole numbers -/
def iI (z : Int) : Int32 := Int32.ofInt z
theorem nI_iI (n : Nat) : nI n = iI n := by
  unfold nI iI
  first | rfl | exact Int32.ofInt_eq_ofNat.symm | exact (Int32.ofInt_eq_ofNat n).symm | (apply Int32.toInt_inj.mp; simp)
theorem iI_toInt {z : Int} (h1 : -2147483648 ≤ z) (h2 : z < 2147483648) : (iI z).toInt = z := Int32.toInt_ofInt_of_le (by omega) (by omega)
theorem iI_of (x : Int32) : ∃ z : Int, -2147483648 ≤ z ∧ z < 2147483648 ∧ x = iI z := ⟨x.toInt, by have := x.le_toInt; omega, by have := x.toInt_lt; omega, by unfold iI; simp⟩
theorem iI_add (a b : Int) : iI a + iI b = iI (a + b) := (Int32.ofInt_add a b).symm
theorem iI_sub (a b : Int) : iI a - iI b = iI (a - b) := (Int32.ofInt_sub a b).symm
theorem iI_mul (a b : Int) : iI a * iI b = iI (a * b) := (Int32.ofInt_mul a b).symm
theorem iI_neg (a : Int) : - iI a = iI (-a) := (Int32.ofInt_neg a).symm
theorem iI_le {a b : Int} (h1 : -2147483648 ≤ a) (h2 : a < 2147483648) (h3 : -2147483648 ≤ b) (h4 : b < 2147483648) : (iI a ≤ iI b) = (a ≤ b) := by rw [Int32.le_iff_toInt_le, iI_toInt h1 h2, iI_toInt h3 h4]
theorem iI_lt {a b : Int} (h1 : -2147483648 ≤ a) (h2 : a < 2147483648) (h3 : -2147483648 ≤ b) (h4 : b < 2147483648) : (iI a < iI b) = (a < b) := by rw [Int32.lt_iff_toInt_lt, iI_toInt h1 h2, iI_toInt h3 h4]
theorem iI_eq {a b : Int} (h1 : -2147483648 ≤ a) (h2 : a < 2147483648) (h3 : -2147483648 ≤ b) (h4 : b < 2147483648) : (iI a = iI b) = (a = b) := by rw [← Int32.toInt_inj, iI_toInt h1 h2, iI_toInt h3 h4]
theorem iI_Nz {z : Int} (h1 : 0 ≤ z) (h2 : z < 2147483648) : (iI z).toNatClampNeg = z.toNat := by
  rw [Int32.toNatClampNeg, iI_toInt (by omega) h2]
theorem iI_N {n : Nat} (h : n < 2147483648) : (iI (n : Int)).toNatClampNeg = n := by rw [iI_Nz (by omega) (by omega)]; simp
theorem c_0 : (0 : Int32) = iI 0 := by decide +kernel
theorem c_1 : (1 : Int32) = iI 1 := by decide +kernel
theorem c_2 : (2 : Int32) = iI 2 := by decide +kernel
theorem c_3 : (3 : Int32) = iI 3 := by decide +kernel
theorem c_4 : (4 : Int32) = iI 4 := by decide +kernel
theorem c_5 : (5 : Int32) = iI 5 := by decide +kernel
theorem c_6 : (6 : Int32) = iI 6 := by decide +kernel
theorem c_7 : (7 : Int32) = iI 7 := by decide +kernel
theorem c_8 : (8 : Int32) = iI 8 := by decide +kernel
theorem c_9 : (9 : Int32) = iI 9 := by decide +kernel
theorem c_10 : (10 : Int32) = iI 10 := by decide +kernel
theorem c_11 : (11 : Int32) = iI 11 := by decide +kernel
theorem c_12 : (12 : Int32) = iI 12 := by decide +kernel
theorem c_13 : (13 : Int32) = iI 13 := by decide +kernel
theorem c_16 : (16 : Int32) = iI 16 := by decide +kernel
theorem c_20 : (20 : Int32) = iI 20 := by decide +kernel
theorem c_23 : (23 : Int32) = iI 23 := by decide +kernel
theorem c_26 : (26 : Int32) = iI 26 := by decide +kernel
theorem c_30 : (30 : Int32) = iI 30 := by decide +kernel
theorem c_31 : (31 : Int32) = iI 31 := by decide +kernel
theorem c_32 : (32 : Int32) = iI 32 := by decide +kernel
theorem c_37 : (37 : Int32) = iI 37 := by decide +kernel
theorem c_45 : (45 : Int32) = iI 45 := by decide +kernel
theorem c_48 : (48 : Int32) = iI 48 := by decide +kernel
theorem c_57 : (57 : Int32) = iI 57 := by decide +kernel
theorem c_59 : (59 : Int32) = iI 59 := by decide +kernel
theorem c_60 : (60 : Int32) = iI 60 := by decide +kernel
theorem c_63 : (63 : Int32) = iI 63 := by decide +kernel
theorem c_64 : (64 : Int32) = iI 64 := by decide +kernel
theorem c_90 : (90 : Int32) = iI 90 := by decide +kernel
theorem c_91 : (91 : Int32) = iI 91 := by decide +kernel
theorem c_97 : (97 : Int32) = iI 97 := by decide +kernel
theorem c_100 : (100 : Int32) = iI 100 := by decide +kernel
theorem c_108 : (108 : Int32) = iI 108 := by decide +kernel
theorem c_109 : (109 : Int32) = iI 109 := by decide +kernel
theorem c_114 : (114 : Int32) = iI 114 := by decide +kernel
theorem c_119 : (119 : Int32) = iI 119 := by decide +kernel
theorem c_127 : (127 : Int32) = iI 127 := by decide +kernel
theorem c_128 : (128 : Int32) = iI 128 := by decide +kernel
theorem c_200 : (200 : Int32) = iI 200 := by decide +kernel
theorem c_255 : (255 : Int32) = iI 255 := by decide +kernel
theorem c_256 : (256 : Int32) = iI 256 := by decide +kernel
theorem c_999 : (999 : Int32) = iI 999 := by decide +kernel
theorem c_1000 : (1000 : Int32) = iI 1000 := by decide +kernel
theorem c_2000 : (2000 : Int32) = iI 2000 := by decide +kernel
theorem c_12345 : (12345 : Int32) = iI 12345 := by decide +kernel
theorem c_32768 : (32768 : Int32) = iI 32768 := by decide +kernel
theorem c_65536 : (65536 : Int32) = iI 65536 := by decide +kernel
theorem iI_div {a b : Int} (h1 : -1073741824 ≤ a) (h2 : a < 1073741824) (h3 : -1073741824 ≤ b) (h4 : b < 1073741824) : iI a / iI b = iI (a.tdiv b) := by
  rw [← Int32.toInt_inj, Int32.toInt_div, iI_toInt (by omega) (by omega), iI_toInt (by omega) (by omega)]
  have hq : -1073741824 ≤ a.tdiv b ∧ a.tdiv b ≤ 1073741824 := by
    have h5 : (a.tdiv b).natAbs ≤ a.natAbs := by
      rw [Int.natAbs_tdiv]
      exact Nat.div_le_self _ _
    omega
  rw [iI_toInt (by omega) (by omega), Int.bmod_eq_of_le (by omega) (by omega)]
/-- a counted loop: k steps, then its end -/
theorem for_g {R : Type} (g : Nat → Nat → R) (k : Nat) (r : R) (step : ∀ n j, j < k → g (n + 1) j = g n (j + 1)) (ex : ∀ n, g (n + 1) k = r) : ∀ f, k < f → g f 0 = r := by
  have key : ∀ d j f, j + d = k → d < f → g f j = r := by
    intro d
    induction d with
    | zero =>
      intro j f hj hf
      obtain ⟨m, rfl⟩ : ∃ m, f = m + 1 := ⟨f - 1, by omega⟩
      rw [show j = k by omega]
      exact ex m
    | succ d ih =>
      intro j f hj hf
      obtain ⟨m, rfl⟩ : ∃ m, f = m + 1 := ⟨f - 1, by omega⟩
      rw [step m j (by omega)]
      exact ih (j + 1) m (by omega) (by omega)
  intro f hf
  exact key k 0 f (by omega) hf
/-- the same from j0 on -/
theorem for_h {R : Type} (g : Nat → Nat → R) (j0 k : Nat) (r : R) (h0 : j0 ≤ k) (step : ∀ n j, j0 ≤ j → j < k → g (n + 1) j = g n (j + 1)) (ex : ∀ n, g (n + 1) k = r) : ∀ f, k - j0 < f → g f j0 = r := by
  intro f hf
  have := for_g (fun n j => g n (j0 + j)) (k - j0) r (fun n j hj => by
    have := step n (j0 + j) (by omega) (by omega)
    simpa [Nat.add_assoc] using this) (fun n => by
    have := ex n
    rw [show j0 + (k - j0) = k by omega]
    exact this) f hf
  simpa using this
/-! sums, sets, counts -/
def sumA (a : Nat → Int) : Nat → Int
  | 0 => 0
  | n + 1 => sumA a n + a n
def setOf (p : Nat → Bool) : Nat → Nat
  | 0 => 0
  | n + 1 => setOf p n + if p n then 2 ^ n else 0
def cnt (p : Nat → Bool) : Nat → Nat
  | 0 => 0
  | n + 1 => cnt p n + if p n then 1 else 0
def pc (x : Nat) : Nat := cnt (fun i => x.testBit i) 8
theorem setOf_lt (p : Nat → Bool) : ∀ n, setOf p n < 2 ^ n
  | 0 => by simp [setOf]
  | n + 1 => by
    have := setOf_lt p n
    simp only [setOf]
    split <;> omega
theorem setOf_256 {p : Nat → Bool} {n : Nat} (h : n ≤ 8) : setOf p n < 256 := by
  have h1 := setOf_lt p n
  have h2 : 2 ^ n ≤ 2 ^ 8 := Nat.pow_le_pow_right (by omega) h
  omega
theorem setOf_bit (p : Nat → Bool) : ∀ n i, (setOf p n).testBit i = (decide (i < n) && p i)
  | 0, i => by simp [setOf]
  | n + 1, i => by
    have ih := setOf_bit p n i
    have hl := setOf_lt p n
    simp only [setOf]
    by_cases hp : p n = true
    · have e9 : 2 ^ n + setOf p n = 2 ^ n ||| setOf p n := by
        have z := Nat.two_pow_add_eq_or_of_lt hl 1
        rwa [Nat.mul_one] at z
      rw [if_pos hp, Nat.add_comm, e9, Nat.testBit_or, ih, Nat.testBit_two_pow]
      by_cases hi : i = n
      · subst hi; simp [hp]
      · have h1 : (decide (i < n + 1)) = decide (i < n) := decide_eq_decide.mpr (by omega)
        have h2 : ¬ n = i := fun z => hi z.symm
        simp [h1, h2]
    · rw [if_neg hp, Nat.add_zero, ih]
      by_cases hi : i = n
      · subst hi; simp [hp]
      · have h1 : (decide (i < n + 1)) = decide (i < n) := decide_eq_decide.mpr (by omega)
        rw [h1]
theorem cnt_le (p : Nat → Bool) : ∀ n, cnt p n ≤ n
  | 0 => Nat.le_refl _
  | n + 1 => by
    have := cnt_le p n
    simp only [cnt]
    split <;> omega
theorem cnt_congr {p q : Nat → Bool} : ∀ {n : Nat}, (∀ i, i < n → p i = q i) → cnt p n = cnt q n
  | 0, _ => rfl
  | n + 1, h => by
    simp only [cnt]
    rw [cnt_congr (fun i hi => h i (by omega)), h n (by omega)]
theorem setOf_congr {p q : Nat → Bool} : ∀ {n : Nat}, (∀ i, i < n → p i = q i) → setOf p n = setOf q n
  | 0, _ => rfl
  | n + 1, h => by
    simp only [setOf]
    rw [setOf_congr (fun i hi => h i (by omega)), h n (by omega)]
theorem sumA_congr {p q : Nat → Int} : ∀ {n : Nat}, (∀ i, i < n → p i = q i) → sumA p n = sumA q n
  | 0, _ => rfl
  | n + 1, h => by
    simp only [sumA]
    rw [sumA_congr (fun i hi => h i (by omega)), h n (by omega)]
theorem cnt_ext (p : Nat → Bool) (n : Nat) : ∀ m, n ≤ m → cnt (fun i => decide (i < n) && p i) m = cnt p n := by
  intro m hm
  induction m with
  | zero =>
    obtain rfl : n = 0 := by omega
    rfl
  | succ m ih =>
    by_cases h : n = m + 1
    · subst h
      exact cnt_congr (fun i hi => by simp [hi])
    · simp only [cnt]
      rw [ih (by omega)]
      have : ¬ m < n := by omega
      simp [this]
theorem pc_setOf (p : Nat → Bool) {n : Nat} (h : n ≤ 8) : pc (setOf p n) = cnt p n := by
  unfold pc
  rw [show (fun i => (setOf p n).testBit i) = (fun i => decide (i < n) && p i) from funext (setOf_bit p n)]
  exact cnt_ext p n 8 h
/-! bits of small sets, decided -/
theorem b_bc : ∀ x, x < 256 → S_J_bitCount (iI (x : Nat)) = iI (pc x : Nat) := by decide +kernel
theorem b_or : ∀ j, j < 8 → ∀ x, x < 2 ^ j → (iI (x : Nat) ||| (iI 1 <<< (iI (j : Nat) &&& iI 31))) = iI ((x + 2 ^ j : Nat)) := by decide +kernel
theorem b_and : ∀ j, j < 8 → ∀ x, x < 256 → ((iI (x : Nat) &&& (iI 1 <<< (iI (j : Nat) &&& iI 31))) = iI 0) = (x.testBit j = false) := fun j hj x hx => propext ((show ∀ j, j < 8 → ∀ x, x < 256 → (((iI (x : Nat) &&& (iI 1 <<< (iI (j : Nat) &&& iI 31))) = iI 0) ↔ (x.testBit j = false)) by decide +kernel) j hj x hx)
theorem b_xor : ∀ j, j < 8 → ∀ x, x < 256 → (iI (x : Nat) ^^^ (iI 1 <<< (iI (j : Nat) &&& iI 31))) = iI ((x ^^^ 2 ^ j : Nat)) := by decide +kernel
theorem b_shl : ∀ j, j < 9 → (iI 1 <<< (iI (j : Nat) &&& iI 31)) = iI ((2 ^ j : Nat)) := by decide +kernel
theorem b_orr (x y : Nat) : (iI (x : Nat) ||| iI (y : Nat)) = iI ((x ||| y : Nat)) := by
  rw [← nI_iI, ← nI_iI, ← nI_iI]
  refine Int32.toBitVec_inj.mp ?_
  rw [Int32.toBitVec_or]
  exact BitVec.ofNat_or.symm
theorem b_andd (x y : Nat) : (iI (x : Nat) &&& iI (y : Nat)) = iI ((x &&& y : Nat)) := by
  rw [← nI_iI, ← nI_iI, ← nI_iI]
  refine Int32.toBitVec_inj.mp ?_
  rw [Int32.toBitVec_and]
  exact BitVec.ofNat_and.symm
