/-! the mathematical city: men, kinds, figures, leans, who is propped, the lead's place, swings, crashes, day -/
abbrev MC : Type := Nat × (Nat → Nat) × (Nat → Nat) × (Nat → Int) × (Nat → Bool) × Nat × Nat × Nat × Nat
def MC.n (c : MC) : Nat := c.1
def MC.k (c : MC) : Nat → Nat := c.2.1
def MC.f (c : MC) : Nat → Nat := c.2.2.1
def MC.a (c : MC) : Nat → Int := c.2.2.2.1
def MC.p (c : MC) : Nat → Bool := c.2.2.2.2.1
def MC.pl (c : MC) : Nat := c.2.2.2.2.2.1
def MC.sw (c : MC) : Nat := c.2.2.2.2.2.2.1
def MC.cr (c : MC) : Nat := c.2.2.2.2.2.2.2.1
def MC.dy (c : MC) : Nat := c.2.2.2.2.2.2.2.2
def Men (n : Nat) (k f : Nat → Nat) (a : Nat → Int) : Prop := n ≤ 8 ∧ ∀ i, i < n → k i < 8 ∧ f i ≤ 9 ∧ -45 ≤ a i ∧ a i ≤ 45
def Ok (c : MC) : Prop := Men c.n c.k c.f c.a ∧ c.pl ≤ 7 ∧ c.sw ≤ 9 ∧ c.cr ≤ 999
def stepTo (x t m : Int) : Int := if t - x > m then m else if t - x < -m then -m else t - x
def more (k f : Nat) (x mean : Int) (dy : Nat) : Int := match k with
  | 0 => stepTo x mean 1
  | 1 => 0
  | 2 => stepTo x 0 1
  | 3 => stepTo x mean 2
  | 4 => if 0 ≤ x then (f / 3 + 1 : Nat) else -((f / 3 + 1 : Nat) : Int)
  | 5 => stepTo x 0 5
  | 6 => 2 * (if 0 ≤ x then ((f / 3 + 1 : Nat) : Int) else -((f / 3 + 1 : Nat) : Int))
  | _ => if dy % 2 = 0 then stepTo x mean 2 else 0
def wthn (k f : Nat) : Nat := match k with
  | 0 => 5
  | 1 => f
  | 2 => 0
  | 3 => 8
  | 4 => 2 * f
  | 5 => 9
  | 6 => 2 * f
  | _ => 8
def upr (k f : Nat → Nat) (a : Nat → Int) (i : Nat) : Bool := decide ((a i).natAbs ≤ wthn (k i) (f i))
def clamp (z : Int) : Int := if z < -45 then -45 else if 45 < z then 45 else z
def meanOf (c : MC) : Int := if c.n = 0 then 0 else (sumA c.a c.n).tdiv c.n
def a1Of (c : MC) (i : Nat) : Int := if c.p i then c.a i else clamp (c.a i + more (c.k i) (c.f i) (c.a i) (meanOf c) (c.dy + 1))
def crashed (c : MC) : Bool := decide (cnt (upr c.k c.f (a1Of c)) c.n < c.n / 2)
def turned (p : Nat → Bool) (a : Nat → Int) (i : Nat) : Int := if p i then a i else - a i
def a2Of (c : MC) : Nat → Int := if crashed c then turned c.p (a1Of c) else a1Of c
def swOf (c : MC) : Nat := if crashed c then 9 else c.sw - 1
def crOf (c : MC) : Nat := if crashed c then min 999 (c.cr + 1) else c.cr
/-- the man least far from 0, of several the least -/
def pb (a : Nat → Int) : Nat → Nat
  | 0 => 0
  | n + 1 => if n = 0 then 0 else if (a n).natAbs < (a (pb a n)).natAbs then n else pb a n
def leadTo (n pl sw : Nat) (a : Nat → Int) : Nat := if n = 0 then pl else if 0 < sw then (if pl + 1 < n then pl + 1 else 0) else if pl < pb a n then pl + 1 else if pb a n < pl then pl - 1 else pl
def day (c : MC) : MC := (c.n, c.k, c.f, a2Of c, c.p, leadTo c.n c.pl (swOf c) (a2Of c), swOf c, crOf c, c.dy + 1)
def days (c : MC) : Nat → MC
  | 0 => c
  | n + 1 => day (days c n)
/-- on how many of n days there is a crash -/
def crashes (c : MC) : Nat → Nat
  | 0 => 0
  | n + 1 => crashes c n + if crashed (days c n) then 1 else 0
/-! how class and reference hold it -/
def CA (n : Nat) (k f : Nat → Nat) (a : Nat → Int) (kind figure lean : Nat → Int32) : Prop := ∀ i, i < n → kind i = iI (k i) ∧ figure i = iI (f i) ∧ lean i = iI (a i)
def CR (c : MC) (S : CS) : Prop := S.1 = iI c.n ∧ S.2.1 = iI (setOf c.p c.n) ∧ S.2.2.1 = iI c.pl ∧ S.2.2.2.1 = iI c.sw ∧ S.2.2.2.2.1 = iI c.cr ∧ S.2.2.2.2.2.1 = iI c.dy ∧ CA c.n c.k c.f c.a S.2.2.2.2.2.2.2.1 S.2.2.2.2.2.2.2.2.1 S.2.2.2.2.2.2.2.2.2.1
def MRow (c : MC) (q : Nat → Int32) : Prop := q 0 = iI c.n ∧ q 1 = iI c.dy ∧ q 2 = iI c.pl ∧ q 3 = iI c.sw ∧ q 4 = iI c.cr ∧ ∀ i, i < c.n → q (5 + 4 * i) = iI (c.k i) ∧ q (6 + 4 * i) = iI (c.f i) ∧ q (7 + 4 * i) = iI (c.a i) ∧ q (8 + 4 * i) = iI (if c.p i then 1 else 0)
theorem stepTo_b {x t m : Int} (hm : 0 ≤ m) : -m ≤ stepTo x t m ∧ stepTo x t m ≤ m := by
  unfold stepTo
  split
  · omega
  · split <;> omega
theorem more_b (k f : Nat) (x mean : Int) (dy : Nat) (hf : f ≤ 9) : -8 ≤ more k f x mean dy ∧ more k f x mean dy ≤ 8 := by
  have h1 := @stepTo_b x mean 1 (by omega)
  have h2 := @stepTo_b x 0 1 (by omega)
  have h3 := @stepTo_b x mean 2 (by omega)
  have h4 := @stepTo_b x 0 5 (by omega)
  unfold more
  split <;> first | omega | (split <;> omega)
theorem clamp_b (z : Int) : -45 ≤ clamp z ∧ clamp z ≤ 45 := by
  unfold clamp
  split
  · omega
  · split <;> omega
theorem sumA_b {a : Nat → Int} : ∀ {n : Nat}, (∀ i, i < n → -45 ≤ a i ∧ a i ≤ 45) → -45 * (n : Int) ≤ sumA a n ∧ sumA a n ≤ 45 * (n : Int)
  | 0, _ => by simp [sumA]
  | n + 1, h => by
    have := sumA_b (n := n) (fun i hi => h i (by omega))
    have := h n (by omega)
    simp only [sumA]
    omega
theorem within_b (k f : Nat) (hf : f ≤ 9) : wthn k f ≤ 18 := by
  unfold wthn
  split <;> omega
theorem a1Of_b {c : MC} (h : Ok c) {i : Nat} (hi : i < c.n) : -45 ≤ a1Of c i ∧ a1Of c i ≤ 45 := by
  unfold a1Of
  split
  · exact ⟨(h.1.2 i hi).2.2.1, (h.1.2 i hi).2.2.2⟩
  · exact clamp_b _
theorem a2Of_b {c : MC} (h : Ok c) {i : Nat} (hi : i < c.n) : -45 ≤ a2Of c i ∧ a2Of c i ≤ 45 := by
  have := a1Of_b h hi
  unfold a2Of
  split
  · unfold turned
    split <;> omega
  · exact this
theorem pb_lt (a : Nat → Int) : ∀ n, 0 < n → pb a n < n
  | 0, h => absurd h (Nat.lt_irrefl 0)
  | n + 1, _ => by
    simp only [pb]
    split
    · omega
    · have := pb_lt a n (by omega)
      split <;> omega
theorem leadTo_b {n pl sw : Nat} {a : Nat → Int} (hn : n ≤ 8) (h : pl ≤ 7) : leadTo n pl sw a ≤ 7 := by
  unfold leadTo
  split
  · exact h
  · have := pb_lt a n (by omega)
    split
    · split <;> omega
    · split
      · omega
      · split <;> omega
theorem Ok.day {c : MC} (h : Ok c) : Ok (day c) := by
  refine ⟨⟨h.1.1, fun i hi => ⟨(h.1.2 i hi).1, (h.1.2 i hi).2.1, a2Of_b h hi⟩⟩, leadTo_b h.1.1 h.2.1, ?_, ?_⟩
  · show swOf c ≤ 9
    have := h.2.2.1
    unfold swOf
    split <;> omega
  · show crOf c ≤ 999
    have := h.2.2.2
    unfold crOf
    split <;> omega
theorem Ok.days {c : MC} (h : Ok c) : ∀ n, Ok (days c n)
  | 0 => h
  | n + 1 => (Ok.days h n).day
theorem days_n (c : MC) : ∀ n, (days c n).n = c.n
  | 0 => rfl
  | n + 1 => days_n c n
theorem days_dy (c : MC) : ∀ n, (days c n).dy = c.dy + n
  | 0 => rfl
  | n + 1 => by
    show (days c n).dy + 1 = _
    rw [days_dy c n]; omega
theorem days_p (c : MC) : ∀ n, (days c n).p = c.p
  | 0 => rfl
  | n + 1 => days_p c n
theorem days_k (c : MC) : ∀ n, (days c n).k = c.k
  | 0 => rfl
  | n + 1 => days_k c n
theorem days_f (c : MC) : ∀ n, (days c n).f = c.f
  | 0 => rfl
  | n + 1 => days_f c n
theorem meanOf_b {c : MC} (h : Ok c) : -45 ≤ meanOf c ∧ meanOf c ≤ 45 := by
  unfold meanOf
  split
  · omega
  · have hb := sumA_b (a := c.a) (n := c.n) (fun i hi => ⟨(h.1.2 i hi).2.2.1, (h.1.2 i hi).2.2.2⟩)
    have hn : 0 < (c.n : Int) := by omega
    have h1 : ((sumA c.a c.n).tdiv c.n).natAbs = (sumA c.a c.n).natAbs / c.n := by rw [Int.natAbs_tdiv, Int.natAbs_natCast]; rfl
    have h2 : (sumA c.a c.n).natAbs / c.n ≤ 45 := by
      apply Nat.div_le_of_le_mul
      have : (sumA c.a c.n).natAbs ≤ 45 * c.n := by omega
      rw [Nat.mul_comm]; exact this
    omega
