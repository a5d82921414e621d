/-! fewestProps -/
theorem up_c {e : MC} {S : CS} (hO : Ok e) (hC : CR e S) : S_City_upright S.1 S.2.2.2.2.2.2.2.1 S.2.2.2.2.2.2.2.2.1 S.2.2.2.2.2.2.2.2.2.1 = some (iI (setOf (upr e.k e.f e.a) e.n : Nat)) := by
  obtain ⟨r1, r2, r3, r4, r5, r6, r7⟩ := hC
  rw [r1]
  exact s_upright hO.1 r7
def upN (e : MC) : Nat := cnt (upr e.k e.f e.a) e.n
theorem upN_b {e : MC} (hO : Ok e) : upN e ≤ 8 := Nat.le_trans (cnt_le _ _) hO.1.1
theorem up_bc {e : MC} (hO : Ok e) : S_J_bitCount (iI (setOf (upr e.k e.f e.a) e.n : Nat)) = iI (upN e : Nat) := s_bcSet hO.1.1
theorem up_bm {e : MC} (hO : Ok e) : S_MD_bits (iI (setOf (upr e.k e.f e.a) e.n : Nat)) = some (iI (upN e : Nat)) := m_bcSet hO.1.1
theorem cr_days {c : MC} {S : CS} (hO : Ok c) {n : Nat} (hd : c.dy + n < 100000) (hn : n ≤ 100) (hC : CR c S) : ∃ o, S_City_passDays (iI n) S.1 S.2.1 S.2.2.1 S.2.2.2.1 S.2.2.2.2.1 S.2.2.2.2.2.1 S.2.2.2.2.2.2.1 S.2.2.2.2.2.2.2.1 S.2.2.2.2.2.2.2.2.1 S.2.2.2.2.2.2.2.2.2.1 = some o ∧ CR (days c n) (S.1, S.2.1, o.2.1, o.2.2.1, o.2.2.2.1, o.2.2.2.2.1, o.2.2.2.2.2.1, S.2.2.2.2.2.2.2.1, S.2.2.2.2.2.2.2.2.1, o.2.2.2.2.2.2, S.2.2.2.2.2.2.2.2.2.2) := by
  obtain ⟨r1, r2, r3, r4, r5, r6, r7⟩ := hC
  obtain ⟨o, k1, k2, k3, k4, k5, k6, k7⟩ := s_days hO (n := n) hd hn r7 S.2.2.2.2.2.2.1
  rw [← r1, ← r2, ← r3, ← r4, ← r5, ← r6] at k1
  refine ⟨o, k1, ?_, ?_, k3, k4, k5, k6, ?_⟩
  · rw [days_n]; exact r1
  · rw [days_n, days_p]; exact r2
  · rw [days_n, days_k, days_f]; exact r7.to k7
def un (p : Nat → Bool) (x i : Nat) : Bool := p i || x.testBit i
theorem un_set (p : Nat → Bool) {n x : Nat} (hx : x < 2 ^ n) : setOf p n ||| x = setOf (un p x) n := by
  apply Nat.eq_of_testBit_eq
  intro j
  rw [Nat.testBit_or, setOf_bit, setOf_bit]
  unfold un
  by_cases hj : j < n
  · simp [hj]
  · have : x.testBit j = false := Nat.testBit_lt_two_pow (Nat.lt_of_lt_of_le hx (Nat.pow_le_pow_right (by omega) (by omega)))
    simp [hj, this]
/-- no crash in k days, with the set x propped too -/
def Gd (c : MC) (k x : Nat) : Prop := ∀ j, j < k → crashed (days (c.wp (un c.p x)) j) = false
def Dj (c : MC) (x : Nat) : Prop := x &&& setOf c.p c.n = 0
theorem wp_ok {c : MC} (h : Ok c) (p : Nat → Bool) : Ok (c.wp p) := ⟨h.1, h.2⟩
theorem s_whole {c : MC} {S : CS} (hO : Ok c) {k x : Nat} (hk : k ≤ 30) (hd : c.dy ≤ 999) (hx : x < 2 ^ c.n) (hC : CR c S) (mS : CS) : ∃ o, S_Mind_staysWhole (iI (x : Nat)) (iI (k : Nat)) S mS = some o ∧ (o.1 = 1 ∧ Gd c k x ∨ o.1 = 0 ∧ ¬ Gd c k x) := by
  have hn := hO.1.1
  have hCb := cr_becomes hn hC mS mS.2.2.2.2.2.2.1 mS.2.2.2.2.2.2.2.2.2.2
  unfold S_Mind_staysWhole S_City_becomes
  rw [o_b]
  refine for_i (fun g j (s : CS) => S_Mind_staysWhole_L26 (iI (k : Nat)) g (iI j) s) (fun j s => CR (days (c.wp (un c.p x)) j) s ∧ ∀ i, i < j → crashed (days (c.wp (un c.p x)) i) = false) _ k (fun g j s hj hI kk => ?_) (fun g s hI => ?_) lfu _ (by unfold lfu; omega) ⟨?_, fun i hi => absurd hi (Nat.not_lt_zero i)⟩
  · show ∃ o, S_Mind_staysWhole_L26 _ (g + 1) _ _ = some o ∧ _
    obtain ⟨h1, h2⟩ := hI
    obtain ⟨o, k1, k2, k3⟩ := cr_day ((wp_ok hO _).days j) (by rw [days_dy]; show c.dy + j + 1 < 1000000; omega) h1
    rw [S_Mind_staysWhole_L26, if_neg (le_no (by omega) (by omega) hj), k1, o_b, k2, iI_S]
    cases hcr : crashed (days (c.wp (un c.p x)) j) with
    | true =>
      rw [if_neg (by decide)]
      exact ⟨_, rfl, Or.inr ⟨rfl, fun y => by rw [y j hj] at hcr; exact absurd hcr (by decide)⟩⟩
    | false =>
      rw [if_pos (by decide)]
      exact kk _ ⟨by rw [hcr] at k2; rw [k2] at k3; exact k3, fun i hi => by
        by_cases hij : i = j
        · rw [hij]; exact hcr
        · exact h2 i (by omega)⟩
  · show ∃ o, S_Mind_staysWhole_L26 _ (g + 1) _ _ = some o ∧ _
    rw [S_Mind_staysWhole_L26, if_pos (le_yes (by omega) (by omega) (Nat.le_refl _))]
    exact ⟨_, rfl, Or.inl ⟨rfl, hI.2⟩⟩
  · obtain ⟨b1, b2, b3, b4, b5, b6, b7⟩ := hCb
    refine ⟨b1, ?_, b3, b4, b5, b6, b7⟩
    show S.2.1 ||| iI (x : Nat) = iI (setOf (un c.p x) c.n : Nat)
    rw [show S.2.1 = iI (setOf c.p c.n : Nat) from b2, b_orr, un_set c.p hx]
theorem pw_b {n : Nat} (hn : n ≤ 8) : 2 ^ n ≤ 256 := Nat.pow_le_pow_right (n := 2) (by omega) hn
theorem dj_iI {c : MC} (hn : c.n ≤ 8) {x : Nat} (hx : x < 256) : (iI (x : Nat) &&& iI (setOf c.p c.n : Nat) = 0) = Dj c x := by
  have h1 : x &&& setOf c.p c.n ≤ x := Nat.and_le_left
  rw [b_andd, c_0, iI_eq (by omega) (by omega) (by omega) (by omega)]
  unfold Dj
  apply propext
  omega
theorem pc_le {x n : Nat} (hn : n ≤ 8) (hx : x < 2 ^ n) : pc x ≤ n := by
  have e : x = setOf (fun i => x.testBit i) n := by
    apply Nat.eq_of_testBit_eq
    intro j
    rw [setOf_bit]
    by_cases hj : j < n
    · simp [hj]
    · have : x.testBit j = false := Nat.testBit_lt_two_pow (Nat.lt_of_lt_of_le hx (Nat.pow_le_pow_right (by omega) (by omega)))
      simp [hj, this]
  rw [e, pc_setOf _ hn]
  exact cnt_le _ _
theorem s_fewest {c : MC} {S : CS} (hO : Ok c) {k : Nat} (hk : k ≤ 30) (hd : c.dy ≤ 999) (hC : CR c S) (mS : CS) : ∃ o, S_Mind_propsAgainstCrash (iI (k : Nat)) S mS = some o ∧ ((o.1 = iI (-4) ∧ ∀ y, y < 2 ^ c.n → Dj c y → ¬ Gd c k y) ∨ ∃ v : Nat, v < 2 ^ c.n ∧ o.1 = iI v ∧ Dj c v ∧ Gd c k v ∧ ∀ y, y < 2 ^ c.n → Dj c y → Gd c k y → pc v < pc y ∨ pc v = pc y ∧ v ≤ y) := by
  have hn := hO.1.1
  have hp := pw_b hn
  have es := b_shl c.n (by omega)
  rw [← c_1, ← c_31] at es
  have e1 : S.1 = iI c.n := hC.1
  have e2 : S.2.1 = iI (setOf c.p c.n : Nat) := hC.2.1
  unfold S_Mind_propsAgainstCrash
  refine for_i (fun g s (m : CS) => S_Mind_propsAgainstCrash_L2 (iI (k : Nat)) S g (iI s) m) (fun s _ => ∀ y, y < 2 ^ c.n → pc y < s → Dj c y → ¬ Gd c k y) _ (c.n + 1) (fun g s m hs hI kk => ?_) (fun g m hI => ?_) lfu mS (by unfold lfu; omega) (fun y _ h => absurd h (Nat.not_lt_zero _))
  · show ∃ o, S_Mind_propsAgainstCrash_L2 _ _ (g + 1) _ _ = some o ∧ _
    rw [S_Mind_propsAgainstCrash_L2, e1, if_neg (show ¬ iI (c.n : Nat) < iI (s : Nat) by rw [iI_lt (by omega) (by omega) (by omega) (by omega)]; omega)]
    refine for_i (fun g2 x (m : CS) => S_Mind_propsAgainstCrash_L15 (S_Mind_propsAgainstCrash_L2 (iI (k : Nat)) S g) (iI (k : Nat)) (iI (s : Nat)) S g2 (iI x) m) (fun x _ => ∀ y, y < x → pc y = s → Dj c y → ¬ Gd c k y) _ (2 ^ c.n) (fun g2 x m hx hI2 kk2 => ?_) (fun g2 m hI2 => ?_) lfu m (by unfold lfu; omega) (fun y h => absurd h (Nat.not_lt_zero _))
    · show ∃ o, S_Mind_propsAgainstCrash_L15 _ _ _ _ (g2 + 1) _ _ = some o ∧ _
      have b := pc_le hn hx
      rw [S_Mind_propsAgainstCrash_L15, e1, es, if_neg (le_no (by omega) (by omega) hx), b_bc x (by omega), e2, iI_S]
      by_cases h1 : pc x = s
      · rw [if_pos (by rw [h1])]
        by_cases h2 : Dj c x
        · obtain ⟨⟨o1, o2⟩, k1, k2⟩ := s_whole hO hk hd hx hC m
          rw [if_pos (by rw [dj_iI hn (by omega)]; exact h2), k1, o_b]
          dsimp only at k2 ⊢
          rcases k2 with ⟨rfl, k2⟩ | ⟨rfl, k2⟩
          · rw [if_neg (by decide)]
            refine ⟨_, rfl, Or.inr ⟨x, hx, rfl, h2, k2, fun y hy1 hy2 hy3 => ?_⟩⟩
            by_cases hlt : pc y < s
            · exact absurd hy3 (hI y hy1 hlt hy2)
            · by_cases heq : pc y = s
              · right
                refine ⟨by omega, ?_⟩
                by_cases hyx : y < x
                · exact absurd hy3 (hI2 y hyx heq hy2)
                · omega
              · left; omega
          · rw [if_pos rfl]
            exact kk2 _ (fun y hy h3 h4 => by
              by_cases hyx : y = x
              · rw [hyx]; exact k2
              · exact hI2 y (by omega) h3 h4)
        · rw [if_neg (by rw [dj_iI hn (by omega)]; exact h2)]
          exact kk2 _ (fun y hy h3 h4 => by
            by_cases hyx : y = x
            · rw [hyx] at h4; exact absurd h4 h2
            · exact hI2 y (by omega) h3 h4)
      · rw [if_neg (show ¬ iI (pc x : Nat) = iI (s : Nat) from ne_iI (by omega) (by omega) (by omega) (by omega) (by omega))]
        exact kk2 _ (fun y hy h3 h4 => by
          by_cases hyx : y = x
          · rw [hyx] at h3; exact absurd h3 h1
          · exact hI2 y (by omega) h3 h4)
    · show ∃ o, S_Mind_propsAgainstCrash_L15 _ _ _ _ (g2 + 1) _ _ = some o ∧ _
      rw [S_Mind_propsAgainstCrash_L15, e1, es, if_pos (le_yes (by omega) (by omega) (Nat.le_refl _)), iI_S]
      exact kk m (fun y hy1 hy2 hy3 => by
        by_cases heq : pc y = s
        · exact hI2 y hy1 heq hy3
        · exact hI y hy1 (by omega) hy3)
  · show ∃ o, S_Mind_propsAgainstCrash_L2 _ _ (g + 1) _ _ = some o ∧ _
    rw [S_Mind_propsAgainstCrash_L2, e1, if_pos (show iI (c.n : Nat) < iI ((c.n + 1 : Nat) : Int) by rw [iI_lt (by omega) (by omega) (by omega) (by omega)]; omega)]
    exact ⟨_, rfl, Or.inl ⟨(show (-4 : Int32) = iI (-4) by decide), fun y hy1 hy2 => hI y hy1 (by have := pc_le hn hy1; omega) hy2⟩⟩
theorem prop_row {c : MC} {q : Nat → Int32} (hq : MRow c q) (i : Nat) : MRow (c.wp (fun j => if j = i then true else c.p j)) (upd q (8 + 4 * i) 1) := by
  obtain ⟨h0, h1, h2, h3, h4, h5⟩ := hq
  refine ⟨by rw [upd_ne _ _ (by omega)]; exact h0, by rw [upd_ne _ _ (by omega)]; exact h1, by rw [upd_ne _ _ (by omega)]; exact h2, by rw [upd_ne _ _ (by omega)]; exact h3, by rw [upd_ne _ _ (by omega)]; exact h4, fun j hj => ?_⟩
  obtain ⟨a1, a2, a3, a4⟩ := h5 j hj
  rw [upd_ne (k := 8 + 4 * i) (j := 5 + 4 * j) _ _ (by omega), upd_ne (k := 8 + 4 * i) (j := 6 + 4 * j) _ _ (by omega), upd_ne (k := 8 + 4 * i) (j := 7 + 4 * j) _ _ (by omega)]
  refine ⟨a1, a2, a3, ?_⟩
  show _ = iI (if (if j = i then true else c.p j) then 1 else 0)
  by_cases hij : j = i
  · subst hij
    rw [upd_same, if_pos rfl]
    decide
  · rw [upd_ne _ _ (by omega), a4, if_neg hij]
theorem days_wc (c : MC) (v : Nat) : ∀ j, ∃ v', days (c.wc v) j = (days c j).wc v'
  | 0 => ⟨v, rfl⟩
  | j + 1 => by
    obtain ⟨v', e⟩ := days_wc c v j
    refine ⟨crOf ((days c j).wc v'), ?_⟩
    show day (days (c.wc v) j) = (day (days c j)).wc _
    rw [e]
    rfl
theorem crash_wc (c : MC) (v j : Nat) : crashed (days (c.wc v) j) = crashed (days c j) := by
  obtain ⟨v', e⟩ := days_wc c v j
  rw [e]
  rfl
theorem cr_zero (c : MC) (h0 : c.cr = 0) : ∀ k, ((days c k).cr = 0) = (∀ j, j < k → crashed (days c j) = false)
  | 0 => by
    apply propext
    exact ⟨fun _ j hj => absurd hj (Nat.not_lt_zero j), fun _ => h0⟩
  | k + 1 => by
    have ih := cr_zero c h0 k
    apply propext
    show crOf (days c k) = 0 ↔ _
    unfold crOf
    cases hc : crashed (days c k) with
    | true =>
      rw [if_pos rfl]
      constructor
      · intro z
        omega
      · intro z
        have := z k (by omega)
        rw [hc] at this
        exact absurd this (by decide)
    | false =>
      rw [if_neg (by decide), ih]
      constructor
      · intro z j hj
        by_cases hjk : j = k
        · rw [hjk]; exact hc
        · exact z j (by omega)
      · intro z j hj
        exact z j (by omega)
theorem m_tryS {c : MC} (hO : Ok c) {q : Nat → Int32} (hq : MRow c q) {k x : Nat} (hk : k ≤ 30) (hd : c.dy ≤ 999) (hx : x < 2 ^ c.n) (K : Int32 → Int32 → (Nat → Int32) → Option (Int32 × (Nat → Int32))) (y2 : Int32) (qm : Nat → Int32) : ∃ q', (Gd c k x → S_MD_fewestProps_J47 K (iI (k : Nat)) y2 (iI (x : Nat)) q qm = K (iI (x : Nat)) (iI ((x + 1 : Nat) : Int)) q') ∧ (¬ Gd c k x → S_MD_fewestProps_J47 K (iI (k : Nat)) y2 (iI (x : Nat)) q qm = K y2 (iI ((x + 1 : Nat) : Int)) q') := by
  have hn := hO.1.1
  have hp := pw_b hn
  obtain ⟨q0, m1, m2⟩ := m_copies q qm
  have e0 : q (0 : Int32).toNatClampNeg = iI c.n := hq.1
  have key : ∃ o, (∃ q', o = (q', q') ∧ MRow (days ((c.wc 0).wp (un c.p x)) k) q') ∧ (S_MD_fewestProps_L68 K (iI (k : Nat)) y2 (iI (x : Nat)) q lfu 0 (upd q0 4 (iI ((0 : Nat) : Int)))) = (if o.1 4 = 0 then K (iI (x : Nat)) (iI (x : Nat) + 1) o.2 else K y2 (iI (x : Nat) + 1) o.2) := by
    have run : ∀ (d j g : Nat) (s : Nat → Int32), j + d = c.n → d < g → MRow ((c.wc 0).wp (fun i => c.p i || (x.testBit i && decide (i < j)))) s → ∃ o, (∃ q', o = (q', q') ∧ MRow (days ((c.wc 0).wp (un c.p x)) k) q') ∧ (S_MD_fewestProps_L68 K (iI (k : Nat)) y2 (iI (x : Nat)) q g (iI (j : Nat)) s) = (if o.1 4 = 0 then K (iI (x : Nat)) (iI (x : Nat) + 1) o.2 else K y2 (iI (x : Nat) + 1) o.2) := by
      intro d
      induction d with
      | zero =>
        intro j g s hj hg hs
        obtain ⟨g, rfl⟩ : ∃ m, g = m + 1 := ⟨g - 1, by omega⟩
        obtain rfl : j = c.n := by omega
        have hs2 : MRow ((c.wc 0).wp (un c.p x)) s := hs.ext rfl rfl rfl rfl rfl (fun i hi => ⟨rfl, rfl, rfl, by
          have hi : i < c.n := hi
          show (c.p i || (x.testBit i && decide (i < c.n))) = un c.p x i
          simp [hi, un]⟩)
        have hO2 : Ok ((c.wc 0).wp (un c.p x)) := ⟨hO.1, hO.2.1, hO.2.2.1, Nat.zero_le _⟩
        obtain ⟨q', d1, d2⟩ := m_days hO2 (n := k) (by show c.dy + k < 100000; omega) (by omega) hs2
        refine ⟨(q', q'), ⟨q', rfl, d2⟩, ?_⟩
        rw [S_MD_fewestProps_L68, e0, if_pos (le_yes (by omega) (by omega) (Nat.le_refl _)), d1, o_b]
        rfl
      | succ d ih =>
        intro j g s hj hg hs
        obtain ⟨g, rfl⟩ : ∃ m, g = m + 1 := ⟨g - 1, by omega⟩
        have hj8 : j < 8 := by omega
        rw [S_MD_fewestProps_L68, e0, if_neg (le_no (by omega) (by omega) (show j < c.n by omega)), m_hasN (show x < 256 by omega) hj8, c_3, of_n3 hj8, if_neg (show ¬ (S_MD_of (iI (j : Nat)) (iI 3) < 0 ∨ 37 ≤ 8 + 4 * j) by rw [c_0, of_g3 hj8]; exact id), iI_S]
        cases hb : x.testBit j with
        | true =>
          rw [if_neg (by decide)]
          refine ih (j + 1) g _ (by omega) (by omega) ((prop_row hs j).ext rfl rfl rfl rfl rfl (fun i hi => ⟨rfl, rfl, rfl, ?_⟩))
          show (if i = j then true else (c.p i || (x.testBit i && decide (i < j)))) = (c.p i || (x.testBit i && decide (i < j + 1)))
          by_cases hij : i = j
          · subst hij
            simp [hb]
          · have e : decide (i < j + 1) = decide (i < j) := decide_eq_decide.mpr (by omega)
            rw [if_neg hij, e]
        | false =>
          rw [if_pos (by decide)]
          refine ih (j + 1) g _ (by omega) (by omega) (hs.ext rfl rfl rfl rfl rfl (fun i hi => ⟨rfl, rfl, rfl, ?_⟩))
          show (c.p i || (x.testBit i && decide (i < j))) = (c.p i || (x.testBit i && decide (i < j + 1)))
          by_cases hij : i = j
          · subst hij
            simp [hb]
          · have e : decide (i < j + 1) = decide (i < j) := decide_eq_decide.mpr (by omega)
            rw [e]
    exact run c.n 0 lfu _ (by omega) (by unfold lfu; omega) (((hq.cp hn m2).set4 0).ext rfl rfl rfl rfl rfl (fun i hi => ⟨rfl, rfl, rfl, by
      show c.p i = (c.p i || (x.testBit i && decide (i < 0)))
      simp⟩))
  obtain ⟨o, ⟨q', rfl, k1⟩, k2⟩ := key
  have k3 : S_MD_fewestProps_J47 K (iI (k : Nat)) y2 (iI (x : Nat)) q qm = (if q' 4 = 0 then K (iI (x : Nat)) (iI (x : Nat) + 1) q' else K y2 (iI (x : Nat) + 1) q') := by
    unfold S_MD_fewestProps_J47
    rw [m1, o_b]
    exact k2
  have k4 : (q' 4 = 0) = Gd c k x := by
    have b4 := (k1.2.2.2.2.1)
    have hO2 : Ok ((c.wc 0).wp (un c.p x)) := ⟨hO.1, hO.2.1, hO.2.2.1, Nat.zero_le _⟩
    have b5 := (hO2.days k).2.2.2
    rw [b4, c_0, iI_eq (by omega) (by omega) (by omega) (by omega)]
    have z := cr_zero ((c.wc 0).wp (un c.p x)) rfl k
    have e : (((days ((c.wc 0).wp (un c.p x)) k).cr : Int) = 0) = ((days ((c.wc 0).wp (un c.p x)) k).cr = 0) := propext (by omega)
    rw [e, z]
    unfold Gd
    apply propext
    constructor
    · intro y j hj
      rw [← crash_wc _ 0 j]
      exact y j hj
    · intro y j hj
      have := y j hj
      rw [← crash_wc _ 0 j] at this
      exact this
  refine ⟨q', fun y => ?_, fun y => ?_⟩
  · rw [k3, if_pos (by rw [k4]; exact y), iI_S]
  · rw [k3, if_neg (by rw [k4]; exact y), iI_S]
/-- the reference's finding: a least among the smallest -/
theorem m_fewest {c : MC} (hO : Ok c) {q : Nat → Int32} (hq : MRow c q) {k : Nat} (hk : k ≤ 30) (hd : c.dy ≤ 999) (qm : Nat → Int32) : ∃ o, S_MD_fewestProps_L17 (iI (k : Nat)) q lfu (-4) 0 qm = some o ∧ ((o.1 = iI (-4) ∧ ∀ y, y < 2 ^ c.n → ¬ Gd c k y) ∨ ∃ v : Nat, v < 2 ^ c.n ∧ o.1 = iI v ∧ Gd c k v ∧ ∀ y, y < 2 ^ c.n → Gd c k y → pc v < pc y ∨ pc v = pc y ∧ v ≤ y) := by
  have hn := hO.1.1
  have hp := pw_b hn
  have e0 : q (0 : Int32).toNatClampNeg = iI c.n := hq.1
  have es := b_shl c.n (by omega)
  rw [← c_1, ← c_31] at es
  refine for_i (fun g x (s : Int32 × (Nat → Int32)) => S_MD_fewestProps_L17 (iI (k : Nat)) q g s.1 (iI x) s.2) (fun x s => (s.1 = iI (-4) ∧ ∀ y, y < x → ¬ Gd c k y) ∨ ∃ v : Nat, v < x ∧ s.1 = iI v ∧ Gd c k v ∧ ∀ y, y < x → Gd c k y → pc v < pc y ∨ pc v = pc y ∧ v ≤ y) _ (2 ^ c.n) (fun g x s hx hI kk => ?_) (fun g s hI => ?_) lfu ((-4), qm) (by unfold lfu; omega) (Or.inl ⟨(show (-4 : Int32) = iI (-4) by decide), fun y h => absurd h (Nat.not_lt_zero _)⟩)
  · obtain ⟨s1, s2⟩ := s
    dsimp only at hI ⊢
    rw [S_MD_fewestProps_L17, e0, es, if_neg (le_no (by omega) (by omega) hx)]
    obtain ⟨q', t1, t2⟩ := m_tryS hO hq hk hd hx (S_MD_fewestProps_L17 (iI (k : Nat)) q g) s1 s2
    rcases hI with ⟨rfl, hI⟩ | ⟨v, hv, rfl, hv2, hI⟩
    · rw [if_pos (by decide)]
      by_cases hG : Gd c k x
      · rw [t1 hG]
        exact kk (iI (x : Nat), q') (Or.inr ⟨x, by omega, rfl, hG, fun y hy1 hy2 => by
          by_cases hyx : y = x
          · right; rw [hyx]; omega
          · exact absurd hy2 (hI y (by omega))⟩)
      · rw [t2 hG]
        exact kk (iI (-4), q') (Or.inl ⟨rfl, fun y hy => by
          by_cases hyx : y = x
          · rw [hyx]; exact hG
          · exact hI y (by omega)⟩)
    · have p1 : pc x ≤ 8 := cnt_le _ _
      have p2 : pc v ≤ 8 := cnt_le _ _
      rw [if_neg (show ¬ iI (v : Nat) < 0 by rw [c_0, iI_lt (by omega) (by omega) (by omega) (by omega)]; omega), m_bits (show x < 256 by omega), m_bits (show v < 256 by omega), o_b, o_b, iI_S]
      by_cases hlt : pc x < pc v
      · rw [if_pos (by rw [iI_lt (by omega) (by omega) (by omega) (by omega)]; omega)]
        by_cases hG : Gd c k x
        · rw [t1 hG]
          exact kk (iI (x : Nat), q') (Or.inr ⟨x, by omega, rfl, hG, fun y hy1 hy2 => by
            by_cases hyx : y = x
            · right; rw [hyx]; omega
            · have := hI y (by omega) hy2
              left; omega⟩)
        · rw [t2 hG]
          exact kk (iI (v : Nat), q') (Or.inr ⟨v, by omega, rfl, hv2, fun y hy1 hy2 => by
            by_cases hyx : y = x
            · rw [hyx] at hy2; exact absurd hy2 hG
            · exact hI y (by omega) hy2⟩)
      · rw [if_neg (by rw [iI_lt (by omega) (by omega) (by omega) (by omega)]; omega)]
        exact kk (iI (v : Nat), s2) (Or.inr ⟨v, by omega, rfl, hv2, fun y hy1 hy2 => by
          by_cases hyx : y = x
          · rw [hyx]
            by_cases he : pc v = pc x
            · right; omega
            · left; omega
          · exact hI y (by omega) hy2⟩)
  · obtain ⟨s1, s2⟩ := s
    dsimp only at hI ⊢
    rw [S_MD_fewestProps_L17, e0, es, if_pos (le_yes (by omega) (by omega) (Nat.le_refl _))]
    exact ⟨_, rfl, hI⟩
/-- a set without those propped anyway does as well, and is smaller -/
theorem few_less {c : MC} (hn : c.n ≤ 8) {y : Nat} (hy : y < 2 ^ c.n) (k : Nat) (hG : Gd c k y) : ∃ z, z < 2 ^ c.n ∧ Dj c z ∧ Gd c k z ∧ pc z ≤ pc y ∧ (¬ Dj c y → pc z < pc y) := by
  have hyb : ∀ i, ¬ i < c.n → y.testBit i = false := fun i hi => Nat.testBit_lt_two_pow (Nat.lt_of_lt_of_le hy (Nat.pow_le_pow_right (by omega) (by omega)))
  have ey : y = setOf (fun i => y.testBit i) c.n := by
    apply Nat.eq_of_testBit_eq
    intro j
    rw [setOf_bit]
    by_cases hj : j < c.n
    · simp [hj]
    · simp [hj, hyb j hj]
  have pz : pc (setOf (fun i => y.testBit i && !c.p i) c.n) = cnt (fun i => y.testBit i && !c.p i) c.n := pc_setOf _ hn
  have py : pc y = cnt (fun i => y.testBit i) c.n := by
    have := pc_setOf (fun i => y.testBit i) hn
    rw [← ey] at this
    exact this
  have sb : Sb c.n (fun i => y.testBit i && !c.p i) (fun i => y.testBit i) := fun i _ h => by
    simp only [Bool.and_eq_true] at h
    exact h.1
  refine ⟨setOf (fun i => y.testBit i && !c.p i) c.n, setOf_lt _ _, ?_, ?_, ?_, ?_⟩
  · unfold Dj
    apply Nat.eq_of_testBit_eq
    intro j
    rw [Nat.testBit_and, setOf_bit, setOf_bit, Nat.zero_testBit]
    cases c.p j <;> simp
  · have e : un c.p (setOf (fun i => y.testBit i && !c.p i) c.n) = un c.p y := by
      funext i
      unfold un
      rw [setOf_bit]
      by_cases hi : i < c.n
      · simp only [hi, decide_true, Bool.true_and]
        cases c.p i <;> cases y.testBit i <;> rfl
      · simp [hi, hyb i hi]
    unfold Gd
    rw [e]
    exact hG
  · rw [pz, py]
    exact cnt_sb sb
  · intro hD
    rw [pz, py]
    by_cases h : cnt (fun i => y.testBit i && !c.p i) c.n < cnt (fun i => y.testBit i) c.n
    · exact h
    · exfalso
      have back := cnt_eq_sb sb (by omega)
      apply hD
      unfold Dj
      apply Nat.eq_of_testBit_eq
      intro j
      rw [Nat.testBit_and, setOf_bit, Nat.zero_testBit]
      by_cases hj : j < c.n
      · cases hb : y.testBit j with
        | false => rfl
        | true =>
          have := back j hj hb
          simp only [hb, Bool.true_and] at this
          cases hp : c.p j with
          | false => simp
          | true => rw [hp] at this; exact absurd this (by decide)
      · simp [hj]
theorem op_fewest {c : MC} {S : CS} {q : Nat → Int32} (h : Rl c S q) (x : Int32) (mS : CS) (qm : Nat → Int32) : ∃ r mS' qm', S_PL_fewestProps x S mS = some (r, mS') ∧ S_MD_fewestProps x q qm = some (r, qm') := by
  obtain ⟨hO, hC, hq, hdy⟩ := h
  have hn := hO.1.1
  unfold S_PL_fewestProps S_MD_fewestProps
  rw [c_1, show (30 : Int32) = iI 30 by decide]
  rcases isin_c x (a := 1) (b := 30) (by omega) (by omega) (by omega) (by omega) with ⟨i1, i2, -⟩ | ⟨w, w1, w2, rfl, i1, i2⟩
  · rw [i1, i2, if_pos rfl, if_pos rfl]
    exact ⟨_, _, _, rfl, rfl⟩
  · obtain ⟨k, rfl⟩ : ∃ k : Nat, w = k := ⟨w.toNat, by omega⟩
    rw [i1, i2, if_neg (show ¬ (1 : Int32) = 0 by decide), if_neg (show ¬ (1 : Int32) = 0 by decide)]
    obtain ⟨⟨o1, o2⟩, k1, k2⟩ := s_fewest hO (k := k) (by omega) hdy hC mS
    obtain ⟨⟨p1, p2⟩, m1, m2⟩ := m_fewest hO hq (k := k) (by omega) hdy qm
    dsimp only at k2 m2
    rw [k1, o_b, m1]
    have e : o1 = p1 := by
      rcases m2 with ⟨rfl, m2⟩ | ⟨v, hv, rfl, hv2, m2⟩
      · rcases k2 with ⟨rfl, -⟩ | ⟨w, hw, -, -, hw3, -⟩
        · rfl
        · exact absurd hw3 (m2 w hw)
      · obtain ⟨z, z1, z2, z3, z4, z5⟩ := few_less hn hv k hv2
        have mz := m2 z z1 z3
        have hvD : Dj c v := by
          by_cases hD : Dj c v
          · exact hD
          · have := z5 hD
            omega
        rcases k2 with ⟨rfl, k2⟩ | ⟨w, hw, rfl, hw2, hw3, k2⟩
        · exact absurd hv2 (k2 v hv hvD)
        · have a1 := m2 w hw hw3
          have a2 := k2 v hv hvD hv2
          have : v = w := by omega
          rw [this]
    rw [e]
    exact ⟨_, _, _, rfl, rfl⟩
