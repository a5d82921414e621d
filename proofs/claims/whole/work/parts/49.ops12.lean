/-! still: ten days alike -/
/-- two counted loops side by side -/
theorem for_2 {R T σ τ : Type} (g : Nat → Nat → σ → Option R) (h : Nat → Nat → τ → Option T) (I : Nat → σ → τ → Prop) (Post : R → T → Prop) (k : Nat) (step : ∀ n m j s t, j < k → I j s t → (∀ s' t', I (j + 1) s' t' → ∃ o p, g n (j + 1) s' = some o ∧ h m (j + 1) t' = some p ∧ Post o p) → ∃ o p, g (n + 1) j s = some o ∧ h (m + 1) j t = some p ∧ Post o p) (ex : ∀ n m s t, I k s t → ∃ o p, g (n + 1) k s = some o ∧ h (m + 1) k t = some p ∧ Post o p) : ∀ f e j s t, k < f + j → k < e + j → j ≤ k → I j s t → ∃ o p, g f j s = some o ∧ h e j t = some p ∧ Post o p := by
  have key : ∀ d j f e s t, j + d = k → d < f → d < e → I j s t → ∃ o p, g f j s = some o ∧ h e j t = some p ∧ Post o p := by
    intro d
    induction d with
    | zero =>
      intro j f e s t hj hf he hI
      obtain ⟨m, rfl⟩ : ∃ m, f = m + 1 := ⟨f - 1, by omega⟩
      obtain ⟨n, rfl⟩ : ∃ m, e = m + 1 := ⟨e - 1, by omega⟩
      obtain rfl : j = k := by omega
      exact ex m n s t hI
    | succ d ih =>
      intro j f e s t hj hf he hI
      obtain ⟨m, rfl⟩ : ∃ m, f = m + 1 := ⟨f - 1, by omega⟩
      obtain ⟨n, rfl⟩ : ∃ m, e = m + 1 := ⟨e - 1, by omega⟩
      exact step m n j s t (by omega) hI (fun s' t' hI' => ih (j + 1) m n s' t' (by omega) (by omega) (by omega) hI')
  intro f e j s t hf he hj hI
  exact key (k - j) j f e s t (by omega) (by omega) (by omega) hI
theorem le_no {a b : Nat} (ha : a < 1000000) (hb : b < 1000000) (h : b < a) : ¬ iI (a : Nat) ≤ iI (b : Nat) := fun y => absurd ((iI_le (by omega) (by omega) (by omega) (by omega)).mp y) (by omega)
theorem le_yes {a b : Nat} (ha : a < 1000000) (hb : b < 1000000) (h : a ≤ b) : iI (a : Nat) ≤ iI (b : Nat) := (iI_le (by omega) (by omega) (by omega) (by omega)).mpr (by omega)
theorem g_8 {i : Nat} (h : i < 8) : ¬ (iI (i : Nat) < 0 ∨ 8 ≤ (iI (i : Nat)).toNatClampNeg) := by
  rw [c_0, iI_N (by omega), iI_lt (by omega) (by omega) (by omega) (by omega)]; omega
theorem g_37 {i : Nat} (h : i < 8) : ¬ (S_MD_of (iI (i : Nat)) 2 < 0 ∨ 37 ≤ (S_MD_of (iI (i : Nat)) 2).toNatClampNeg) := by
  rw [c_2, c_0, of_n2 h, of_g2 h]; exact id
theorem n_37 {i : Nat} (h : i < 8) : (S_MD_of (iI (i : Nat)) 2).toNatClampNeg = 7 + 4 * i := by
  rw [c_2, of_n2 h]
theorem iI_S (j : Nat) : iI (j : Nat) + 1 = iI ((j + 1 : Nat) : Int) := by rw [c_1, iI_add]; rfl
def Alk (c : MC) : Prop := ∀ i, i < c.n → a2Of c i = c.a i
theorem a2_ne {c : MC} (h : Ok c) {i : Nat} (hi : i < c.n) : (iI (a2Of c i) = iI (c.a i)) = (a2Of c i = c.a i) := by
  have b1 := a2Of_b h hi
  have b2 := h.1.ab i hi
  exact iI_eq (by omega) (by omega) (by omega) (by omega)
theorem s_alike {c : MC} {S : CS} (hO : Ok c) (hd : c.dy + 1 < 1000000) (hC : CR c S) (w : Nat → Int32) : ∃ o, S_Mind_passesAlike w S = some o ∧ CR (day c) o.2.2 ∧ (o.1 = 1 ∧ Alk c ∨ o.1 = 0 ∧ ¬ Alk c) := by
  have hn := hO.1.1
  obtain ⟨d, k1, -, k2⟩ := cr_day hO hd hC
  unfold S_Mind_passesAlike
  rw [k1, o_b]
  have hc1 := hC.1
  have hL : ∀ i, i < c.n → va_cpy S.2.2.2.2.2.2.2.2.2.1 w (0 : Int32).toNatClampNeg (0 : Int32).toNatClampNeg (8 : Int32).toNatClampNeg i = iI (c.a i) := fun i hi => by
    rw [cpy8 _ _ (by omega)]; exact (hC.2.2.2.2.2.2 i hi).2.2
  have hA : ∀ i, i < c.n → d.2.2.2.2.2 i = iI (a2Of c i) := fun i hi => (k2.2.2.2.2.2.2 i hi).2.2
  refine for_i (fun g j (s : Unit) => S_Mind_passesAlike_L27 (va_cpy S.2.2.2.2.2.2.2.2.2.1 w (0 : Int32).toNatClampNeg (0 : Int32).toNatClampNeg (8 : Int32).toNatClampNeg) (S.1, S.2.1, d.1, d.2.1, d.2.2.1, d.2.2.2.1, d.2.2.2.2.1, S.2.2.2.2.2.2.2.1, S.2.2.2.2.2.2.2.2.1, d.2.2.2.2.2, S.2.2.2.2.2.2.2.2.2.2) g (iI j)) (fun j s => ∀ i, i < j → a2Of c i = c.a i) _ c.n (fun g j s hj hI kk => ?_) (fun g s hI => ?_) lfu () (by unfold lfu; omega) (fun i hi => absurd hi (Nat.not_lt_zero i))
  · show ∃ o, S_Mind_passesAlike_L27 _ _ (g + 1) _ = some o ∧ _
    rw [S_Mind_passesAlike_L27, if_neg (show ¬ S.1 ≤ iI (j : Nat) by rw [hc1]; exact le_no (by omega) (by omega) hj), if_neg (g_8 (by omega)), iI_N (by omega), hL j hj]
    dsimp only
    by_cases he : a2Of c j = c.a j
    · rw [if_pos (show d.2.2.2.2.2 j = iI (c.a j) by rw [hA j hj, he])]
      obtain ⟨o, k3, k4⟩ := kk () (fun i hi => by
        by_cases hij : i = j
        · rw [hij]; exact he
        · exact hI i (by omega))
      refine ⟨o, ?_, k4⟩
      rw [iI_S]
      exact k3
    · rw [if_neg (show ¬ d.2.2.2.2.2 j = iI (c.a j) by rw [hA j hj, a2_ne hO hj]; exact he)]
      exact ⟨_, rfl, k2, Or.inr ⟨rfl, fun y => he (y j hj)⟩⟩
  · show ∃ o, S_Mind_passesAlike_L27 _ _ (g + 1) _ = some o ∧ _
    rw [S_Mind_passesAlike_L27, if_pos (show S.1 ≤ iI (c.n : Nat) by rw [hc1]; exact le_yes (by omega) (by omega) (Nat.le_refl _))]
    exact ⟨_, rfl, k2, Or.inl ⟨rfl, hI⟩⟩
theorem m_moved {c : MC} {q : Nat → Int32} (hO : Ok c) (hd : c.dy + 1 < 1000000) (hq : MRow c q) (w : Nat → Int32) : ∃ o, S_MD_isMoved q w = some o ∧ MRow (day c) o.2.1 ∧ (o.1 = 0 ∧ Alk c ∨ o.1 = 1 ∧ ¬ Alk c) := by
  have hn := hO.1.1
  obtain ⟨w2, m1, m2⟩ := m_copies q w
  obtain ⟨q2, m3, m4⟩ := m_day hO hd hq
  unfold S_MD_isMoved
  rw [m1, o_b, m3, o_b]
  have e0 : q2 (0 : Int32).toNatClampNeg = iI c.n := m4.1
  refine for_i (fun g j (s : Int32) => S_MD_isMoved_L22 q2 w2 g s (iI j)) (fun j s => s = 0 ∧ (∀ i, i < j → a2Of c i = c.a i) ∨ s = 1 ∧ ¬ (∀ i, i < j → a2Of c i = c.a i)) _ c.n (fun g j s hj hI kk => ?_) (fun g s hI => ?_) lfu 0 (by unfold lfu; omega) (Or.inl ⟨rfl, fun i hi => absurd hi (Nat.not_lt_zero i)⟩)
  · have a1 : q2 (7 + 4 * j) = iI (a2Of c j) := (m4.at hj).2.2.1
    have a2 : w2 (7 + 4 * j) = iI (c.a j) := by rw [m2 _ (by omega)]; exact (hq.at hj).2.2.1
    show ∃ o, S_MD_isMoved_L22 _ _ (g + 1) _ _ = some o ∧ _
    rw [S_MD_isMoved_L22, e0, if_neg (le_no (by omega) (by omega) hj), if_neg (g_37 (by omega)), n_37 (by omega), a1, a2]
    by_cases he : a2Of c j = c.a j
    · rw [if_pos (by rw [he])]
      obtain ⟨o, k3, k4⟩ := kk (s ||| 0) (by
        rcases hI with ⟨rfl, y⟩ | ⟨rfl, y⟩
        · refine Or.inl ⟨by decide, fun i hi => ?_⟩
          by_cases hij : i = j
          · rw [hij]; exact he
          · exact y i (by omega)
        · exact Or.inr ⟨by decide, fun z => y (fun i hi => z i (by omega))⟩)
      refine ⟨o, ?_, k4⟩
      rw [iI_S]
      exact k3
    · rw [if_neg (show ¬ iI (a2Of c j) = iI (c.a j) by rw [a2_ne hO hj]; exact he)]
      obtain ⟨o, k3, k4⟩ := kk (s ||| 1) (by
        rcases hI with ⟨rfl, y⟩ | ⟨rfl, y⟩
        · exact Or.inr ⟨by decide, fun z => he (z j (by omega))⟩
        · exact Or.inr ⟨by decide, fun z => he (z j (by omega))⟩)
      refine ⟨o, ?_, k4⟩
      rw [iI_S]
      exact k3
  · show ∃ o, S_MD_isMoved_L22 _ _ (g + 1) _ _ = some o ∧ _
    rw [S_MD_isMoved_L22, e0, if_pos (le_yes (by omega) (by omega) (Nat.le_refl _))]
    rcases hI with ⟨rfl, y⟩ | ⟨rfl, y⟩
    · rw [if_neg (by decide)]
      exact ⟨_, rfl, m4, Or.inl ⟨rfl, y⟩⟩
    · rw [if_neg (by decide)]
      exact ⟨_, rfl, m4, Or.inr ⟨rfl, y⟩⟩
theorem still_l : ∀ (d j f g k : Nat) (c : MC) (S : CS) (q w v : Nat → Int32), j + d = 60 → d < f → d < g → k ≤ 9 → Ok c → c.dy + d < 100000 → CR c S → MRow c q → ∃ r w' S' q' v', S_Mind_daysToStill_L15 f (iI (k : Nat)) (iI ((j + 1 : Nat) : Int)) w S = some (r, w', S') ∧ S_MD_still_L15 g (iI (k : Nat)) (iI (j : Nat)) q v = some (r, q', v') := by
  intro d
  induction d with
  | zero =>
    intro j f g k c S q w v hj hf hg hk hO hd hC hq
    obtain ⟨f, rfl⟩ : ∃ m, f = m + 1 := ⟨f - 1, by omega⟩
    obtain ⟨g, rfl⟩ : ∃ m, g = m + 1 := ⟨g - 1, by omega⟩
    have g1 : (60 : Int32) < iI ((j + 1 : Nat) : Int) := by rw [c_60, iI_lt (by omega) (by omega) (by omega) (by omega)]; omega
    have g2 : (60 : Int32) ≤ iI (j : Nat) := by rw [c_60, iI_le (by omega) (by omega) (by omega) (by omega)]; omega
    rw [S_Mind_daysToStill_L15, S_MD_still_L15, if_pos g1, if_pos g2]
    exact ⟨_, _, _, _, _, rfl, rfl⟩
  | succ d ih =>
    intro j f g k c S q w v hj hf hg hk hO hd hC hq
    obtain ⟨f, rfl⟩ : ∃ m, f = m + 1 := ⟨f - 1, by omega⟩
    obtain ⟨g, rfl⟩ : ∃ m, g = m + 1 := ⟨g - 1, by omega⟩
    have g1 : ¬ (60 : Int32) < iI ((j + 1 : Nat) : Int) := by rw [c_60, iI_lt (by omega) (by omega) (by omega) (by omega)]; omega
    have g2 : ¬ (60 : Int32) ≤ iI (j : Nat) := by rw [c_60, iI_le (by omega) (by omega) (by omega) (by omega)]; omega
    obtain ⟨⟨o1, o2, o3⟩, k1, k2, k3⟩ := s_alike hO (by omega) hC w
    obtain ⟨⟨p1, p2, p3⟩, m1, m2, m3⟩ := m_moved hO (by omega) hq v
    rw [S_Mind_daysToStill_L15, S_MD_still_L15, if_neg g1, if_neg g2, k1, o_b, m1, o_b, iI_S, iI_S, iI_S]
    dsimp only at k2 k3 m2 m3 ⊢
    by_cases hA : Alk c
    · obtain ⟨rfl, -⟩ : o1 = 1 ∧ Alk c := k3.resolve_right (fun y => y.2 hA)
      obtain ⟨rfl, -⟩ : p1 = 0 ∧ Alk c := m3.resolve_right (fun y => y.2 hA)
      rw [if_neg (show ¬ (1 : Int32) = 0 by decide), if_pos (show (0 : Int32) = 0 from rfl)]
      by_cases h10 : k = 9
      · subst h10
        rw [if_pos (show iI ((9 + 1 : Nat) : Int) = 10 by decide), if_pos (show iI ((9 + 1 : Nat) : Int) = 10 by decide)]
        rw [show iI (j : Nat) - 9 = iI ((j + 1 : Nat) : Int) - 10 by rw [show (9 : Int32) = iI 9 by decide, show (10 : Int32) = iI 10 by decide, iI_sub, iI_sub]; congr 1; omega]
        exact ⟨_, _, _, _, _, rfl, rfl⟩
      · have g3 : ¬ iI ((k + 1 : Nat) : Int) = 10 := by
          rw [show (10 : Int32) = iI 10 by decide, iI_eq (by omega) (by omega) (by omega) (by omega)]; omega
        rw [if_neg g3, if_neg g3]
        exact ih (j + 1) f g (k + 1) (day c) _ _ _ _ (by omega) (by omega) (by omega) (by omega) hO.day (by show c.dy + 1 + d < 100000; omega) k2 m2
    · obtain ⟨rfl, -⟩ : o1 = 0 ∧ ¬ Alk c := k3.resolve_left (fun y => hA y.2)
      obtain ⟨rfl, -⟩ : p1 = 1 ∧ ¬ Alk c := m3.resolve_left (fun y => hA y.2)
      rw [if_pos (show (0 : Int32) = 0 from rfl), if_neg (show ¬ (1 : Int32) = 0 by decide)]
      exact ih (j + 1) f g 0 (day c) _ _ _ _ (by omega) (by omega) (by omega) (by omega) hO.day (by show c.dy + 1 + d < 100000; omega) k2 m2
theorem cr_becomes {c : MC} {S : CS} (hn : c.n ≤ 8) (h : CR c S) (mS : CS) (cT : Int32) (se : Nat → Int32) : CR c (S.1, S.2.1, S.2.2.1, S.2.2.2.1, S.2.2.2.2.1, S.2.2.2.2.2.1, cT, va_cpy S.2.2.2.2.2.2.2.1 mS.2.2.2.2.2.2.2.1 (0 : Int32).toNatClampNeg (0 : Int32).toNatClampNeg (8 : Int32).toNatClampNeg, va_cpy S.2.2.2.2.2.2.2.2.1 mS.2.2.2.2.2.2.2.2.1 (0 : Int32).toNatClampNeg (0 : Int32).toNatClampNeg (8 : Int32).toNatClampNeg, va_cpy S.2.2.2.2.2.2.2.2.2.1 mS.2.2.2.2.2.2.2.2.2.1 (0 : Int32).toNatClampNeg (0 : Int32).toNatClampNeg (8 : Int32).toNatClampNeg, se) :=
  ⟨h.1, h.2.1, h.2.2.1, h.2.2.2.1, h.2.2.2.2.1, h.2.2.2.2.2.1, ca_cpy hn h.2.2.2.2.2.2⟩
theorem op_crash {c : MC} {S : CS} {q : Nat → Int32} (h : Rl c S q) (x : Int32) (mS : CS) (w qm v : Nat → Int32) : ∃ r w' mS' qm' v', S_PL_crash x S w mS = some (r, w', mS') ∧ S_MD_crash x q qm v = some (r, qm', v') := by
  unfold S_PL_crash S_MD_crash
  by_cases h0 : x = 0
  · obtain ⟨r, mS', qm', k1, k2⟩ := crash_0 h mS qm
    rw [if_pos h0, if_pos h0, k1, o_b, k2, o_b]
    exact ⟨_, _, _, _, _, rfl, rfl⟩
  · by_cases h1 : x = 1
    · obtain ⟨hO, hC, hq, hdy⟩ := h
      obtain ⟨q0, m1, m2⟩ := m_copies q qm
      have hn := hO.1.1
      obtain ⟨r, w', S', q', v', k1, k2⟩ := still_l 60 0 lfu lfu 0 c _ q0 w v (by omega) (by unfold lfu; omega) (by unfold lfu; omega) (by omega) hO (by omega) (cr_becomes hn hC mS mS.2.2.2.2.2.2.1 mS.2.2.2.2.2.2.2.2.2.2) (hq.cp hn m2)
      have k3 : S_Mind_daysToStill w S mS = some (r, w', S') := by
        unfold S_Mind_daysToStill S_City_becomes
        rw [o_b]
        exact k1
      have k4 : S_MD_still q qm v = some (r, q', v') := by
        unfold S_MD_still
        rw [m1, o_b]
        exact k2
      rw [if_neg h0, if_pos h1, if_neg h0, if_pos h1, k3, o_b, k4, o_b]
      exact ⟨_, _, _, _, _, rfl, rfl⟩
    · rw [if_neg h0, if_neg h1, if_neg h0, if_neg h1]
      exact ⟨_, _, _, _, _, rfl, rfl⟩
