/-! push: who is pushed, and how -/
theorem cr_put {c : MC} {S : CS} (h : CR c S) (i : Nat) (v : Int) : CR (c.put i v) (S.1, S.2.1, S.2.2.1, S.2.2.2.1, S.2.2.2.2.1, S.2.2.2.2.2.1, S.2.2.2.2.2.2.1, S.2.2.2.2.2.2.2.1, S.2.2.2.2.2.2.2.2.1, upd S.2.2.2.2.2.2.2.2.2.1 i (iI v), S.2.2.2.2.2.2.2.2.2.2) := by
  obtain ⟨b1, b2, b3, b4, b5, b6, b7⟩ := h
  exact ⟨b1, b2, b3, b4, b5, b6, put_ca b7 i v⟩
theorem s_best {c : MC} {S : CS} {q : Nat → Int32} (hO : Ok c) (hC : CR c S) (hq : MRow c q) (hd : c.dy ≤ 999) {k : Nat} (hk : k ≤ 20) (mS : CS) (qm : Nat → Int32) (b : Int32) : ∃ o p, S_Mind_bestPush_L18 (iI (k : Nat)) S lfu (-4) b 0 mS = some o ∧ S_MD_push_L34 (iI (k : Nat)) q lfu b (-4) 0 qm = some p ∧ o.1 = p.1 := by
  have hn := hO.1.1
  have e0 : q (0 : Int32).toNatClampNeg = iI c.n := hq.1
  have e1 : S.1 = iI c.n := hC.1
  refine for_2 (fun g j (s : Int32 × Int32 × CS) => S_Mind_bestPush_L18 (iI (k : Nat)) S g s.1 s.2.1 (iI j) s.2.2) (fun g j (t : Int32 × Int32 × (Nat → Int32)) => S_MD_push_L34 (iI (k : Nat)) q g t.2.1 t.1 (iI j) t.2.2) (fun _ s t => s.1 = t.1 ∧ s.2.1 = t.2.1) (fun o p => o.1 = p.1) c.n (fun n m j s t hj hI kk => ?_) (fun n m s t hI => ?_) lfu lfu 0 ((-4), b, mS) ((-4), b, qm) (by unfold lfu; omega) (by unfold lfu; omega) (by omega) ⟨rfl, rfl⟩
  · obtain ⟨s1, s2, s3⟩ := s
    obtain ⟨t1, t2, t3⟩ := t
    obtain ⟨h1, h2⟩ := hI
    dsimp only at h1 h2 ⊢
    subst h1 h2
    rw [S_Mind_bestPush_L18, S_MD_push_L34, e1, e0, if_neg (le_no (by omega) (by omega) hj), if_neg (le_no (by omega) (by omega) hj)]
    have z := for_2 (fun g i (s : Int32 × Int32 × CS) => S_Mind_bestPush_L33 (S_Mind_bestPush_L18 (iI (k : Nat)) S n) (iI (k : Nat)) (iI (j : Nat)) S g s.1 s.2.1 (iI i) s.2.2) (fun g i (t : Int32 × Int32 × (Nat → Int32)) => S_MD_push_L49 (S_MD_push_L34 (iI (k : Nat)) q m) (iI (k : Nat)) (iI (j : Nat)) q g t.2.1 t.1 (iI ((i : Nat) - 45 : Int)) t.2.2) (fun _ s t => s.1 = t.1 ∧ s.2.1 = t.2.1) (fun o p => o.1 = p.1) 91 (fun n2 m2 i s t hi hI2 kk2 => by
      obtain ⟨s1, s2, s3⟩ := s
      obtain ⟨t1, t2, t3⟩ := t
      obtain ⟨h1, h2⟩ := hI2
      dsimp only at h1 h2 ⊢
      subst h1 h2
      have hP := put_ok hO (i := j) (v := (i : Nat) - 45) (by omega) (by omega)
      have hCb := cr_put (cr_becomes hn hC s3 s3.2.2.2.2.2.2.1 s3.2.2.2.2.2.2.2.2.2.2) j ((i : Nat) - 45)
      dsimp only at hCb
      obtain ⟨o, k1, k2⟩ := cr_days (c := c.put j ((i : Nat) - 45)) (n := k) hP (by show c.dy + k < 100000; omega) (by omega) hCb
      obtain ⟨q0, m1, m2⟩ := m_copies q t3
      obtain ⟨q', d1, d2⟩ := m_days hP (n := k) (by show c.dy + k < 100000; omega) (by omega) (put_row (hq.cp hn m2) (i := j) ((i : Nat) - 45))
      have hOd := hP.days k
      have u1 := up_c hOd k2
      have u2 := m_upright hOd.1 d2
      have u3 := up_bc hOd
      have u4 := up_bm hOd
      have b8 := upN_b hOd
      have e9 : iI (i : Nat) - 45 = iI ((i : Nat) - 45 : Int) := by rw [c_45, iI_sub]
      dsimp only at k1 u1
      unfold S_City_becomes at *
      rw [S_Mind_bestPush_L33, S_MD_push_L49, if_neg (show ¬ (91 : Int32) ≤ iI (i : Nat) by rw [c_91, iI_le (by omega) (by omega) (by omega) (by omega)]; omega), if_neg (show ¬ (45 : Int32) < iI ((i : Nat) - 45 : Int) by rw [c_45, iI_lt (by omega) (by omega) (by omega) (by omega)]; omega)]
      unfold S_City_becomes
      rw [o_b]
      dsimp only
      rw [if_neg (g_8 (show j < 8 by omega)), iI_N (show j < 2147483648 by omega), e9, k1, o_b, u1, o_b, m1, o_b, if_neg (g_37 (show j < 8 by omega)), n_37 (show j < 8 by omega), d1, o_b, u2, o_b, u3, u4, o_b]
      repeat rw [o_b]
      rw [u4]
      repeat rw [o_b]
      have ea : iI (i : Nat) + 1 = iI ((i + 1 : Nat) : Int) := iI_S i
      have eb : iI ((i : Nat) - 45 : Int) + 1 = iI (((i + 1 : Nat) : Int) - 45) := by rw [c_1, iI_add]; congr 1; omega
      have ec : (100 : Int32) * iI (j : Nat) + iI ((i : Nat) - 45 : Int) + 45 = (100 : Int32) * iI (j : Nat) + iI (i : Nat) := by rw [c_45, c_100, iI_mul, iI_add, iI_add, iI_add]; congr 1; omega
      rw [ea, eb, ec]
      by_cases hlt : iI (upN (days (c.put j ((i : Nat) - 45)) k) : Nat) ≤ s2
      · rw [if_pos hlt, if_neg (Int32.not_lt.mpr hlt)]
        exact kk2 (s1, s2, _) (s1, s2, _) ⟨rfl, rfl⟩
      · rw [if_neg hlt, if_pos (Int32.not_le.mp hlt)]
        exact kk2 (_, _, _) (_, _, _) ⟨rfl, rfl⟩) (fun n2 m2 s t hI2 => by
      obtain ⟨s1, s2, s3⟩ := s
      obtain ⟨t1, t2, t3⟩ := t
      obtain ⟨h1, h2⟩ := hI2
      dsimp only at h1 h2 ⊢
      subst h1 h2
      rw [S_Mind_bestPush_L33, S_MD_push_L49, if_pos (show (91 : Int32) ≤ iI ((91 : Nat) : Int) by decide), if_pos (show (45 : Int32) < iI (((91 : Nat) : Int) - 45) by decide), iI_S]
      exact kk (s1, s2, s3) (s1, s2, t3) ⟨rfl, rfl⟩) lfu lfu 0 (s1, s2, s3) (s1, s2, t3) (by unfold lfu; omega) (by unfold lfu; omega) (by omega) ⟨rfl, rfl⟩
    exact z
  · obtain ⟨s1, s2, s3⟩ := s
    obtain ⟨t1, t2, t3⟩ := t
    obtain ⟨h1, h2⟩ := hI
    dsimp only at h1 h2 ⊢
    subst h1 h2
    rw [S_Mind_bestPush_L18, S_MD_push_L34, e1, e0, if_pos (le_yes (by omega) (by omega) (Nat.le_refl _)), if_pos (le_yes (by omega) (by omega) (Nat.le_refl _))]
    exact ⟨_, _, rfl, rfl, rfl⟩
theorem op_push {c : MC} {S : CS} {q : Nat → Int32} (h : Rl c S q) (x : Int32) (mS : CS) (qm : Nat → Int32) : ∃ r mS' qm', S_PL_push x S mS = some (r, mS') ∧ S_MD_push x q qm = some (r, qm') := by
  have h0 := h
  obtain ⟨hO, hC, hq, hdy⟩ := h
  have hn := hO.1.1
  unfold S_PL_push S_MD_push
  rw [c_0, c_20]
  rcases isin_c x (a := 0) (b := 20) (by omega) (by omega) (by omega) (by omega) with ⟨i1, i2, -⟩ | ⟨w, w1, w2, rfl, i1, i2⟩
  · rw [i1, i2, if_pos (show (0 : Int32) = iI 0 by decide), if_pos (show (0 : Int32) = iI 0 by decide)]
    exact ⟨_, _, _, rfl, rfl⟩
  · obtain ⟨k, rfl⟩ : ∃ k : Nat, w = k := ⟨w.toNat, by omega⟩
    rw [i1, i2, if_neg (show ¬ (1 : Int32) = iI 0 by decide), if_neg (show ¬ (1 : Int32) = iI 0 by decide)]
    obtain ⟨S', k1, k2⟩ := s_after h0 (n := k) (by omega) mS
    obtain ⟨q', m1, m2⟩ := m_takes h0 (n := k) (by omega) qm
    have hOd := hO.days k
    obtain ⟨⟨o1, o2⟩, ⟨p1, p2⟩, z1, z2, z3⟩ := s_best hO hC hq hdy (k := k) (by omega) S' q' (iI (upN (days c k) : Nat))
    unfold S_Mind_bestPush
    dsimp only at z3
    rw [k1, o_b, up_c hOd k2, o_b, up_bc hOd, m1, o_b, m_upright hOd.1 m2, o_b, up_bm hOd, o_b]
    rw [c_0] at z1 z2
    rw [c_0, z1, z2, o_b, z3]
    exact ⟨_, _, _, rfl, rfl⟩
