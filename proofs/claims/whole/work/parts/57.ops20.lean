/-! what rows tell: whatIs -/
def agr (el : Nat → Int32) (s : Nat) (v : Int32) (j : Nat) : Bool := decide (el j = v ∨ el j = S_MD_leastOf (iI (s : Nat)))
theorem agr_s (el : Nat → Int32) (s : Nat) (v : Int32) {j : Nat} (hj : j < 100) : S_Shelf_agrees (iI (j : Nat)) v (iI (s : Nat)) el = some (if agr el s v j then 1 else 0) := by
  unfold S_Shelf_agrees agr
  rw [if_neg (g_100 hj), iI_N (by omega), show S_Shelf_leastOfSort (iI (s : Nat)) = S_MD_leastOf (iI (s : Nat)) from rfl]
  by_cases h1 : el j = v
  · rw [if_pos h1]
    simp [h1]
  · rw [if_neg h1]
    by_cases h2 : el j = S_MD_leastOf (iI (s : Nat))
    · rw [if_pos h2]
      simp [h2]
    · rw [if_neg h2]
      simp [h1, h2]
theorem agr_m {el Q E : Nat → Int32} {d s : Nat} (hd : d < 8) (hQ : Q d = iI (s : Nat)) (hE : ∀ i, i < 100 → E (100 * d + i) = el i) (v : Int32) {j : Nat} (hj : j < 100) : S_MD_isTold (iI (d : Nat)) (iI (j : Nat)) v Q E = some (if agr el s v j then 1 else 0) := by
  unfold S_MD_isTold agr
  rw [if_neg (g_800 hd hj), if_neg (g_8 hd), n_800 hd hj, iI_N (by omega), hQ, hE j hj]
  by_cases h1 : el j = v
  · by_cases h2 : el j = S_MD_leastOf (iI (s : Nat))
    · rw [if_pos h2]
      simp [h2]
    · rw [if_neg h2, if_pos h1]
      simp [h1]
  · by_cases h2 : el j = S_MD_leastOf (iI (s : Nat))
    · rw [if_pos h2]
      simp [h2]
    · rw [if_neg h2, if_neg h1]
      simp [h1, h2]
def Told (el : Nat → Int32) (s : Nat) (f : Nat → Int32) (z : Nat) : Prop := ∀ j, j < z → agr el s (f j) j = true
def leanOn (d : MC) (i j : Nat) : Int32 := iI ((days d j).a i)
theorem s_told {d : MC} {T : CS} (hO : Ok d) (hd : d.dy ≤ 999) {i : Nat} (hi : i < d.n) (hC : CR d T) (el : Nat → Int32) (s : Nat) {z : Nat} (hz : z ≤ 100) : ∃ o, S_Mind_leansAsTold (iI (i : Nat)) T (iI (s : Nat)) (iI (z : Nat)) el = some o ∧ (o.1 = 1 ∧ Told el s (leanOn d i) z ∨ o.1 = 0 ∧ ¬ Told el s (leanOn d i) z) := by
  have hn := hO.1.1
  unfold S_Mind_leansAsTold
  refine for_i (fun g j (m : CS) => S_Mind_leansAsTold_L2 (iI (i : Nat)) (iI (s : Nat)) (iI (z : Nat)) el g (iI j) m) (fun j m => CR (days d j) m ∧ Told el s (leanOn d i) j) _ z (fun g j m hj hI kk => ?_) (fun g m hI => ?_) lfu T (by unfold lfu; omega) ⟨hC, fun j hj => absurd hj (Nat.not_lt_zero j)⟩
  · obtain ⟨h1, h2⟩ := hI
    show ∃ o, S_Mind_leansAsTold_L2 _ _ _ _ (g + 1) _ _ = some o ∧ _
    have e : m.2.2.2.2.2.2.2.2.2.1 i = leanOn d i j := (h1.2.2.2.2.2.2 i (by rw [days_n]; exact hi)).2.2
    rw [S_Mind_leansAsTold_L2, if_neg (le_no (by omega) (by omega) hj), if_neg (g_8 (by omega)), iI_N (show i < 2147483648 by omega), e, agr_s el s _ (show j < 100 by omega), o_b]
    obtain ⟨o, k1, -, k2⟩ := cr_day (hO.days j) (by rw [days_dy]; omega) h1
    cases ha : agr el s (leanOn d i j) j with
    | true =>
      rw [if_neg (by decide), k1, o_b, iI_S]
      exact kk _ ⟨k2, fun x hx => by
        by_cases hxj : x = j
        · rw [hxj]; exact ha
        · exact h2 x (by omega)⟩
    | false =>
      rw [if_pos (by decide)]
      exact ⟨_, rfl, Or.inr ⟨rfl, fun y => by rw [y j hj] at ha; exact absurd ha (by decide)⟩⟩
  · show ∃ o, S_Mind_leansAsTold_L2 _ _ _ _ (g + 1) _ _ = some o ∧ _
    rw [S_Mind_leansAsTold_L2, if_pos (le_yes (by omega) (by omega) (Nat.le_refl _))]
    exact ⟨_, rfl, Or.inl ⟨rfl, hI.2⟩⟩
theorem m_told {d : MC} {q : Nat → Int32} (hO : Ok d) (hd : d.dy ≤ 999) {i : Nat} (hi : i < d.n) (hq : MRow d q) {w s z : Nat} (hw : w < 8) (hz : z ≤ 100) {el Q Z E : Nat → Int32} (hQ : Q w = iI (s : Nat)) (hZ : Z w = iI (z : Nat)) (hE : ∀ i, i < 100 → E (100 * w + i) = el i) (K : Int32 → Int32 → (Nat → Int32) → Option (Int32 × (Nat → Int32))) (y5 y6 : Int32) : ∃ q', (Told el s (leanOn d i) z → S_MD_whatIs_L86 K (iI (w : Nat)) (iI (i : Nat)) y5 y6 Q Z E lfu 1 0 q = K (y5 ||| ((1 : Int32) <<< (y6 &&& 31))) (y6 + 1) q') ∧ (¬ Told el s (leanOn d i) z → S_MD_whatIs_L86 K (iI (w : Nat)) (iI (i : Nat)) y5 y6 Q Z E lfu 1 0 q = K (y5 ||| 0) (y6 + 1) q') := by
  have hn := hO.1.1
  have run : ∀ (r j g : Nat) (b : Int32) (m : Nat → Int32), j + r = z → r < g → MRow (days d j) m → (b = 1 ∧ Told el s (leanOn d i) j ∨ b = 0 ∧ ¬ Told el s (leanOn d i) j) → ∃ q', (Told el s (leanOn d i) z → S_MD_whatIs_L86 K (iI (w : Nat)) (iI (i : Nat)) y5 y6 Q Z E g b (iI (j : Nat)) m = K (y5 ||| ((1 : Int32) <<< (y6 &&& 31))) (y6 + 1) q') ∧ (¬ Told el s (leanOn d i) z → S_MD_whatIs_L86 K (iI (w : Nat)) (iI (i : Nat)) y5 y6 Q Z E g b (iI (j : Nat)) m = K (y5 ||| 0) (y6 + 1) q') := by
    intro r
    induction r with
    | zero =>
      intro j g b m hj hg hm hb
      obtain ⟨g, rfl⟩ : ∃ m, g = m + 1 := ⟨g - 1, by omega⟩
      obtain rfl : j = z := by omega
      refine ⟨m, fun y => ?_, fun y => ?_⟩
      · obtain ⟨rfl, -⟩ : b = 1 ∧ _ := hb.resolve_right (fun x => x.2 y)
        rw [S_MD_whatIs_L86, if_neg (g_8 hw), iI_N (show w < 2147483648 by omega), hZ, if_pos (le_yes (by omega) (by omega) (Nat.le_refl _)), if_neg (by decide)]
      · obtain ⟨rfl, -⟩ : b = 0 ∧ _ := hb.resolve_left (fun x => y x.2)
        rw [S_MD_whatIs_L86, if_neg (g_8 hw), iI_N (show w < 2147483648 by omega), hZ, if_pos (le_yes (by omega) (by omega) (Nat.le_refl _)), if_pos rfl]
    | succ r ih =>
      intro j g b m hj hg hm hb
      obtain ⟨g, rfl⟩ : ∃ m, g = m + 1 := ⟨g - 1, by omega⟩
      obtain ⟨m', d1, d2⟩ := m_day (hO.days j) (by rw [days_dy]; omega) hm
      have e : m (7 + 4 * i) = leanOn d i j := (hm.at (by rw [days_n]; exact hi)).2.2.1
      rw [S_MD_whatIs_L86, if_neg (g_8 hw), iI_N (show w < 2147483648 by omega), hZ, if_neg (le_no (by omega) (by omega) (show j < z by omega)), if_neg (g_37 (show i < 8 by omega)), n_37 (show i < 8 by omega), e, agr_m hw hQ hE _ (show j < 100 by omega), o_b, d1, o_b, iI_S]
      refine ih (j + 1) g _ m' (by omega) (by omega) d2 ?_
      cases ha : agr el s (leanOn d i j) j with
      | true =>
        rcases hb with ⟨rfl, hb⟩ | ⟨rfl, hb⟩
        · exact Or.inl ⟨by decide, fun x hx => by
            by_cases hxj : x = j
            · rw [hxj]; exact ha
            · exact hb x (by omega)⟩
        · exact Or.inr ⟨by decide, fun y => hb (fun x hx => y x (by omega))⟩
      | false =>
        have no : ¬ Told el s (leanOn d i) (j + 1) := fun y => by rw [y j (by omega)] at ha; exact absurd ha (by decide)
        rcases hb with ⟨rfl, hb⟩ | ⟨rfl, hb⟩
        · exact Or.inr ⟨by decide, no⟩
        · exact Or.inr ⟨by decide, no⟩
  exact run z 0 lfu 1 q (by omega) (by unfold lfu; omega) hq (Or.inl ⟨rfl, fun j hj => absurd hj (Nat.not_lt_zero j)⟩)
/-- another kind, another figure for man i -/
def MC.wk (c : MC) (i k : Nat) : MC := (c.n, (fun j => if j = i then k else c.k j), c.f, c.a, c.p, c.pl, c.sw, c.cr, c.dy)
def MC.wf (c : MC) (i f : Nat) : MC := (c.n, c.k, (fun j => if j = i then f else c.f j), c.a, c.p, c.pl, c.sw, c.cr, c.dy)
theorem wk_ok {c : MC} (h : Ok c) (i : Nat) {k : Nat} (hk : k < 8) : Ok (c.wk i k) := by
  refine ⟨⟨h.1.1, fun j hj => ⟨?_, (h.1.2 j hj).2⟩⟩, h.2⟩
  show (if j = i then k else c.k j) < 8
  split
  · exact hk
  · exact (h.1.2 j hj).1
theorem wf_ok {c : MC} (h : Ok c) (i : Nat) {f : Nat} (hf : f ≤ 9) : Ok (c.wf i f) := by
  refine ⟨⟨h.1.1, fun j hj => ⟨(h.1.2 j hj).1, ?_, (h.1.2 j hj).2.2⟩⟩, h.2⟩
  show (if j = i then f else c.f j) ≤ 9
  split
  · exact hf
  · exact (h.1.2 j hj).2.1
theorem wk_ca {n : Nat} {k f : Nat → Nat} {a : Nat → Int} {kind figure lean : Nat → Int32} (h : CA n k f a kind figure lean) (i v : Nat) : CA n (fun j => if j = i then v else k j) f a (upd kind i (iI (v : Nat))) figure lean := by
  intro j hj
  obtain ⟨h1, h2, h3⟩ := h j hj
  refine ⟨?_, h2, h3⟩
  by_cases hij : j = i
  · subst hij; rw [upd_same]; simp
  · rw [upd_ne _ _ hij, h1]; simp [hij]
theorem wf_ca {n : Nat} {k f : Nat → Nat} {a : Nat → Int} {kind figure lean : Nat → Int32} (h : CA n k f a kind figure lean) (i v : Nat) : CA n k (fun j => if j = i then v else f j) a kind (upd figure i (iI (v : Nat))) lean := by
  intro j hj
  obtain ⟨h1, h2, h3⟩ := h j hj
  refine ⟨h1, ?_, h3⟩
  by_cases hij : j = i
  · subst hij; rw [upd_same]; simp
  · rw [upd_ne _ _ hij, h2]; simp [hij]
theorem wk_row {c : MC} {q : Nat → Int32} (hq : MRow c q) (i v : Nat) : MRow (c.wk i v) (upd q (5 + 4 * i) (iI (v : Nat))) := by
  obtain ⟨h0, h1, h2, h3, h4, h5⟩ := hq
  refine ⟨by rw [upd_ne _ _ (by omega)]; exact h0, by rw [upd_ne _ _ (by omega)]; exact h1, by rw [upd_ne _ _ (by omega)]; exact h2, by rw [upd_ne _ _ (by omega)]; exact h3, by rw [upd_ne _ _ (by omega)]; exact h4, fun j hj => ?_⟩
  obtain ⟨a1, a2, a3, a4⟩ := h5 j hj
  rw [upd_ne (k := 5 + 4 * i) (j := 6 + 4 * j) _ _ (by omega), upd_ne (k := 5 + 4 * i) (j := 7 + 4 * j) _ _ (by omega), upd_ne (k := 5 + 4 * i) (j := 8 + 4 * j) _ _ (by omega)]
  refine ⟨?_, a2, a3, a4⟩
  show _ = iI ((if j = i then v else c.k j : Nat) : Int)
  by_cases hij : j = i
  · subst hij
    rw [upd_same, if_pos rfl]
  · rw [upd_ne _ _ (by omega), a1, if_neg hij]
theorem wf_row {c : MC} {q : Nat → Int32} (hq : MRow c q) (i v : Nat) : MRow (c.wf i v) (upd q (6 + 4 * i) (iI (v : Nat))) := by
  obtain ⟨h0, h1, h2, h3, h4, h5⟩ := hq
  refine ⟨by rw [upd_ne _ _ (by omega)]; exact h0, by rw [upd_ne _ _ (by omega)]; exact h1, by rw [upd_ne _ _ (by omega)]; exact h2, by rw [upd_ne _ _ (by omega)]; exact h3, by rw [upd_ne _ _ (by omega)]; exact h4, fun j hj => ?_⟩
  obtain ⟨a1, a2, a3, a4⟩ := h5 j hj
  rw [upd_ne (k := 6 + 4 * i) (j := 5 + 4 * j) _ _ (by omega), upd_ne (k := 6 + 4 * i) (j := 7 + 4 * j) _ _ (by omega), upd_ne (k := 6 + 4 * i) (j := 8 + 4 * j) _ _ (by omega)]
  refine ⟨a1, ?_, a3, a4⟩
  show _ = iI ((if j = i then v else c.f j : Nat) : Int)
  by_cases hij : j = i
  · subst hij
    rw [upd_same, if_pos rfl]
  · rw [upd_ne _ _ (by omega), a2, if_neg hij]
theorem cr_wk {c : MC} {S : CS} (h : CR c S) (i v : Nat) : CR (c.wk i v) (S.1, S.2.1, S.2.2.1, S.2.2.2.1, S.2.2.2.2.1, S.2.2.2.2.2.1, S.2.2.2.2.2.2.1, upd S.2.2.2.2.2.2.2.1 i (iI (v : Nat)), S.2.2.2.2.2.2.2.2.1, S.2.2.2.2.2.2.2.2.2.1, S.2.2.2.2.2.2.2.2.2.2) := by
  obtain ⟨b1, b2, b3, b4, b5, b6, b7⟩ := h
  exact ⟨b1, b2, b3, b4, b5, b6, wk_ca b7 i v⟩
theorem cr_wf {c : MC} {S : CS} (h : CR c S) (i v : Nat) : CR (c.wf i v) (S.1, S.2.1, S.2.2.1, S.2.2.2.1, S.2.2.2.2.1, S.2.2.2.2.2.1, S.2.2.2.2.2.2.1, S.2.2.2.2.2.2.2.1, upd S.2.2.2.2.2.2.2.2.1 i (iI (v : Nat)), S.2.2.2.2.2.2.2.2.2.1, S.2.2.2.2.2.2.2.2.2.2) := by
  obtain ⟨b1, b2, b3, b4, b5, b6, b7⟩ := h
  exact ⟨b1, b2, b3, b4, b5, b6, wf_ca b7 i v⟩
theorem b_sh10 : ∀ j, j < 10 → ((1 : Int32) <<< (iI (j : Nat) &&& 31)) = iI ((2 ^ j : Nat)) := by decide +kernel
theorem did_k {c : MC} {S : CS} {q : Nat → Int32} (hO : Ok c) (hC : CR c S) (hq : MRow c q) (hdy : c.dy ≤ 999) {i : Nat} (hi : i < c.n) {w s z : Nat} (hw : w < 8) (hz : z ≤ 100) {el Q Z E : Nat → Int32} (hQ : Q w = iI (s : Nat)) (hZ : Z w = iI (z : Nat)) (hE : ∀ i, i < 100 → E (100 * w + i) = el i) (mS : CS) (qm : Nat → Int32) : ∃ o p, S_Mind_kindsThatDid (iI (i : Nat)) S mS (iI (s : Nat)) (iI (z : Nat)) el = some o ∧ S_MD_whatIs_L41 (iI (w : Nat)) (iI (i : Nat)) 0 q Q Z E lfu 0 0 qm = some p ∧ o.1 = p.1 := by
  have hn := hO.1.1
  unfold S_Mind_kindsThatDid
  refine for_2 (fun g j (t : Int32 × CS) => S_Mind_kindsThatDid_L5 (iI (i : Nat)) S (iI (s : Nat)) (iI (z : Nat)) el g t.1 (iI j) t.2) (fun g j (t : Int32 × (Nat → Int32)) => S_MD_whatIs_L41 (iI (w : Nat)) (iI (i : Nat)) 0 q Q Z E g t.1 (iI j) t.2) (fun _ s t => s.1 = t.1 ∧ ∃ v : Nat, s.1 = iI v) (fun o p => o.1 = p.1) 8 (fun n m j s t hj hI kk => ?_) (fun n m s t hI => ?_) lfu lfu 0 (0, mS) (0, qm) (by unfold lfu; omega) (by unfold lfu; omega) (by omega) ⟨rfl, 0, (show (0 : Int32) = iI ((0 : Nat) : Int) by decide)⟩
  · obtain ⟨s1, s2⟩ := s
    obtain ⟨t1, t2⟩ := t
    obtain ⟨h1, v, h2⟩ := hI
    dsimp only at h1 h2 ⊢
    subst h1 h2
    have hCb := cr_wk (cr_becomes hn hC s2 s2.2.2.2.2.2.2.1 s2.2.2.2.2.2.2.2.2.2.2) i j
    dsimp only at hCb
    obtain ⟨q0, m1, m2⟩ := m_copies q t2
    obtain ⟨⟨o1, o2⟩, k1, k2⟩ := s_told (d := c.wk i j) (wk_ok hO i hj) hdy hi hCb el s hz
    obtain ⟨q', t5, t6⟩ := m_told (d := c.wk i j) (wk_ok hO i hj) hdy hi (wk_row (hq.cp hn m2) i j) hw hz hQ hZ hE (S_MD_whatIs_L41 (iI (w : Nat)) (iI (i : Nat)) 0 q Q Z E m) (iI (v : Nat)) (iI (j : Nat))
    dsimp only at k2
    unfold S_City_becomes at *
    rw [S_Mind_kindsThatDid_L5, S_MD_whatIs_L41, if_neg (show ¬ (8 : Int32) ≤ iI (j : Nat) by rw [c_8, iI_le (by omega) (by omega) (by omega) (by omega)]; omega), if_pos rfl]
    unfold S_MD_whatIs_J54 S_City_becomes
    rw [if_neg (show ¬ (8 : Int32) ≤ iI (j : Nat) by rw [c_8, iI_le (by omega) (by omega) (by omega) (by omega)]; omega), o_b]
    dsimp only
    rw [if_neg (g_8 (show i < 8 by omega)), iI_N (show i < 2147483648 by omega), k1, o_b, m1, o_b, c_0, of_n0 (show i < 8 by omega), if_neg (show ¬ (S_MD_of (iI (i : Nat)) (iI 0) < iI 0 ∨ 37 ≤ 5 + 4 * i) by rw [of_g0 (show i < 8 by omega)]; exact id), ← c_0]
    rcases k2 with ⟨rfl, k2⟩ | ⟨rfl, k2⟩
    · dsimp only
      rw [t5 k2, if_neg (show ¬ (1 : Int32) = 0 by decide), b_sh10 j (by omega), b_orr, iI_S]
      exact kk (_, _) (_, _) ⟨rfl, _, rfl⟩
    · dsimp only
      rw [t6 k2, if_pos rfl, c_0, or_0, iI_S]
      exact kk (_, _) (_, _) ⟨rfl, _, rfl⟩
  · obtain ⟨s1, s2⟩ := s
    obtain ⟨t1, t2⟩ := t
    obtain ⟨h1, v, h2⟩ := hI
    dsimp only at h1 h2 ⊢
    rw [S_Mind_kindsThatDid_L5, S_MD_whatIs_L41, if_pos (show (8 : Int32) ≤ iI ((8 : Nat) : Int) by decide), if_pos rfl]
    unfold S_MD_whatIs_J54
    rw [if_pos (show (8 : Int32) ≤ iI ((8 : Nat) : Int) by decide)]
    exact ⟨_, _, rfl, rfl, h1⟩
theorem did_f {c : MC} {S : CS} {q : Nat → Int32} (hO : Ok c) (hC : CR c S) (hq : MRow c q) (hdy : c.dy ≤ 999) {i : Nat} (hi : i < c.n) {w s z : Nat} (hw : w < 8) (hz : z ≤ 100) {el Q Z E : Nat → Int32} (hQ : Q w = iI (s : Nat)) (hZ : Z w = iI (z : Nat)) (hE : ∀ i, i < 100 → E (100 * w + i) = el i) (mS : CS) (qm : Nat → Int32) : ∃ o p, S_Mind_figuresThatDid (iI (i : Nat)) S mS (iI (s : Nat)) (iI (z : Nat)) el = some o ∧ S_MD_whatIs_L41 (iI (w : Nat)) (iI (i : Nat)) 1 q Q Z E lfu 0 0 qm = some p ∧ o.1 = p.1 := by
  have hn := hO.1.1
  unfold S_Mind_figuresThatDid
  refine for_2 (fun g j (t : Int32 × CS) => S_Mind_figuresThatDid_L5 (iI (i : Nat)) S (iI (s : Nat)) (iI (z : Nat)) el g t.1 (iI j) t.2) (fun g j (t : Int32 × (Nat → Int32)) => S_MD_whatIs_L41 (iI (w : Nat)) (iI (i : Nat)) 1 q Q Z E g t.1 (iI j) t.2) (fun _ s t => s.1 = t.1 ∧ ∃ v : Nat, s.1 = iI v) (fun o p => o.1 = p.1) 10 (fun n m j s t hj hI kk => ?_) (fun n m s t hI => ?_) lfu lfu 0 (0, mS) (0, qm) (by unfold lfu; omega) (by unfold lfu; omega) (by omega) ⟨rfl, 0, (show (0 : Int32) = iI ((0 : Nat) : Int) by decide)⟩
  · obtain ⟨s1, s2⟩ := s
    obtain ⟨t1, t2⟩ := t
    obtain ⟨h1, v, h2⟩ := hI
    dsimp only at h1 h2 ⊢
    subst h1 h2
    have hCb := cr_wf (cr_becomes hn hC s2 s2.2.2.2.2.2.2.1 s2.2.2.2.2.2.2.2.2.2.2) i j
    dsimp only at hCb
    obtain ⟨q0, m1, m2⟩ := m_copies q t2
    obtain ⟨⟨o1, o2⟩, k1, k2⟩ := s_told (d := c.wf i j) (wf_ok hO i (by omega)) hdy hi hCb el s hz
    obtain ⟨q', t5, t6⟩ := m_told (d := c.wf i j) (wf_ok hO i (by omega)) hdy hi (wf_row (hq.cp hn m2) i j) hw hz hQ hZ hE (S_MD_whatIs_L41 (iI (w : Nat)) (iI (i : Nat)) 1 q Q Z E m) (iI (v : Nat)) (iI (j : Nat))
    dsimp only at k2
    unfold S_City_becomes at *
    rw [S_Mind_figuresThatDid_L5, S_MD_whatIs_L41, if_neg (show ¬ (10 : Int32) ≤ iI (j : Nat) by rw [c_10, iI_le (by omega) (by omega) (by omega) (by omega)]; omega), if_neg (show ¬ (1 : Int32) = 0 by decide)]
    unfold S_MD_whatIs_J54 S_City_becomes
    rw [if_neg (show ¬ (10 : Int32) ≤ iI (j : Nat) by rw [c_10, iI_le (by omega) (by omega) (by omega) (by omega)]; omega), o_b]
    dsimp only
    rw [if_neg (g_8 (show i < 8 by omega)), iI_N (show i < 2147483648 by omega), k1, o_b, m1, o_b, show S_MD_of (iI (i : Nat)) 1 = S_MD_of (iI (i : Nat)) (iI 1) by rw [← c_1], c_0, of_n1 (show i < 8 by omega), if_neg (show ¬ (S_MD_of (iI (i : Nat)) (iI 1) < iI 0 ∨ 37 ≤ 6 + 4 * i) by rw [of_g1 (show i < 8 by omega)]; exact id), ← c_0]
    rcases k2 with ⟨rfl, k2⟩ | ⟨rfl, k2⟩
    · dsimp only
      rw [t5 k2, if_neg (show ¬ (1 : Int32) = 0 by decide), b_sh10 j (by omega), b_orr, iI_S]
      exact kk (_, _) (_, _) ⟨rfl, _, rfl⟩
    · dsimp only
      rw [t6 k2, if_pos rfl, c_0, or_0, iI_S]
      exact kk (_, _) (_, _) ⟨rfl, _, rfl⟩
  · obtain ⟨s1, s2⟩ := s
    obtain ⟨t1, t2⟩ := t
    obtain ⟨h1, v, h2⟩ := hI
    dsimp only at h1 h2 ⊢
    rw [S_Mind_figuresThatDid_L5, S_MD_whatIs_L41, if_pos (show (10 : Int32) ≤ iI ((10 : Nat) : Int) by decide), if_neg (show ¬ (1 : Int32) = 0 by decide)]
    unfold S_MD_whatIs_J54
    rw [if_pos (show (10 : Int32) ≤ iI ((10 : Nat) : Int) by decide)]
    exact ⟨_, _, rfl, rfl, h1⟩
theorem op_whatIs {c : MC} {S : CS} {q : Nat → Int32} (h : Rl c S q) (x y u : Int32) {d : Nat} (hx : Is x d) {kd fg so sz he : Int32} {el K KK KF Q Z E : Nat → Int32} (hR : RS kd fg so sz he el d K KK KF Q Z E) (mS : CS) (qm : Nat → Int32) : ∃ r mS' qm', S_PL_whatIs x y u S mS so sz he el = some (r, mS') ∧ S_MD_whatIs x y u q qm K Q Z E = some (r, qm') := by
  obtain ⟨hO, hC, hq, hdy⟩ := h
  have hn := hO.1.1
  obtain ⟨m, hm1, hm2, rfl⟩ := iI_of y
  obtain ⟨r, k1, k2, k3⟩ := ref_row x hx hR
  unfold S_PL_whatIs S_MD_whatIs
  rw [show S.1 = iI c.n from hC.1, has_i hm1 hm2 hn, isMan_i hn hq hm1 hm2, o_b, k1, k2, o_b, o_b]
  by_cases hi : 0 ≤ m ∧ m < c.n
  · obtain ⟨i, rfl⟩ : ∃ i : Nat, m = i := ⟨m.toNat, by omega⟩
    have hin : i < c.n := by omega
    rw [if_pos hi, if_neg (show ¬ (1 : Int32) = 0 by decide), if_neg (show ¬ (1 : Int32) = 0 by decide)]
    rcases isin_c u (a := 0) (b := 1) (by omega) (by omega) (by omega) (by omega) with ⟨i1, i2, -⟩ | ⟨v, w1, w2, rfl, i1, i2⟩
    · rw [show S_PL_isIn u 0 1 = 0 from i1, show S_MD_isIn u 0 1 = 0 from i2, if_pos rfl, if_pos rfl]
      exact ⟨_, _, _, rfl, rfl⟩
    · rw [show S_PL_isIn (iI v) 0 1 = 1 from i1, show S_MD_isIn (iI v) 0 1 = 1 from i2, if_neg (show ¬ (1 : Int32) = 0 by decide), if_neg (show ¬ (1 : Int32) = 0 by decide)]
      rcases k3 with hr | ⟨rfl, rfl, hK, rfl, s, z, a1, a2, rfl, rfl, a5, a6, a7, a8⟩
      · rw [if_neg hr, if_neg hr]
        exact ⟨_, _, _, rfl, rfl⟩
      · have hd := hx.1
        rw [if_pos rfl, if_pos rfl, if_neg (g_8 hd), if_neg (g_8 hd)]
        rcases (show v = 0 ∨ v = 1 by omega) with rfl | rfl
        · obtain ⟨⟨o1, o2⟩, ⟨p1, p2⟩, z1, z2, z3⟩ := did_k hO hC hq hdy hin hd a2 a5 a6 a7 mS qm
          dsimp only at z3
          rw [if_pos (show iI 0 = 0 by decide), z1, o_b, show S_MD_whatIs_L41 (iI (d : Nat)) (iI (i : Nat)) (iI 0) q Q Z E lfu 0 0 qm = _ from z2, z3]
          exact ⟨_, _, _, rfl, rfl⟩
        · obtain ⟨⟨o1, o2⟩, ⟨p1, p2⟩, z1, z2, z3⟩ := did_f hO hC hq hdy hin hd a2 a5 a6 a7 mS qm
          dsimp only at z3
          rw [if_neg (show ¬ iI 1 = 0 by decide), z1, o_b, show S_MD_whatIs_L41 (iI (d : Nat)) (iI (i : Nat)) (iI 1) q Q Z E lfu 0 0 qm = _ from z2, z3]
          exact ⟨_, _, _, rfl, rfl⟩
  · rw [if_neg hi, if_pos rfl, if_pos rfl]
    exact ⟨_, _, _, rfl, rfl⟩
