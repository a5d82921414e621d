/-! a city told: both passes -/
def Form (el : Nat → Int32) (z : Nat) : Nat → Nat → Prop
  | 0, p => p = z
  | k + 1, p => ∃ ch D gs, Stm el z p ch D gs ∧ S_Shelf_faultOfStatement (iI (p : Nat)) (iI (z : Nat)) el = some (-1) ∧ Form el z k (p + D + 2)
theorem len_i {ch D : Nat} (h : LT ch D) : S_Shelf_lengthBy (iI (ch : Nat)) = iI ((D + 2 : Nat) : Int) := by
  rcases h with ⟨rfl, rfl⟩ | ⟨rfl, rfl⟩ | ⟨rfl, rfl⟩ | ⟨rfl, rfl⟩ | ⟨rfl, rfl⟩ <;> decide
theorem neg_1000 {f : Nat} (h : f ≤ 900) : ¬ (-1000 : Int32) - iI (f : Nat) = 0 := by
  rw [show (-1000 : Int32) = iI (-1000) by decide, c_0, iI_sub, iI_eq (by omega) (by omega) (by omega) (by omega)]; omega
theorem neg_2000 {f : Nat} (h : f ≤ 900) : ¬ (-2000 : Int32) - iI (f : Nat) = 0 := by
  rw [show (-2000 : Int32) = iI (-2000) by decide, c_0, iI_sub, iI_eq (by omega) (by omega) (by omega) (by omega)]; omega
theorem pass1 {d z : Nat} (hd : d < 8) (hz : z ≤ 100) {el E : Nat → Int32} (hE : ∀ i, i < 100 → E (100 * d + i) = el i) (hB : ∀ i, i < 100 → By (el i)) (qs qw : Nat → Int32) : ∀ (r p f g y : Nat) (num : Nat → Int32), p + r ≥ z → p ≤ 100 → r < f → r < g → (p < z ∨ p = 0) → (∃ k num', Form el z k p ∧ S_Shelf_faultOfForm_L2 (iI (z : Nat)) el f (iI (p : Nat)) = some (-1) ∧ S_MD_city_L41 E ((100 : Int32) * iI (d : Nat)) (iI (z : Nat)) qs qw g (iI (y : Nat)) 0 (iI (p : Nat)) num = S_MD_city_J77 (iI ((y + k : Nat) : Int)) 0 E ((100 : Int32) * iI (d : Nat)) (iI (z : Nat)) qs qw num') ∨ (∃ fl yy num', fl ≤ 900 ∧ S_Shelf_faultOfForm_L2 (iI (z : Nat)) el f (iI (p : Nat)) = some (iI (fl : Nat)) ∧ S_MD_city_L41 E ((100 : Int32) * iI (d : Nat)) (iI (z : Nat)) qs qw g (iI (y : Nat)) 0 (iI (p : Nat)) num = S_MD_city_J77 yy ((-1000) - iI (fl : Nat)) E ((100 : Int32) * iI (d : Nat)) (iI (z : Nat)) qs qw num') := by
  intro r
  induction r with
  | zero =>
    intro p f g y num h1 h2 hf hg h3
    obtain ⟨f, rfl⟩ : ∃ m, f = m + 1 := ⟨f - 1, by omega⟩
    obtain ⟨g, rfl⟩ : ∃ m, g = m + 1 := ⟨g - 1, by omega⟩
    rcases stm_c hd hz h2 hE hB num with ⟨ch, D, gs, num', hS, -, -, -⟩ | ⟨fl, num', hf2, k1, k2⟩
    · have := hS.2.1
      omega
    · refine Or.inr ⟨fl, iI ((y + 1 : Nat) : Int), num', hf2, ?_, ?_⟩
      · rw [S_Shelf_faultOfForm_L2, k1, o_b, if_neg (show ¬ iI (fl : Nat) < 0 by rw [c_0, iI_lt (by omega) (by omega) (by omega) (by omega)]; omega)]
      · rw [S_MD_city_L41, k2, o_b]
        dsimp only
        rw [if_pos rfl]
        unfold S_MD_city_J58
        rw [if_neg (neg_1000 hf2), iI_S]
  | succ r ih =>
    intro p f g y num h1 h2 hf hg h3
    obtain ⟨f, rfl⟩ : ∃ m, f = m + 1 := ⟨f - 1, by omega⟩
    obtain ⟨g, rfl⟩ : ∃ m, g = m + 1 := ⟨g - 1, by omega⟩
    rcases stm_c hd hz h2 hE hB num with ⟨ch, D, gs, num', hS, -, k1, k2⟩ | ⟨fl, num', hf2, k1, k2⟩
    · obtain ⟨hL, hp, he, -⟩ := id hS
      have e1 : S_Shelf_faultOfForm_L2 (iI (z : Nat)) el (f + 1) (iI (p : Nat)) = if iI ((p + D + 2 : Nat) : Int) < iI (z : Nat) then S_Shelf_faultOfForm_L2 (iI (z : Nat)) el f (iI ((p + D + 2 : Nat) : Int)) else some (-1) := by
        rw [S_Shelf_faultOfForm_L2, k1, o_b, if_pos (show (-1 : Int32) < 0 by decide), if_neg (g_100 (show p < 100 by omega)), iI_N (show p < 2147483648 by omega), he, len_i hL, iI_add, show ((p : Int) + ((D + 2 : Nat) : Int)) = ((p + D + 2 : Nat) : Int) by omega]
      have e2 : S_MD_city_L41 E ((100 : Int32) * iI (d : Nat)) (iI (z : Nat)) qs qw (g + 1) (iI (y : Nat)) 0 (iI (p : Nat)) num = if iI ((p + D + 2 : Nat) : Int) < iI (z : Nat) then S_MD_city_L41 E ((100 : Int32) * iI (d : Nat)) (iI (z : Nat)) qs qw g (iI ((y + 1 : Nat) : Int)) 0 (iI ((p + D + 2 : Nat) : Int)) num' else S_MD_city_J77 (iI ((y + 1 : Nat) : Int)) 0 E ((100 : Int32) * iI (d : Nat)) (iI (z : Nat)) qs qw num' := by
        rw [S_MD_city_L41, k2, o_b]
        dsimp only
        rw [if_neg (show ¬ (1 : Int32) = 0 by decide)]
        unfold S_MD_city_J58
        rw [if_pos rfl, iI_S]
      rw [e1, e2]
      by_cases hlt : p + D + 2 < z
      · have hi : iI ((p + D + 2 : Nat) : Int) < iI (z : Nat) := by rw [iI_lt (by omega) (by omega) (by omega) (by omega)]; omega
        rw [if_pos hi, if_pos hi]
        rcases ih (p + D + 2) f g (y + 1) num' (by omega) (by omega) (by omega) (by omega) (Or.inl hlt) with ⟨k, num2, a1, a2, a3⟩ | ⟨fl, yy, num2, a0, a1, a2⟩
        · exact Or.inl ⟨k + 1, num2, ⟨ch, D, gs, hS, k1, a1⟩, a2, by rw [a3, show y + 1 + k = y + (k + 1) by omega]⟩
        · exact Or.inr ⟨fl, yy, num2, a0, a1, a2⟩
      · have hi : ¬ iI ((p + D + 2 : Nat) : Int) < iI (z : Nat) := by rw [iI_lt (by omega) (by omega) (by omega) (by omega)]; omega
        rw [if_neg hi, if_neg hi]
        exact Or.inl ⟨1, num', ⟨ch, D, gs, hS, k1, by show p + D + 2 = z; omega⟩, rfl, rfl⟩
    · refine Or.inr ⟨fl, iI ((y + 1 : Nat) : Int), num', hf2, ?_, ?_⟩
      · rw [S_Shelf_faultOfForm_L2, k1, o_b, if_neg (show ¬ iI (fl : Nat) < 0 by rw [c_0, iI_lt (by omega) (by omega) (by omega) (by omega)]; omega)]
      · rw [S_MD_city_L41, k2, o_b]
        dsimp only
        rw [if_pos rfl]
        unfold S_MD_city_J58
        rw [if_neg (neg_1000 hf2), iI_S]
theorem pass2 {d z : Nat} (hd : d < 8) (hz : z ≤ 100) {el E : Nat → Int32} (hE : ∀ i, i < 100 → E (100 * d + i) = el i) (hB : ∀ i, i < 100 → By (el i)) {c0 : MC} {N : CS} (hn0 : c0.n ≤ 8) {qw : Nat → Int32} (hw : MRow c0 qw) (K : Nat) (y3 : Int32) (hK : y3 = iI (K : Nat)) : ∀ (r p f g y : Nat) (c : MC) (T : CS) (q num : Nat → Int32), Form el z r p → y + r = K → r < f → r + 1 < g → Rl c T q → (∃ N' T' pl' q' num' c', S_PL_city_L64 (iI (z : Nat)) el N f (iI (y : Nat)) (iI (p : Nat)) T = some (y3, N', T') ∧ S_MD_city_L93 y3 E ((100 : Int32) * iI (d : Nat)) (iI (z : Nat)) qw g 0 (iI (p : Nat)) q num = some (y3, pl', (100 : Int32) * iI (d : Nat), iI (z : Nat), q', qw, num') ∧ Rl c' N' q') ∨ (∃ rr T' pl' q' num', S_PL_city_L64 (iI (z : Nat)) el N f (iI (y : Nat)) (iI (p : Nat)) T = some (rr, N, T') ∧ S_MD_city_L93 y3 E ((100 : Int32) * iI (d : Nat)) (iI (z : Nat)) qw g 0 (iI (p : Nat)) q num = some (rr, pl', (100 : Int32) * iI (d : Nat), iI (z : Nat), q', qw, num') ∧ MRow c0 q') := by
  intro r
  induction r with
  | zero =>
    intro p f g y c T q num hF hy hf hg h
    obtain ⟨f, rfl⟩ : ∃ m, f = m + 1 := ⟨f - 1, by omega⟩
    obtain ⟨g, rfl⟩ : ∃ m, g = m + 1 := ⟨g - 1, by omega⟩
    have hF : p = z := hF
    obtain ⟨hO, hC, hq, hdy⟩ := h
    left
    rw [S_PL_city_L64, S_MD_city_L93, if_pos (show iI (z : Nat) ≤ iI (p : Nat) from le_yes (by omega) (by omega) (by omega)), if_pos rfl, if_pos (show iI (z : Nat) ≤ iI (p : Nat) from le_yes (by omega) (by omega) (by omega)), if_pos rfl]
    unfold S_City_becomes
    rw [o_b]
    obtain rfl : y = K := by omega
    rw [hK]
    exact ⟨_, _, _, _, _, c, rfl, rfl, hO, cr_becomes hO.1.1 hC N N.2.2.2.2.2.2.1 N.2.2.2.2.2.2.2.2.2.2, hq, hdy⟩
  | succ r ih =>
    intro p f g y c T q num hF hy hf hg h
    obtain ⟨f, rfl⟩ : ∃ m, f = m + 1 := ⟨f - 1, by omega⟩
    obtain ⟨g, rfl⟩ : ∃ m, g = m + 2 := ⟨g - 2, by omega⟩
    obtain ⟨ch, D, gs, hS, hF1, hF2⟩ := hF
    obtain ⟨hL, hp, he, -⟩ := id hS
    have hch : ch ≤ 127 := by rcases hL with ⟨rfl, -⟩ | ⟨rfl, -⟩ | ⟨rfl, -⟩ | ⟨rfl, -⟩ | ⟨rfl, -⟩ <;> omega
    obtain ⟨hh, h1, -, -, h2⟩ := here_i hd hz (p := p) (by omega) hE hB
    have eh : hh = (ch : Int) := (h2 ch (by omega) (by omega)).mpr ⟨by omega, he⟩
    subst eh
    have rdn : ∃ num', NT ch gs num' ∧ S_MD_readsStatement (iI (p : Nat)) ((100 : Int32) * iI (d : Nat)) (iI (z : Nat)) num E = some (1, iI ((p + D + 2 : Nat) : Int), num') := by
      rcases stm_c hd hz (show p ≤ 100 by omega) hE hB num with ⟨ch2, D2, gs2, num', hS2, hN, -, k2⟩ | ⟨fl, num', hf2, k1, -⟩
      · obtain ⟨hL2, -, he2, hd2⟩ := id hS2
        have ec : ch2 = ch := by
          have e : iI (ch2 : Nat) = iI (ch : Nat) := he2.symm.trans he
          have hch2 : ch2 ≤ 127 := by rcases hL2 with ⟨rfl, -⟩ | ⟨rfl, -⟩ | ⟨rfl, -⟩ | ⟨rfl, -⟩ | ⟨rfl, -⟩ <;> omega
          rw [iI_eq (by omega) (by omega) (by omega) (by omega)] at e
          omega
        have eD : D2 = D := by
          rcases hL with ⟨a1, a2⟩ | ⟨a1, a2⟩ | ⟨a1, a2⟩ | ⟨a1, a2⟩ | ⟨a1, a2⟩ <;> rcases hL2 with ⟨b1, b2⟩ | ⟨b1, b2⟩ | ⟨b1, b2⟩ | ⟨b1, b2⟩ | ⟨b1, b2⟩ <;> omega
        subst ec
        subst eD
        have eg : ∀ i, i < D2 → gs2 i = gs i := fun i hi => by
          have a := hd2 i hi
          have b := hS.2.2.2 i hi
          have e : iI ((48 + gs2 i : Nat) : Int) = iI ((48 + gs i : Nat) : Int) := a.2.2.symm.trans b.2.2
          have a1 := a.2.1
          have b1 := b.2.1
          rw [iI_eq (by omega) (by omega) (by omega) (by omega)] at e
          omega
        refine ⟨num', ?_, k2⟩
        obtain ⟨t1, t2, t3, t4, t5⟩ := hN
        rcases hL with ⟨a1, a2⟩ | ⟨a1, a2⟩ | ⟨a1, a2⟩ | ⟨a1, a2⟩ | ⟨a1, a2⟩
        · refine ⟨fun _ => ?_, fun e => by omega, fun e => by omega, fun e => by omega, fun e => by omega⟩
          rw [t1 a1, eg 0 (by omega), eg 1 (by omega)]
        · refine ⟨fun e => by omega, fun _ => ?_, fun e => by omega, fun e => by omega, fun e => by omega⟩
          have := t2 a1
          rw [eg 0 (by omega), eg 1 (by omega), eg 2 (by omega)] at this
          exact this
        · refine ⟨fun e => by omega, fun e => by omega, fun _ => ?_, fun e => by omega, fun e => by omega⟩
          have := t3 a1
          rw [eg 0 (by omega), eg 1 (by omega), eg 2 (by omega), eg 3 (by omega)] at this
          exact this
        · refine ⟨fun e => by omega, fun e => by omega, fun e => by omega, fun _ => ?_, fun e => by omega⟩
          rw [t4 a1, eg 0 (by omega)]
        · refine ⟨fun e => by omega, fun e => by omega, fun e => by omega, fun e => by omega, fun _ => ?_⟩
          have := t5 a1
          rw [eg 0 (by omega), eg 1 (by omega)] at this
          exact this
      · exfalso
        have e : iI (fl : Nat) = iI (-1) := (Option.some.inj (k1.symm.trans hF1)).trans (by decide)
        rw [iI_eq (by omega) (by omega) (by omega) (by omega)] at e
        omega
    obtain ⟨num', hN, k2⟩ := rdn
    obtain ⟨⟨o0, o'⟩, o1, o2⟩ := tk_all hz hS h hN
    rw [S_PL_city_L64, S_MD_city_L93, if_neg (show ¬ iI (z : Nat) ≤ iI (p : Nat) from le_no (by omega) (by omega) (by omega)), if_pos rfl, if_neg (show ¬ iI (z : Nat) ≤ iI (p : Nat) from le_no (by omega) (by omega) (by omega)), o1, o_b, h1, o_b, k2, o_b]
    dsimp only
    rcases o2 with ⟨o3, q', c', d1, d2⟩ | ⟨o3, q', d1⟩
    · dsimp only at o3
      subst o3
      have d3 := d2 T.2.2.2.2.2.2.2.2.2.2
      rw [d1, o_b]
      dsimp only
      rw [if_neg (show ¬ (1 : Int32) = 0 by decide), if_neg (show ¬ (1 : Int32) = 0 by decide), if_neg (g_100 (show p < 100 by omega)), iI_N (show p < 2147483648 by omega), he, len_i hL, iI_S, iI_add, show ((p : Int) + ((D + 2 : Nat) : Int)) = ((p + D + 2 : Nat) : Int) by omega]
      exact ih (p + D + 2) f (g + 1) (y + 1) c' _ q' num' hF2 (by omega) (by omega) (by omega) d3
    · dsimp only at o3
      subst o3
      obtain ⟨q2, m1, m2⟩ := m_copies qw q'
      rw [d1, o_b]
      dsimp only
      rw [if_pos rfl, if_pos rfl, m1, o_b, S_MD_city_L93, if_neg (neg_2000 (show p ≤ 900 by omega)), if_neg (neg_2000 (show p ≤ 900 by omega))]
      exact Or.inr ⟨_, _, _, _, _, rfl, rfl, hw.cp hn0 m2⟩
theorem form_le {el : Nat → Int32} {z : Nat} : ∀ k p, Form el z k p → p + k ≤ z
  | 0, p, h => by
    have h : p = z := h
    omega
  | k + 1, p, h => by
    obtain ⟨ch, D, gs, -, -, h⟩ := h
    have := form_le k _ h
    omega
theorem op_city {c : MC} {S : CS} {q : Nat → Int32} (h : Rl c S q) (x : Int32) {d : Nat} (hx : Is x d) {kd fg so sz he : Int32} {el K KK KF Q Z E : Nat → Int32} (hR : RS kd fg so sz he el d K KK KF Q Z E) (tS : CS) (pl ra re : Int32) (qw num : Nat → Int32) : ∃ r S' tS' pl' ra' re' q' qw' num' c', S_PL_city x S tS so sz he el = some (r, S', tS') ∧ S_MD_city x pl ra re q qw num K Q Z E = some (r, pl', ra', re', q', qw', num') ∧ Rl c' S' q' := by
  have h0 := h
  obtain ⟨hO, hC, hq, hdy⟩ := h
  have hn := hO.1.1
  unfold S_PL_city S_MD_city S_PL_refusalOfRow S_MD_wrongRow
  rcases shelf_c x with ⟨h1, h2⟩ | ⟨j, hj, rfl, h1, h2⟩
  · rw [h1, h2, o_b, o_b, if_pos rfl, if_pos rfl, o_b, o_b, if_neg (show ¬ (-1 : Int32) = 0 by decide), if_neg (show ¬ (-1 : Int32) = 0 by decide)]
    exact ⟨_, _, _, _, _, _, _, _, _, c, rfl, rfl, h0⟩
  · obtain rfl := hx.2 j hj rfl
    rw [h1, h2, o_b, o_b, if_neg (show ¬ (1 : Int32) = 0 by decide), if_neg (show ¬ (1 : Int32) = 0 by decide), if_neg (g_8 hj), if_neg (g_8 hj), if_neg (g_8 hj), if_neg (g_8 hj), iI_N (by omega)]
    obtain ⟨hK, b0 | ⟨b0, -⟩ | ⟨b0, s, z, a1, a2, rfl, rfl, a5, a6, a7, a8⟩⟩ := hR
    · rw [hK, b0]
      exact ⟨_, _, _, _, _, _, _, _, _, c, rfl, rfl, h0⟩
    · rw [hK, b0]
      exact ⟨_, _, _, _, _, _, _, _, _, c, rfl, rfl, h0⟩
    · rw [hK, b0, if_pos (show S_Shelf_isEmpty 2 = 0 by decide), if_neg (show ¬ S_Shelf_hasRow 2 = 0 by decide), o_b, if_pos rfl, if_neg (show ¬ (2 : Int32) = 0 by decide), if_pos rfl, if_neg (show ¬ (0 : Int32) < 0 by decide), a5, a6]
      by_cases hs : s = 0
      · subst hs
        have hB := a8 rfl
        rw [if_pos (show iI ((0 : Nat) : Int) = 0 by decide), o_b, if_pos rfl, if_neg (show ¬ S_Shelf_isText (iI ((0 : Nat) : Int)) = 0 by decide)]
        have p1 := pass1 hj a2 a7 hB q qw z 0 lfu lfu 0 num (by omega) (by omega) (by unfold lfu; omega) (by unfold lfu; omega) (Or.inr rfl)
        rcases p1 with ⟨k, num', p1, p2, p3⟩ | ⟨fl, yy, num', p0, p2, p3⟩
        · have p2 : S_Shelf_faultOfForm (iI (z : Nat)) el = some (-1) := p2
          have p3 : S_MD_city_L41 E ((100 : Int32) * iI (j : Nat)) (iI (z : Nat)) q qw lfu 0 0 0 num = _ := p3
          obtain ⟨q2, m1, m2⟩ := m_copies q qw
          have hk := form_le k 0 p1
          have hCb := cr_becomes hn hC tS tS.2.2.2.2.2.2.1 tS.2.2.2.2.2.2.2.2.2.2
          rw [p2, o_b, if_pos (show (-1 : Int32) < 0 by decide), p3]
          unfold S_City_becomes S_MD_city_J77
          rw [o_b, m1, o_b]
          dsimp only
          rcases pass2 hj a2 a7 hB (N := S) hn (hq.cp hn m2) k (iI ((0 + k : Nat) : Int)) (by rw [Nat.zero_add]) k 0 lfu lfu 0 c _ q num' p1 (by omega) (by unfold lfu; omega) (by unfold lfu; omega) ⟨hO, hCb, hq, hdy⟩ with ⟨N', T', pl', q', num2, c', k1, k2, k3⟩ | ⟨rr, T', pl', q', num2, k1, k2, k3⟩
          · exact ⟨_, N', T', _, _, _, q', _, _, c', k1, k2, k3⟩
          · exact ⟨_, S, T', _, _, _, q', _, _, c, k1, k2, hO, hC, k3, hdy⟩
        · have p2 : S_Shelf_faultOfForm (iI (z : Nat)) el = some (iI (fl : Nat)) := p2
          have p3 : S_MD_city_L41 E ((100 : Int32) * iI (j : Nat)) (iI (z : Nat)) q qw lfu 0 0 0 num = _ := p3
          obtain ⟨q2, m1, m2⟩ := m_copies q qw
          rw [p2, o_b, if_neg (show ¬ iI (fl : Nat) < 0 by rw [c_0, iI_lt (by omega) (by omega) (by omega) (by omega)]; omega), p3]
          unfold S_MD_city_J77
          rw [m1, o_b, show lfu = 1999 + 1 from rfl, S_MD_city_L93, if_neg (neg_1000 p0), if_neg (neg_1000 p0)]
          exact ⟨_, _, _, _, _, _, _, _, _, c, rfl, rfl, h0⟩
      · have hs2 : ¬ iI (s : Nat) = 0 := by rw [c_0, iI_eq (by omega) (by omega) (by omega) (by omega)]; omega
        have ht : S_Shelf_isText (iI (s : Nat)) = 0 := if_neg hs2
        rw [if_neg hs2, o_b, if_neg (show ¬ (-12 : Int32) = 0 by decide), ht, if_pos rfl]
        exact ⟨_, _, _, _, _, _, _, _, _, c, rfl, rfl, h0⟩
