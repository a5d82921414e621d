/-! one statement of a city told -/
theorem stm_100 {d z p : Nat} (hd : d < 8) (hz : z ≤ 100) (hp : p < z) {el E : Nat → Int32} (hE : ∀ i, i < 100 → E (100 * d + i) = el i) (hB : ∀ i, i < 100 → By (el i)) (num : Nat → Int32) (he : el p = iI ((100 : Nat) : Int)) : OutS d z p el E num := by
  obtain ⟨h, e1, -, -, e4⟩ := here_i hd hz (p := p) (by omega) hE hB
  have eh : h = 100 := (e4 100 (by omega) (by omega)).mpr ⟨hp, he⟩
  have hL : LT 100 2 := Or.inl ⟨rfl, rfl⟩
  have fo := f_open hz hp hL he
  rcases dg_c el z (p + 1) with ⟨g0, d0⟩ | hN
  · rcases dg_c el z (p + 2) with ⟨g1, d1⟩ | hN
    · obtain ⟨n0, k0, v0, w0⟩ := (rd2 hd hz (p := p + 1) (by omega) hE hB (k := 0) (by omega) num).1 g0 g1 d0 d1
      have k0 : S_MD_readsNumber 0 2 (iI ((p + 1 : Nat) : Int)) ((100 : Int32) * iI (d : Nat)) (iI (z : Nat)) num E = some (1, iI ((p + 3 : Nat) : Int), n0) := k0
      have fg := f_good hz (by omega) (D := 2) (by omega) (gsF g0 g1 0 0) (all2 d0 d1)
      have je := j190_end hd hz (p := p + 3) (by omega) hE hB n0
      by_cases h59 : p + 1 + 2 < z ∧ el (p + 1 + 2) = 59
      · refine Or.inl ⟨100, 2, gsF g0 g1 0 0, n0, ⟨hL, by omega, he, (all2 d0 d1)⟩, ⟨fun _ => v0, fun e => absurd e (by decide), fun e => absurd e (by decide), fun e => absurd e (by decide), fun e => absurd e (by decide)⟩, fo.trans (fg.1 h59), ?_⟩
        unfold S_MD_readsStatement S_MD_readsStatement_J126 S_MD_readsStatement_J127 S_MD_readsStatement_J99 S_MD_readsStatement_J100 S_MD_readsStatement_J163 S_MD_readsStatement_J164
        rw [e1, o_b, eh, if_pos (show iI 100 = 100 by decide), iI_S, k0, o_b]
        dsimp only
        exact je.1 h59
      · refine Or.inr ⟨p + 3, n0, by omega, fo.trans (fg.2 h59), ?_⟩
        unfold S_MD_readsStatement S_MD_readsStatement_J126 S_MD_readsStatement_J127 S_MD_readsStatement_J99 S_MD_readsStatement_J100 S_MD_readsStatement_J163 S_MD_readsStatement_J164
        rw [e1, o_b, eh, if_pos (show iI 100 = 100 by decide), iI_S, k0, o_b]
        dsimp only
        exact je.2 h59
    · have _h := True.intro
      obtain ⟨n0, k0⟩ := (rd2 hd hz (p := p + 1) (by omega) hE hB (k := 0) (by omega) num).2.1 g0 d0 hN
      have k0 : S_MD_readsNumber 0 2 (iI ((p + 1 : Nat) : Int)) ((100 : Int32) * iI (d : Nat)) (iI (z : Nat)) num E = some (0, iI ((p + 2 : Nat) : Int), n0) := k0
      refine Or.inr ⟨p + 2, n0, by omega, fo.trans (f_bad hz (by omega) (by omega) (gsF g0 0 0 0) (m := 1) (by omega) (all1 d0) hN), ?_⟩
      unfold S_MD_readsStatement S_MD_readsStatement_J126 S_MD_readsStatement_J127 S_MD_readsStatement_J99 S_MD_readsStatement_J100 S_MD_readsStatement_J163 S_MD_readsStatement_J164
      rw [e1, o_b, eh, if_pos (show iI 100 = 100 by decide), iI_S, k0, o_b]
      dsimp only
      rw [j190_0]
  · have _h := True.intro
    obtain ⟨n0, k0⟩ := (rd2 hd hz (p := p + 1) (by omega) hE hB (k := 0) (by omega) num).2.2 hN
    have k0 : S_MD_readsNumber 0 2 (iI ((p + 1 : Nat) : Int)) ((100 : Int32) * iI (d : Nat)) (iI (z : Nat)) num E = some (0, iI ((p + 1 : Nat) : Int), n0) := k0
    refine Or.inr ⟨p + 1, n0, by omega, fo.trans (f_bad hz (by omega) (by omega) (gsF 0 0 0 0) (m := 0) (by omega) all0 hN), ?_⟩
    unfold S_MD_readsStatement S_MD_readsStatement_J126 S_MD_readsStatement_J127 S_MD_readsStatement_J99 S_MD_readsStatement_J100 S_MD_readsStatement_J163 S_MD_readsStatement_J164
    rw [e1, o_b, eh, if_pos (show iI 100 = 100 by decide), iI_S, k0, o_b]
    dsimp only
    rw [j190_0]
theorem stm_108 {d z p : Nat} (hd : d < 8) (hz : z ≤ 100) (hp : p < z) {el E : Nat → Int32} (hE : ∀ i, i < 100 → E (100 * d + i) = el i) (hB : ∀ i, i < 100 → By (el i)) (num : Nat → Int32) (he : el p = iI ((108 : Nat) : Int)) : OutS d z p el E num := by
  obtain ⟨h, e1, -, -, e4⟩ := here_i hd hz (p := p) (by omega) hE hB
  have eh : h = 108 := (e4 108 (by omega) (by omega)).mpr ⟨hp, he⟩
  have hL : LT 108 3 := Or.inr (Or.inl ⟨rfl, rfl⟩)
  have fo := f_open hz hp hL he
  rcases dg_c el z (p + 1) with ⟨g0, d0⟩ | hN
  · obtain ⟨n0, k0, v0, w0⟩ := (rd1 hd hz (p := p + 1) (by omega) hE hB (k := 0) (by omega) num).1 g0 d0
    have k0 : S_MD_readsNumber 0 1 (iI ((p + 1 : Nat) : Int)) ((100 : Int32) * iI (d : Nat)) (iI (z : Nat)) num E = some (1, iI ((p + 2 : Nat) : Int), n0) := k0
    rcases dg_c el z (p + 2) with ⟨g1, d1⟩ | hN
    · rcases dg_c el z (p + 3) with ⟨g2, d2⟩ | hN
      · obtain ⟨n1, k1, v1, w1⟩ := (rd2 hd hz (p := p + 2) (by omega) hE hB (k := 1) (by omega) n0).1 g1 g2 d1 d2
        have k1 : S_MD_readsNumber 1 2 (iI ((p + 2 : Nat) : Int)) ((100 : Int32) * iI (d : Nat)) (iI (z : Nat)) n0 E = some (1, iI ((p + 4 : Nat) : Int), n1) := k1
        have fg := f_good hz (by omega) (D := 3) (by omega) (gsF g0 g1 g2 0) (all3 d0 d1 d2)
        have je := j190_end hd hz (p := p + 4) (by omega) hE hB n1
        by_cases h59 : p + 1 + 3 < z ∧ el (p + 1 + 3) = 59
        · refine Or.inl ⟨108, 3, gsF g0 g1 g2 0, n1, ⟨hL, by omega, he, (all3 d0 d1 d2)⟩, ⟨fun e => absurd e (by decide), fun _ => ⟨((w1 0 (by decide)).trans v0), v1⟩, fun e => absurd e (by decide), fun e => absurd e (by decide), fun e => absurd e (by decide)⟩, fo.trans (fg.1 h59), ?_⟩
          unfold S_MD_readsStatement S_MD_readsStatement_J126 S_MD_readsStatement_J127 S_MD_readsStatement_J99 S_MD_readsStatement_J100 S_MD_readsStatement_J163 S_MD_readsStatement_J164
          rw [e1, o_b, eh, if_neg (show ¬ iI 108 = 100 by decide), if_pos (show iI 108 = 108 by decide), iI_S, k0, o_b]
          dsimp only
          rw [if_neg (show ¬ (1 : Int32) = 0 by decide), k1, o_b]
          dsimp only
          rw [if_neg (show ¬ (1 : Int32) = 0 by decide)]
          exact je.1 h59
        · refine Or.inr ⟨p + 4, n1, by omega, fo.trans (fg.2 h59), ?_⟩
          unfold S_MD_readsStatement S_MD_readsStatement_J126 S_MD_readsStatement_J127 S_MD_readsStatement_J99 S_MD_readsStatement_J100 S_MD_readsStatement_J163 S_MD_readsStatement_J164
          rw [e1, o_b, eh, if_neg (show ¬ iI 108 = 100 by decide), if_pos (show iI 108 = 108 by decide), iI_S, k0, o_b]
          dsimp only
          rw [if_neg (show ¬ (1 : Int32) = 0 by decide), k1, o_b]
          dsimp only
          rw [if_neg (show ¬ (1 : Int32) = 0 by decide)]
          exact je.2 h59
      · have _h := True.intro
        obtain ⟨n1, k1⟩ := (rd2 hd hz (p := p + 2) (by omega) hE hB (k := 1) (by omega) n0).2.1 g1 d1 hN
        have k1 : S_MD_readsNumber 1 2 (iI ((p + 2 : Nat) : Int)) ((100 : Int32) * iI (d : Nat)) (iI (z : Nat)) n0 E = some (0, iI ((p + 3 : Nat) : Int), n1) := k1
        refine Or.inr ⟨p + 3, n1, by omega, fo.trans (f_bad hz (by omega) (by omega) (gsF g0 g1 0 0) (m := 2) (by omega) (all2 d0 d1) hN), ?_⟩
        unfold S_MD_readsStatement S_MD_readsStatement_J126 S_MD_readsStatement_J127 S_MD_readsStatement_J99 S_MD_readsStatement_J100 S_MD_readsStatement_J163 S_MD_readsStatement_J164
        rw [e1, o_b, eh, if_neg (show ¬ iI 108 = 100 by decide), if_pos (show iI 108 = 108 by decide), iI_S, k0, o_b]
        dsimp only
        rw [if_neg (show ¬ (1 : Int32) = 0 by decide), k1, o_b]
        dsimp only
        rw [if_pos rfl, j190_0]
    · have _h := True.intro
      obtain ⟨n1, k1⟩ := (rd2 hd hz (p := p + 2) (by omega) hE hB (k := 1) (by omega) n0).2.2 hN
      have k1 : S_MD_readsNumber 1 2 (iI ((p + 2 : Nat) : Int)) ((100 : Int32) * iI (d : Nat)) (iI (z : Nat)) n0 E = some (0, iI ((p + 2 : Nat) : Int), n1) := k1
      refine Or.inr ⟨p + 2, n1, by omega, fo.trans (f_bad hz (by omega) (by omega) (gsF g0 0 0 0) (m := 1) (by omega) (all1 d0) hN), ?_⟩
      unfold S_MD_readsStatement S_MD_readsStatement_J126 S_MD_readsStatement_J127 S_MD_readsStatement_J99 S_MD_readsStatement_J100 S_MD_readsStatement_J163 S_MD_readsStatement_J164
      rw [e1, o_b, eh, if_neg (show ¬ iI 108 = 100 by decide), if_pos (show iI 108 = 108 by decide), iI_S, k0, o_b]
      dsimp only
      rw [if_neg (show ¬ (1 : Int32) = 0 by decide), k1, o_b]
      dsimp only
      rw [if_pos rfl, j190_0]
  · have _h := True.intro
    obtain ⟨n0, k0⟩ := (rd1 hd hz (p := p + 1) (by omega) hE hB (k := 0) (by omega) num).2 hN
    have k0 : S_MD_readsNumber 0 1 (iI ((p + 1 : Nat) : Int)) ((100 : Int32) * iI (d : Nat)) (iI (z : Nat)) num E = some (0, iI ((p + 1 : Nat) : Int), n0) := k0
    refine Or.inr ⟨p + 1, n0, by omega, fo.trans (f_bad hz (by omega) (by omega) (gsF 0 0 0 0) (m := 0) (by omega) all0 hN), ?_⟩
    unfold S_MD_readsStatement S_MD_readsStatement_J126 S_MD_readsStatement_J127 S_MD_readsStatement_J99 S_MD_readsStatement_J100 S_MD_readsStatement_J163 S_MD_readsStatement_J164
    rw [e1, o_b, eh, if_neg (show ¬ iI 108 = 100 by decide), if_pos (show iI 108 = 108 by decide), iI_S, k0, o_b]
    dsimp only
    rw [if_pos rfl, j190_0]
theorem stm_109 {d z p : Nat} (hd : d < 8) (hz : z ≤ 100) (hp : p < z) {el E : Nat → Int32} (hE : ∀ i, i < 100 → E (100 * d + i) = el i) (hB : ∀ i, i < 100 → By (el i)) (num : Nat → Int32) (he : el p = iI ((109 : Nat) : Int)) : OutS d z p el E num := by
  obtain ⟨h, e1, -, -, e4⟩ := here_i hd hz (p := p) (by omega) hE hB
  have eh : h = 109 := (e4 109 (by omega) (by omega)).mpr ⟨hp, he⟩
  have hL : LT 109 4 := Or.inr (Or.inr (Or.inl ⟨rfl, rfl⟩))
  have fo := f_open hz hp hL he
  rcases dg_c el z (p + 1) with ⟨g0, d0⟩ | hN
  · obtain ⟨n0, k0, v0, w0⟩ := (rd1 hd hz (p := p + 1) (by omega) hE hB (k := 0) (by omega) num).1 g0 d0
    have k0 : S_MD_readsNumber 0 1 (iI ((p + 1 : Nat) : Int)) ((100 : Int32) * iI (d : Nat)) (iI (z : Nat)) num E = some (1, iI ((p + 2 : Nat) : Int), n0) := k0
    rcases dg_c el z (p + 2) with ⟨g1, d1⟩ | hN
    · obtain ⟨n1, k1, v1, w1⟩ := (rd1 hd hz (p := p + 2) (by omega) hE hB (k := 1) (by omega) n0).1 g1 d1
      have k1 : S_MD_readsNumber 1 1 (iI ((p + 2 : Nat) : Int)) ((100 : Int32) * iI (d : Nat)) (iI (z : Nat)) n0 E = some (1, iI ((p + 3 : Nat) : Int), n1) := k1
      rcases dg_c el z (p + 3) with ⟨g2, d2⟩ | hN
      · rcases dg_c el z (p + 4) with ⟨g3, d3⟩ | hN
        · obtain ⟨n2, k2, v2, w2⟩ := (rd2 hd hz (p := p + 3) (by omega) hE hB (k := 2) (by omega) n1).1 g2 g3 d2 d3
          have k2 : S_MD_readsNumber 2 2 (iI ((p + 3 : Nat) : Int)) ((100 : Int32) * iI (d : Nat)) (iI (z : Nat)) n1 E = some (1, iI ((p + 5 : Nat) : Int), n2) := k2
          have fg := f_good hz (by omega) (D := 4) (by omega) (gsF g0 g1 g2 g3) (all4 d0 d1 d2 d3)
          have je := j190_end hd hz (p := p + 5) (by omega) hE hB n2
          by_cases h59 : p + 1 + 4 < z ∧ el (p + 1 + 4) = 59
          · refine Or.inl ⟨109, 4, gsF g0 g1 g2 g3, n2, ⟨hL, by omega, he, (all4 d0 d1 d2 d3)⟩, ⟨fun e => absurd e (by decide), fun e => absurd e (by decide), fun _ => ⟨((w2 0 (by decide)).trans ((w1 0 (by decide)).trans v0)), ((w2 1 (by decide)).trans v1), v2⟩, fun e => absurd e (by decide), fun e => absurd e (by decide)⟩, fo.trans (fg.1 h59), ?_⟩
            unfold S_MD_readsStatement S_MD_readsStatement_J126 S_MD_readsStatement_J127 S_MD_readsStatement_J99 S_MD_readsStatement_J100 S_MD_readsStatement_J163 S_MD_readsStatement_J164
            rw [e1, o_b, eh, if_neg (show ¬ iI 109 = 100 by decide), if_neg (show ¬ iI 109 = 108 by decide), if_pos (show iI 109 = 109 by decide), iI_S, k0, o_b]
            dsimp only
            rw [if_neg (show ¬ (1 : Int32) = 0 by decide), k1, o_b]
            dsimp only
            rw [if_neg (show ¬ (1 : Int32) = 0 by decide), k2, o_b]
            dsimp only
            rw [if_neg (show ¬ (1 : Int32) = 0 by decide)]
            exact je.1 h59
          · refine Or.inr ⟨p + 5, n2, by omega, fo.trans (fg.2 h59), ?_⟩
            unfold S_MD_readsStatement S_MD_readsStatement_J126 S_MD_readsStatement_J127 S_MD_readsStatement_J99 S_MD_readsStatement_J100 S_MD_readsStatement_J163 S_MD_readsStatement_J164
            rw [e1, o_b, eh, if_neg (show ¬ iI 109 = 100 by decide), if_neg (show ¬ iI 109 = 108 by decide), if_pos (show iI 109 = 109 by decide), iI_S, k0, o_b]
            dsimp only
            rw [if_neg (show ¬ (1 : Int32) = 0 by decide), k1, o_b]
            dsimp only
            rw [if_neg (show ¬ (1 : Int32) = 0 by decide), k2, o_b]
            dsimp only
            rw [if_neg (show ¬ (1 : Int32) = 0 by decide)]
            exact je.2 h59
        · have _h := True.intro
          obtain ⟨n2, k2⟩ := (rd2 hd hz (p := p + 3) (by omega) hE hB (k := 2) (by omega) n1).2.1 g2 d2 hN
          have k2 : S_MD_readsNumber 2 2 (iI ((p + 3 : Nat) : Int)) ((100 : Int32) * iI (d : Nat)) (iI (z : Nat)) n1 E = some (0, iI ((p + 4 : Nat) : Int), n2) := k2
          refine Or.inr ⟨p + 4, n2, by omega, fo.trans (f_bad hz (by omega) (by omega) (gsF g0 g1 g2 0) (m := 3) (by omega) (all3 d0 d1 d2) hN), ?_⟩
          unfold S_MD_readsStatement S_MD_readsStatement_J126 S_MD_readsStatement_J127 S_MD_readsStatement_J99 S_MD_readsStatement_J100 S_MD_readsStatement_J163 S_MD_readsStatement_J164
          rw [e1, o_b, eh, if_neg (show ¬ iI 109 = 100 by decide), if_neg (show ¬ iI 109 = 108 by decide), if_pos (show iI 109 = 109 by decide), iI_S, k0, o_b]
          dsimp only
          rw [if_neg (show ¬ (1 : Int32) = 0 by decide), k1, o_b]
          dsimp only
          rw [if_neg (show ¬ (1 : Int32) = 0 by decide), k2, o_b]
          dsimp only
          rw [if_pos rfl, j190_0]
      · have _h := True.intro
        obtain ⟨n2, k2⟩ := (rd2 hd hz (p := p + 3) (by omega) hE hB (k := 2) (by omega) n1).2.2 hN
        have k2 : S_MD_readsNumber 2 2 (iI ((p + 3 : Nat) : Int)) ((100 : Int32) * iI (d : Nat)) (iI (z : Nat)) n1 E = some (0, iI ((p + 3 : Nat) : Int), n2) := k2
        refine Or.inr ⟨p + 3, n2, by omega, fo.trans (f_bad hz (by omega) (by omega) (gsF g0 g1 0 0) (m := 2) (by omega) (all2 d0 d1) hN), ?_⟩
        unfold S_MD_readsStatement S_MD_readsStatement_J126 S_MD_readsStatement_J127 S_MD_readsStatement_J99 S_MD_readsStatement_J100 S_MD_readsStatement_J163 S_MD_readsStatement_J164
        rw [e1, o_b, eh, if_neg (show ¬ iI 109 = 100 by decide), if_neg (show ¬ iI 109 = 108 by decide), if_pos (show iI 109 = 109 by decide), iI_S, k0, o_b]
        dsimp only
        rw [if_neg (show ¬ (1 : Int32) = 0 by decide), k1, o_b]
        dsimp only
        rw [if_neg (show ¬ (1 : Int32) = 0 by decide), k2, o_b]
        dsimp only
        rw [if_pos rfl, j190_0]
    · have _h := True.intro
      obtain ⟨n1, k1⟩ := (rd1 hd hz (p := p + 2) (by omega) hE hB (k := 1) (by omega) n0).2 hN
      have k1 : S_MD_readsNumber 1 1 (iI ((p + 2 : Nat) : Int)) ((100 : Int32) * iI (d : Nat)) (iI (z : Nat)) n0 E = some (0, iI ((p + 2 : Nat) : Int), n1) := k1
      refine Or.inr ⟨p + 2, n1, by omega, fo.trans (f_bad hz (by omega) (by omega) (gsF g0 0 0 0) (m := 1) (by omega) (all1 d0) hN), ?_⟩
      unfold S_MD_readsStatement S_MD_readsStatement_J126 S_MD_readsStatement_J127 S_MD_readsStatement_J99 S_MD_readsStatement_J100 S_MD_readsStatement_J163 S_MD_readsStatement_J164
      rw [e1, o_b, eh, if_neg (show ¬ iI 109 = 100 by decide), if_neg (show ¬ iI 109 = 108 by decide), if_pos (show iI 109 = 109 by decide), iI_S, k0, o_b]
      dsimp only
      rw [if_neg (show ¬ (1 : Int32) = 0 by decide), k1, o_b]
      dsimp only
      rw [if_pos rfl, j190_0]
  · have _h := True.intro
    obtain ⟨n0, k0⟩ := (rd1 hd hz (p := p + 1) (by omega) hE hB (k := 0) (by omega) num).2 hN
    have k0 : S_MD_readsNumber 0 1 (iI ((p + 1 : Nat) : Int)) ((100 : Int32) * iI (d : Nat)) (iI (z : Nat)) num E = some (0, iI ((p + 1 : Nat) : Int), n0) := k0
    refine Or.inr ⟨p + 1, n0, by omega, fo.trans (f_bad hz (by omega) (by omega) (gsF 0 0 0 0) (m := 0) (by omega) all0 hN), ?_⟩
    unfold S_MD_readsStatement S_MD_readsStatement_J126 S_MD_readsStatement_J127 S_MD_readsStatement_J99 S_MD_readsStatement_J100 S_MD_readsStatement_J163 S_MD_readsStatement_J164
    rw [e1, o_b, eh, if_neg (show ¬ iI 109 = 100 by decide), if_neg (show ¬ iI 109 = 108 by decide), if_pos (show iI 109 = 109 by decide), iI_S, k0, o_b]
    dsimp only
    rw [if_pos rfl, j190_0]
theorem stm_114 {d z p : Nat} (hd : d < 8) (hz : z ≤ 100) (hp : p < z) {el E : Nat → Int32} (hE : ∀ i, i < 100 → E (100 * d + i) = el i) (hB : ∀ i, i < 100 → By (el i)) (num : Nat → Int32) (he : el p = iI ((114 : Nat) : Int)) : OutS d z p el E num := by
  obtain ⟨h, e1, -, -, e4⟩ := here_i hd hz (p := p) (by omega) hE hB
  have eh : h = 114 := (e4 114 (by omega) (by omega)).mpr ⟨hp, he⟩
  have hL : LT 114 1 := Or.inr (Or.inr (Or.inr (Or.inl ⟨rfl, rfl⟩)))
  have fo := f_open hz hp hL he
  rcases dg_c el z (p + 1) with ⟨g0, d0⟩ | hN
  · obtain ⟨n0, k0, v0, w0⟩ := (rd1 hd hz (p := p + 1) (by omega) hE hB (k := 0) (by omega) num).1 g0 d0
    have k0 : S_MD_readsNumber 0 1 (iI ((p + 1 : Nat) : Int)) ((100 : Int32) * iI (d : Nat)) (iI (z : Nat)) num E = some (1, iI ((p + 2 : Nat) : Int), n0) := k0
    have fg := f_good hz (by omega) (D := 1) (by omega) (gsF g0 0 0 0) (all1 d0)
    have je := j190_end hd hz (p := p + 2) (by omega) hE hB n0
    by_cases h59 : p + 1 + 1 < z ∧ el (p + 1 + 1) = 59
    · refine Or.inl ⟨114, 1, gsF g0 0 0 0, n0, ⟨hL, by omega, he, (all1 d0)⟩, ⟨fun e => absurd e (by decide), fun e => absurd e (by decide), fun e => absurd e (by decide), fun _ => v0, fun e => absurd e (by decide)⟩, fo.trans (fg.1 h59), ?_⟩
      unfold S_MD_readsStatement S_MD_readsStatement_J126 S_MD_readsStatement_J127 S_MD_readsStatement_J99 S_MD_readsStatement_J100 S_MD_readsStatement_J163 S_MD_readsStatement_J164
      rw [e1, o_b, eh, if_neg (show ¬ iI 114 = 100 by decide), if_neg (show ¬ iI 114 = 108 by decide), if_neg (show ¬ iI 114 = 109 by decide), if_pos (show iI 114 = 114 by decide), iI_S, k0, o_b]
      dsimp only
      exact je.1 h59
    · refine Or.inr ⟨p + 2, n0, by omega, fo.trans (fg.2 h59), ?_⟩
      unfold S_MD_readsStatement S_MD_readsStatement_J126 S_MD_readsStatement_J127 S_MD_readsStatement_J99 S_MD_readsStatement_J100 S_MD_readsStatement_J163 S_MD_readsStatement_J164
      rw [e1, o_b, eh, if_neg (show ¬ iI 114 = 100 by decide), if_neg (show ¬ iI 114 = 108 by decide), if_neg (show ¬ iI 114 = 109 by decide), if_pos (show iI 114 = 114 by decide), iI_S, k0, o_b]
      dsimp only
      exact je.2 h59
  · have _h := True.intro
    obtain ⟨n0, k0⟩ := (rd1 hd hz (p := p + 1) (by omega) hE hB (k := 0) (by omega) num).2 hN
    have k0 : S_MD_readsNumber 0 1 (iI ((p + 1 : Nat) : Int)) ((100 : Int32) * iI (d : Nat)) (iI (z : Nat)) num E = some (0, iI ((p + 1 : Nat) : Int), n0) := k0
    refine Or.inr ⟨p + 1, n0, by omega, fo.trans (f_bad hz (by omega) (by omega) (gsF 0 0 0 0) (m := 0) (by omega) all0 hN), ?_⟩
    unfold S_MD_readsStatement S_MD_readsStatement_J126 S_MD_readsStatement_J127 S_MD_readsStatement_J99 S_MD_readsStatement_J100 S_MD_readsStatement_J163 S_MD_readsStatement_J164
    rw [e1, o_b, eh, if_neg (show ¬ iI 114 = 100 by decide), if_neg (show ¬ iI 114 = 108 by decide), if_neg (show ¬ iI 114 = 109 by decide), if_pos (show iI 114 = 114 by decide), iI_S, k0, o_b]
    dsimp only
    rw [j190_0]
theorem stm_119 {d z p : Nat} (hd : d < 8) (hz : z ≤ 100) (hp : p < z) {el E : Nat → Int32} (hE : ∀ i, i < 100 → E (100 * d + i) = el i) (hB : ∀ i, i < 100 → By (el i)) (num : Nat → Int32) (he : el p = iI ((119 : Nat) : Int)) : OutS d z p el E num := by
  obtain ⟨h, e1, -, -, e4⟩ := here_i hd hz (p := p) (by omega) hE hB
  have eh : h = 119 := (e4 119 (by omega) (by omega)).mpr ⟨hp, he⟩
  have hL : LT 119 2 := Or.inr (Or.inr (Or.inr (Or.inr ⟨rfl, rfl⟩)))
  have fo := f_open hz hp hL he
  rcases dg_c el z (p + 1) with ⟨g0, d0⟩ | hN
  · obtain ⟨n0, k0, v0, w0⟩ := (rd1 hd hz (p := p + 1) (by omega) hE hB (k := 0) (by omega) num).1 g0 d0
    have k0 : S_MD_readsNumber 0 1 (iI ((p + 1 : Nat) : Int)) ((100 : Int32) * iI (d : Nat)) (iI (z : Nat)) num E = some (1, iI ((p + 2 : Nat) : Int), n0) := k0
    rcases dg_c el z (p + 2) with ⟨g1, d1⟩ | hN
    · obtain ⟨n1, k1, v1, w1⟩ := (rd1 hd hz (p := p + 2) (by omega) hE hB (k := 1) (by omega) n0).1 g1 d1
      have k1 : S_MD_readsNumber 1 1 (iI ((p + 2 : Nat) : Int)) ((100 : Int32) * iI (d : Nat)) (iI (z : Nat)) n0 E = some (1, iI ((p + 3 : Nat) : Int), n1) := k1
      have fg := f_good hz (by omega) (D := 2) (by omega) (gsF g0 g1 0 0) (all2 d0 d1)
      have je := j190_end hd hz (p := p + 3) (by omega) hE hB n1
      by_cases h59 : p + 1 + 2 < z ∧ el (p + 1 + 2) = 59
      · refine Or.inl ⟨119, 2, gsF g0 g1 0 0, n1, ⟨hL, by omega, he, (all2 d0 d1)⟩, ⟨fun e => absurd e (by decide), fun e => absurd e (by decide), fun e => absurd e (by decide), fun e => absurd e (by decide), fun _ => ⟨((w1 0 (by decide)).trans v0), v1⟩⟩, fo.trans (fg.1 h59), ?_⟩
        unfold S_MD_readsStatement S_MD_readsStatement_J126 S_MD_readsStatement_J127 S_MD_readsStatement_J99 S_MD_readsStatement_J100 S_MD_readsStatement_J163 S_MD_readsStatement_J164
        rw [e1, o_b, eh, if_neg (show ¬ iI 119 = 100 by decide), if_neg (show ¬ iI 119 = 108 by decide), if_neg (show ¬ iI 119 = 109 by decide), if_neg (show ¬ iI 119 = 114 by decide), if_pos (show iI 119 = 119 by decide), iI_S, k0, o_b]
        dsimp only
        rw [if_neg (show ¬ (1 : Int32) = 0 by decide), k1, o_b]
        dsimp only
        rw [if_neg (show ¬ (1 : Int32) = 0 by decide)]
        exact je.1 h59
      · refine Or.inr ⟨p + 3, n1, by omega, fo.trans (fg.2 h59), ?_⟩
        unfold S_MD_readsStatement S_MD_readsStatement_J126 S_MD_readsStatement_J127 S_MD_readsStatement_J99 S_MD_readsStatement_J100 S_MD_readsStatement_J163 S_MD_readsStatement_J164
        rw [e1, o_b, eh, if_neg (show ¬ iI 119 = 100 by decide), if_neg (show ¬ iI 119 = 108 by decide), if_neg (show ¬ iI 119 = 109 by decide), if_neg (show ¬ iI 119 = 114 by decide), if_pos (show iI 119 = 119 by decide), iI_S, k0, o_b]
        dsimp only
        rw [if_neg (show ¬ (1 : Int32) = 0 by decide), k1, o_b]
        dsimp only
        rw [if_neg (show ¬ (1 : Int32) = 0 by decide)]
        exact je.2 h59
    · have _h := True.intro
      obtain ⟨n1, k1⟩ := (rd1 hd hz (p := p + 2) (by omega) hE hB (k := 1) (by omega) n0).2 hN
      have k1 : S_MD_readsNumber 1 1 (iI ((p + 2 : Nat) : Int)) ((100 : Int32) * iI (d : Nat)) (iI (z : Nat)) n0 E = some (0, iI ((p + 2 : Nat) : Int), n1) := k1
      refine Or.inr ⟨p + 2, n1, by omega, fo.trans (f_bad hz (by omega) (by omega) (gsF g0 0 0 0) (m := 1) (by omega) (all1 d0) hN), ?_⟩
      unfold S_MD_readsStatement S_MD_readsStatement_J126 S_MD_readsStatement_J127 S_MD_readsStatement_J99 S_MD_readsStatement_J100 S_MD_readsStatement_J163 S_MD_readsStatement_J164
      rw [e1, o_b, eh, if_neg (show ¬ iI 119 = 100 by decide), if_neg (show ¬ iI 119 = 108 by decide), if_neg (show ¬ iI 119 = 109 by decide), if_neg (show ¬ iI 119 = 114 by decide), if_pos (show iI 119 = 119 by decide), iI_S, k0, o_b]
      dsimp only
      rw [if_neg (show ¬ (1 : Int32) = 0 by decide), k1, o_b]
      dsimp only
      rw [if_pos rfl, j190_0]
  · have _h := True.intro
    obtain ⟨n0, k0⟩ := (rd1 hd hz (p := p + 1) (by omega) hE hB (k := 0) (by omega) num).2 hN
    have k0 : S_MD_readsNumber 0 1 (iI ((p + 1 : Nat) : Int)) ((100 : Int32) * iI (d : Nat)) (iI (z : Nat)) num E = some (0, iI ((p + 1 : Nat) : Int), n0) := k0
    refine Or.inr ⟨p + 1, n0, by omega, fo.trans (f_bad hz (by omega) (by omega) (gsF 0 0 0 0) (m := 0) (by omega) all0 hN), ?_⟩
    unfold S_MD_readsStatement S_MD_readsStatement_J126 S_MD_readsStatement_J127 S_MD_readsStatement_J99 S_MD_readsStatement_J100 S_MD_readsStatement_J163 S_MD_readsStatement_J164
    rw [e1, o_b, eh, if_neg (show ¬ iI 119 = 100 by decide), if_neg (show ¬ iI 119 = 108 by decide), if_neg (show ¬ iI 119 = 109 by decide), if_neg (show ¬ iI 119 = 114 by decide), if_pos (show iI 119 = 119 by decide), iI_S, k0, o_b]
    dsimp only
    rw [if_pos rfl, j190_0]
theorem stm_c {d z p : Nat} (hd : d < 8) (hz : z ≤ 100) (hp : p ≤ 100) {el E : Nat → Int32} (hE : ∀ i, i < 100 → E (100 * d + i) = el i) (hB : ∀ i, i < 100 → By (el i)) (num : Nat → Int32) : OutS d z p el E num := by
  by_cases hp2 : p < z
  · by_cases h1 : el p = iI ((100 : Nat) : Int)
    · exact stm_100 hd hz hp2 hE hB num h1
    · by_cases h2 : el p = iI ((108 : Nat) : Int)
      · exact stm_108 hd hz hp2 hE hB num h2
      · by_cases h3 : el p = iI ((109 : Nat) : Int)
        · exact stm_109 hd hz hp2 hE hB num h3
        · by_cases h4 : el p = iI ((114 : Nat) : Int)
          · exact stm_114 hd hz hp2 hE hB num h4
          · by_cases h5 : el p = iI ((119 : Nat) : Int)
            · exact stm_119 hd hz hp2 hE hB num h5
            · obtain ⟨h, e1, b1, b2, e4⟩ := here_i hd hz (p := p) (by omega) hE hB
              have no : ∀ ch : Int, 0 ≤ ch → ch ≤ 127 → ¬ el p = iI ch → ¬ iI h = iI ch := fun ch c1 c2 hne e => hne ((e4 ch c1 c2).mp ((iI_eq (by omega) (by omega) (by omega) (by omega)).mp e)).2
              refine Or.inr ⟨p, num, by omega, ?_, ?_⟩
              · unfold S_Shelf_faultOfStatement S_Shelf_digitsBehind
                rw [hasEl_i hz (by omega), if_pos hp2, if_neg (show ¬ (1 : Int32) = 0 by decide), if_neg (g_100 (by omega)), iI_N (by omega), if_neg (show ¬ el p = 100 from h1), if_neg (show ¬ el p = 108 from h2), if_neg (show ¬ el p = 109 from h3), if_neg (show ¬ el p = 114 from h4), if_neg (show ¬ el p = 119 from h5), if_pos rfl]
              · unfold S_MD_readsStatement
                rw [e1, o_b, if_neg (show ¬ iI h = 100 from no 100 (by omega) (by omega) h1), if_neg (show ¬ iI h = 108 from no 108 (by omega) (by omega) h2), if_neg (show ¬ iI h = 109 from no 109 (by omega) (by omega) h3), if_neg (show ¬ iI h = 114 from no 114 (by omega) (by omega) h4), if_neg (show ¬ iI h = 119 from no 119 (by omega) (by omega) h5), c_1, iI_add, iI_sub, show (p : Int) + 1 - 1 = p by omega]
  · obtain ⟨h, e1, b1, b2, e4⟩ := here_i hd hz (p := p) (by omega) hE hB
    have no : ∀ ch : Int, 0 ≤ ch → ch ≤ 127 → ¬ iI h = iI ch := fun ch c1 c2 e => hp2 ((e4 ch c1 c2).mp ((iI_eq (by omega) (by omega) (by omega) (by omega)).mp e)).1
    refine Or.inr ⟨p, num, by omega, ?_, ?_⟩
    · unfold S_Shelf_faultOfStatement
      rw [hasEl_i hz (by omega), if_neg hp2, if_pos rfl]
    · unfold S_MD_readsStatement
      rw [e1, o_b, if_neg (show ¬ iI h = 100 from no 100 (by omega) (by omega)), if_neg (show ¬ iI h = 108 from no 108 (by omega) (by omega)), if_neg (show ¬ iI h = 109 from no 109 (by omega) (by omega)), if_neg (show ¬ iI h = 114 from no 114 (by omega) (by omega)), if_neg (show ¬ iI h = 119 from no 119 (by omega) (by omega)), c_1, iI_add, iI_sub, show (p : Int) + 1 - 1 = p by omega]
