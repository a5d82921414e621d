/-! image, restore -/
theorem cpy8 {α : Type} (f g : Nat → α) {i : Nat} (hi : i < 8) : va_cpy f g (0 : Int32).toNatClampNeg (0 : Int32).toNatClampNeg (8 : Int32).toNatClampNeg i = f i := by
  show va_cpy f g 0 0 8 i = f i
  unfold va_cpy
  rw [if_pos (by omega)]
  congr 1
  omega
theorem ca_cpy {n : Nat} {k f : Nat → Nat} {a : Nat → Int} {kind figure lean k2 f2 l2 : Nat → Int32} (hn : n ≤ 8) (h : CA n k f a kind figure lean) : CA n k f a (va_cpy kind k2 (0 : Int32).toNatClampNeg (0 : Int32).toNatClampNeg (8 : Int32).toNatClampNeg) (va_cpy figure f2 (0 : Int32).toNatClampNeg (0 : Int32).toNatClampNeg (8 : Int32).toNatClampNeg) (va_cpy lean l2 (0 : Int32).toNatClampNeg (0 : Int32).toNatClampNeg (8 : Int32).toNatClampNeg) := fun i hi => by
  rw [cpy8 _ _ (by omega), cpy8 _ _ (by omega), cpy8 _ _ (by omega)]
  exact h i hi
theorem m_copies (f g : Nat → Int32) : ∃ o, S_MD_copies f g = some o ∧ ∀ i, i < 37 → o i = f i := by
  unfold S_MD_copies
  refine for_i (fun n j s => S_MD_copies_L2 f n (iI j) s) (fun j s => ∀ i, i < j → s i = f i) (fun o => ∀ i, i < 37 → o i = f i) 37 (fun n j s hj hI kk => ?_) (fun n s hI => ?_) lfu g (by unfold lfu; omega) (fun i hi => absurd hi (Nat.not_lt_zero i))
  · obtain ⟨o, k1, k2⟩ := kk (upd s j (f j)) (fun i hi => by
      by_cases hij : i = j
      · subst hij; rw [upd_same]
      · rw [upd_ne _ _ hij]; exact hI i (by omega))
    refine ⟨o, ?_, k2⟩
    rw [← k1]
    show S_MD_copies_L2 f (n + 1) _ _ = _
    rw [S_MD_copies_L2]
    simp (disch := omega) only [Int.toNat_natCast, if_true, if_false, iI_add, iI_sub, iI_mul, iI_neg, iI_le, iI_lt, iI_eq, iI_N, iI_Nz, c_0, c_1, c_2, c_3, c_4, c_5, c_6, c_7, c_8, c_9, c_10, c_11, c_12, c_13, c_16, c_20, c_23, c_26, c_30, c_31, c_32, c_37, c_45, c_48, c_57, c_59, c_60, c_63, c_64, c_90, c_91, c_97, c_100, c_108, c_109, c_114, c_119, c_127, c_128, c_200, c_255, c_256, c_999, c_1000, c_2000, c_12345, c_32768, c_65536, t_0, t_1, t_2, t_3, t_4, Int.natCast_add, Int.natCast_mul, Int.cast_ofNat_Int, Int.natCast_succ, if_pos, if_neg]
  · refine ⟨s, ?_, hI⟩
    show S_MD_copies_L2 f (n + 1) _ _ = _
    rw [S_MD_copies_L2]
    simp (disch := omega) only [Int.toNat_natCast, if_true, if_false, iI_add, iI_sub, iI_mul, iI_neg, iI_le, iI_lt, iI_eq, iI_N, iI_Nz, c_0, c_1, c_2, c_3, c_4, c_5, c_6, c_7, c_8, c_9, c_10, c_11, c_12, c_13, c_16, c_20, c_23, c_26, c_30, c_31, c_32, c_37, c_45, c_48, c_57, c_59, c_60, c_63, c_64, c_90, c_91, c_97, c_100, c_108, c_109, c_114, c_119, c_127, c_128, c_200, c_255, c_256, c_999, c_1000, c_2000, c_12345, c_32768, c_65536, t_0, t_1, t_2, t_3, t_4, Int.natCast_add, Int.natCast_mul, Int.cast_ofNat_Int, Int.natCast_succ, if_pos, if_neg]
theorem MRow.cp {c : MC} {q o : Nat → Int32} (hn : c.n ≤ 8) (h : MRow c q) (ho : ∀ i, i < 37 → o i = q i) : MRow c o := by
  obtain ⟨h0, h1, h2, h3, h4, h5⟩ := h
  refine ⟨by rw [ho _ (by omega)]; exact h0, by rw [ho _ (by omega)]; exact h1, by rw [ho _ (by omega)]; exact h2, by rw [ho _ (by omega)]; exact h3, by rw [ho _ (by omega)]; exact h4, fun i hi => ?_⟩
  rw [ho _ (by omega), ho _ (by omega), ho _ (by omega), ho _ (by omega)]
  exact h5 i hi
/-- what is kept of an image, in class and reference -/
def RI (v w : Int32) (c : MC) (S : CS) (q : Nat → Int32) : Prop := v = w ∧ (v = 0 ∨ v = 1 ∧ Rl c S q)
theorem op_image {c : MC} {S sS : CS} {q qi : Nat → Int32} {v w : Int32} (h : Rl c S q) : ∃ r sS' qi', S_PL_image v S sS = some (r, 1, sS') ∧ S_MD_image w q qi = some (r, 1, qi') ∧ RI 1 1 c sS' qi' := by
  obtain ⟨hO, ⟨r1, r2, r3, r4, r5, r6, r7⟩, hq, hdy⟩ := h
  obtain ⟨o, k1, k2⟩ := m_copies q qi
  unfold S_PL_image S_MD_image S_City_becomes
  rw [o_b, k1, o_b]
  refine ⟨_, _, o, rfl, ?_, rfl, Or.inr ⟨rfl, hO, ⟨r1, r2, r3, r4, r5, r6, ca_cpy hO.1.1 r7⟩, hq.cp hO.1.1 k2, hdy⟩⟩
  show some (q 1, 1, o) = _
  rw [hq.2.1, r6]
theorem op_restore {c c2 : MC} {S sS : CS} {q qi : Nat → Int32} {v w : Int32} (h : Rl c S q) (hi : RI v w c2 sS qi) : ∃ r S' q' c', S_PL_restore v S sS = some (r, S') ∧ S_MD_restore w q qi = some (r, q') ∧ Rl c' S' q' := by
  obtain ⟨rfl, hv⟩ := hi
  unfold S_PL_restore S_MD_restore S_City_becomes
  rcases hv with rfl | ⟨rfl, hO, ⟨r1, r2, r3, r4, r5, r6, r7⟩, hq, hdy⟩
  · rw [if_pos rfl, if_pos rfl]
    exact ⟨_, _, _, c, rfl, rfl, h⟩
  · obtain ⟨o, k1, k2⟩ := m_copies qi q
    rw [if_neg (show ¬ (1 : Int32) = 0 by decide), if_neg (show ¬ (1 : Int32) = 0 by decide), o_b, k1, o_b]
    refine ⟨_, _, o, c2, rfl, ?_, hO, ⟨r1, r2, r3, r4, r5, r6, ca_cpy hO.1.1 r7⟩, hq.cp hO.1.1 k2, hdy⟩
    show some (o 1, o) = _
    rw [(hq.cp hO.1.1 k2).2.1]
    show _ = some (sS.2.2.2.2.2.1, o)
    rw [r6]
