/-! class and reference, at the law's loop -/
def LR (v_hasImage : Int32) (nS : CS) (sS : CS) (h_kind : Nat → Int32) (h_figure : Nat → Int32) (h_sort : Nat → Int32) (h_size : Nat → Int32) (h_held : Nat → Int32) (h_el : Nat → Nat → Int32) (q_hasImage : Int32) (q_s : Nat → Int32) (q_image : Nat → Int32) (q_kept : Nat → Int32) (q_keptKind : Nat → Int32) (q_keptFigure : Nat → Int32) (q_sort : Nat → Int32) (q_size : Nat → Int32) (q_element : Nat → Int32) : Prop := ∃ c c2, Rl c nS q_s ∧ RI v_hasImage q_hasImage c2 sS q_image ∧ RSh h_kind h_figure h_sort h_size h_held h_el q_kept q_keptKind q_keptFigure q_sort q_size q_element
theorem RSh.of {hk hf hs hz hh hk2 hf2 hs2 hz2 hh2 : Nat → Int32} {he he2 : Nat → Nat → Int32} {K KK KF Q Z E K2 KK2 KF2 Q2 Z2 E2 : Nat → Int32} (h : RSh hk hf hs hz hh he K KK KF Q Z E) {d : Nat} (hd0 : RS (hk2 d) (hf2 d) (hs2 d) (hz2 d) (hh2 d) (he2 d) d K2 KK2 KF2 Q2 Z2 E2) (ho : ∀ j, ¬ j = d → hk2 j = hk j ∧ hf2 j = hf j ∧ hs2 j = hs j ∧ hz2 j = hz j ∧ hh2 j = hh j ∧ he2 j = he j ∧ K2 j = K j ∧ KK2 j = KK j ∧ KF2 j = KF j ∧ Q2 j = Q j ∧ Z2 j = Z j ∧ ∀ i, i < 100 → E2 (100 * j + i) = E (100 * j + i)) : RSh hk2 hf2 hs2 hz2 hh2 he2 K2 KK2 KF2 Q2 Z2 E2 := by
  intro j hj
  by_cases hjd : j = d
  · subst hjd
    exact hd0
  · obtain ⟨a1, a2, a3, a4, a5, a6, e1, e2, e3, e4, e5, e6⟩ := ho j hjd
    obtain ⟨b1, b2⟩ := h j hj
    unfold RS
    rw [a1, a2, a3, a4, a5, a6, e1, e2, e3, e4, e5]
    refine ⟨b1, ?_⟩
    rcases b2 with b2 | b2 | ⟨b2, s, z, c1, c2, c3, c4, c5, c6, c7, c8⟩
    · exact Or.inl b2
    · exact Or.inr (Or.inl b2)
    · exact Or.inr (Or.inr ⟨b2, s, z, c1, c2, c3, c4, c5, c6, (fun i hi => by rw [e6 i hi, c7 i hi]), c8⟩)
theorem shd_ex (x : Int32) : ∃ d, d < 8 ∧ Is x d ∧ (¬ (x < 0 ∨ 8 ≤ x.toNatClampNeg) → x.toNatClampNeg = d) := by
  by_cases h : x.toNatClampNeg < 8
  · refine ⟨x.toNatClampNeg, h, ⟨h, fun j hj hx => ?_⟩, fun _ => rfl⟩
    rw [hx, iI_N (by omega)]
  · refine ⟨0, by omega, ⟨by omega, fun j hj hx => ?_⟩, fun hn => absurd (Or.inr (by omega)) hn⟩
    exfalso
    rw [hx, iI_N (by omega)] at h
    exact h hj
theorem pushes_keep {x y : Int32} {S : CS} {o : Int32 × CS} (h : S_PL_pushes x y S = some o) : o.2.2.2.2.2.2.2.2.1 = S.2.2.2.2.2.2.2.1 ∧ o.2.2.2.2.2.2.2.2.2.1 = S.2.2.2.2.2.2.2.2.1 := by
  unfold S_PL_pushes at h
  split at h
  · cases Option.some.inj h; exact ⟨rfl, rfl⟩
  · split at h
    · cases Option.some.inj h; exact ⟨rfl, rfl⟩
    · split at h
      · cases h
      · cases Option.some.inj h; exact ⟨rfl, rfl⟩
theorem props_keep {x : Int32} {S : CS} {o : Int32 × CS} (h : S_PL_props x S = o) : o.2.2.2.2.2.2.2.2.1 = S.2.2.2.2.2.2.2.1 ∧ o.2.2.2.2.2.2.2.2.2.1 = S.2.2.2.2.2.2.2.2.1 ∧ o.2.2.2.2.2.2.2.2.2.2.1 = S.2.2.2.2.2.2.2.2.2.1 := by
  rw [← h]
  unfold S_PL_props
  split
  · exact ⟨rfl, rfl, rfl⟩
  · split <;> exact ⟨rfl, rfl, rfl⟩
theorem hangs_keep {x y : Int32} {S : CS} {o : Int32 × CS} (h : S_PL_hangs x y S = o) : o.2.2.2.2.2.2.2.2.1 = S.2.2.2.2.2.2.2.1 ∧ o.2.2.2.2.2.2.2.2.2.1 = S.2.2.2.2.2.2.2.2.1 ∧ o.2.2.2.2.2.2.2.2.2.2.1 = S.2.2.2.2.2.2.2.2.2.1 := by
  rw [← h]
  unfold S_PL_hangs
  split
  · exact ⟨rfl, rfl, rfl⟩
  · split
    · exact ⟨rfl, rfl, rfl⟩
    · exact ⟨rfl, rfl, rfl⟩
/-- the same city where the leans' rows are told equal -/
theorem Rl.to {c : MC} {S S2 : CS} {q : Nat → Int32} (h : Rl c S q) (e1 : S2.1 = S.1) (e2 : S2.2.1 = S.2.1) (e3 : S2.2.2.1 = S.2.2.1) (e4 : S2.2.2.2.1 = S.2.2.2.1) (e5 : S2.2.2.2.2.1 = S.2.2.2.2.1) (e6 : S2.2.2.2.2.2.1 = S.2.2.2.2.2.1) (e8 : S2.2.2.2.2.2.2.2.1 = S.2.2.2.2.2.2.2.1) (e9 : S2.2.2.2.2.2.2.2.2.1 = S.2.2.2.2.2.2.2.2.1) (e10 : S2.2.2.2.2.2.2.2.2.2.1 = S.2.2.2.2.2.2.2.2.2.1) : Rl c S2 q := by
  obtain ⟨hO, ⟨r1, r2, r3, r4, r5, r6, r7⟩, hq, hdy⟩ := h
  refine ⟨hO, ⟨e1.trans r1, e2.trans r2, e3.trans r3, e4.trans r4, e5.trans r5, e6.trans r6, ?_⟩, hq, hdy⟩
  rw [e8, e9, e10]
  exact r7
def lwN (p : Program) (l : Launch) (e : Env) (s : State) (m : MethodId) (below : List Frame) (meth : Method) (c : Code) (b : Nat) (D : va_G) (cI cM cS cJ : ClassId) (aV aN aS aT aW aM aK : Nat → Nat) (aH : Nat → Nat → Nat) (aR : Nat → Nat) (aO : Nat) (Q : State → Prop) (i : Nat) : Prop := ∀ {v_hasImage : Int32} {nS : CS} {sS : CS} {tS : CS} {mS : CS} {w_gains : Nat → Int32} {w_othersGains : Nat → Int32} {w_before : Nat → Int32} {h_kind : Nat → Int32} {h_figure : Nat → Int32} {h_sort : Nat → Int32} {h_size : Nat → Int32} {h_held : Nat → Int32} {h_el : Nat → Nat → Int32} {q_hasImage : Int32} {q_place : Int32} {q_rowAt : Int32} {q_rowEnd : Int32} {q_seed : Int32} {q_thrown : Int32} {q_s : Nat → Int32} {q_m : Nat → Int32} {q_was : Nat → Int32} {q_image : Nat → Int32} {q_numbers : Nat → Int32} {q_chain : Nat → Int32} {q_kept : Nat → Int32} {q_keptKind : Nat → Int32} {q_keptFigure : Nat → Int32} {q_sort : Nat → Int32} {q_size : Nat → Int32} {q_element : Nat → Int32} {g : Nat → Int64} {H : Heap} {locs : List Loc} {cells slots : Nat} {ls : Array Slot}, va_P D vwCl (WL cI cM cS cJ aV aN aS aT aW aM aK aH aR aO v_hasImage nS sS tS mS w_gains w_othersGains w_before h_kind h_figure h_sort h_size h_held h_el q_hasImage q_place q_rowAt q_rowEnd q_seed q_thrown q_s q_m q_was q_image q_numbers q_chain q_kept q_keptKind q_keptFigure q_sort q_size q_element g) H → va_D (fun q : Nat => s.heap.size ≤ q) (WL cI cM cS cJ aV aN aS aT aW aM aK aH aR aO v_hasImage nS sS tS mS w_gains w_othersGains w_before h_kind h_figure h_sort h_size h_held h_el q_hasImage q_place q_rowAt q_rowEnd q_seed q_thrown q_s q_m q_was q_image q_numbers q_chain q_kept q_keptKind q_keptFigure q_sort q_size q_element g) → va_S (fun q : Nat => s.heap.size ≤ q) s.heap H locs → lv_has ls 8 [(0, .ref b), (1, .ref (aV 0)), (2, .ref (aR 0)), (3, .ref aO), (4, .int (nI i))] → cells ≤ 100 + (i + 6) ∧ slots ≤ 3000 + (i + 6) → (LR v_hasImage nS sS h_kind h_figure h_sort h_size h_held h_el q_hasImage q_s q_image q_kept q_keptKind q_keptFigure q_sort q_size q_element) → W p l e room_1 s m #[Value.ref b] below meth c H locs cells slots Q (F0 m 1444 ls [])
