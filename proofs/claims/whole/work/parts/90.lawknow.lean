/-! what the machine knows at the law's entry -/
theorem lw_mem {b : Nat} {s : State} (hts : ∀ w ∈ lw_tbl, w.before #[Value.ref b] s = true) {ws : List Cond} (h : ws.all (fun w => decide (w ∈ lw_tbl)) = true) : ∀ w ∈ ws, w.before #[Value.ref b] s = true := fun w hw => hts w (of_decide_eq_true (List.all_eq_true.mp h w hw))
set_option maxRecDepth 20000 in
theorem lw_in0 : ∀ w ∈ u_ws RX0 TX0 0, w ∈ lw_tbl := fun w hw => of_decide_eq_true (List.all_eq_true.mp (show (u_ws RX0 TX0 0).all (fun w => decide (w ∈ lw_tbl)) = true by decide +kernel) w hw)
set_option maxRecDepth 20000 in
theorem lw_in1 : ∀ w ∈ u_ws RX1 TX1 0, w ∈ lw_tbl := fun w hw => of_decide_eq_true (List.all_eq_true.mp (show (u_ws RX1 TX1 0).all (fun w => decide (w ∈ lw_tbl)) = true by decide +kernel) w hw)
set_option maxRecDepth 20000 in
theorem lw_in2 : ∀ w ∈ u_ws RX2 TX2 12, w ∈ lw_tbl := fun w hw => of_decide_eq_true (List.all_eq_true.mp (show (u_ws RX2 TX2 12).all (fun w => decide (w ∈ lw_tbl)) = true by decide +kernel) w hw)
set_option maxRecDepth 20000 in
theorem lw_in3 : ∀ w ∈ u_ws RX3 TX3 0, w ∈ lw_tbl := fun w hw => of_decide_eq_true (List.all_eq_true.mp (show (u_ws RX3 TX3 0).all (fun w => decide (w ∈ lw_tbl)) = true by decide +kernel) w hw)
set_option maxRecDepth 20000 in
theorem lw_in4 : ∀ w ∈ u_ws RX4 TX4 0, w ∈ lw_tbl := fun w hw => of_decide_eq_true (List.all_eq_true.mp (show (u_ws RX4 TX4 0).all (fun w => decide (w ∈ lw_tbl)) = true by decide +kernel) w hw)
set_option maxRecDepth 20000 in
theorem lw_in5 : ∀ w ∈ u_ws RX5 TX5 5, w ∈ lw_tbl := fun w hw => of_decide_eq_true (List.all_eq_true.mp (show (u_ws RX5 TX5 5).all (fun w => decide (w ∈ lw_tbl)) = true by decide +kernel) w hw)
set_option maxRecDepth 20000 in
theorem lw_in6 : ∀ w ∈ u_ws RX6 TX6 0, w ∈ lw_tbl := fun w hw => of_decide_eq_true (List.all_eq_true.mp (show (u_ws RX6 TX6 0).all (fun w => decide (w ∈ lw_tbl)) = true by decide +kernel) w hw)
set_option maxRecDepth 20000 in
theorem lw_in7 : ∀ w ∈ u_ws RX7 TX7 0, w ∈ lw_tbl := fun w hw => of_decide_eq_true (List.all_eq_true.mp (show (u_ws RX7 TX7 0).all (fun w => decide (w ∈ lw_tbl)) = true by decide +kernel) w hw)
set_option maxRecDepth 20000 in
theorem lw_in8 : ∀ w ∈ u_ws RX8 TX8 0, w ∈ lw_tbl := fun w hw => of_decide_eq_true (List.all_eq_true.mp (show (u_ws RX8 TX8 0).all (fun w => decide (w ∈ lw_tbl)) = true by decide +kernel) w hw)
set_option maxRecDepth 20000 in
theorem lw_in9 : ∀ w ∈ u_ws RX9 TX9 7, w ∈ lw_tbl := fun w hw => of_decide_eq_true (List.all_eq_true.mp (show (u_ws RX9 TX9 7).all (fun w => decide (w ∈ lw_tbl)) = true by decide +kernel) w hw)
set_option maxRecDepth 20000 in
theorem lw_in10 : ∀ w ∈ u_ws RX10 TX10 0, w ∈ lw_tbl := fun w hw => of_decide_eq_true (List.all_eq_true.mp (show (u_ws RX10 TX10 0).all (fun w => decide (w ∈ lw_tbl)) = true by decide +kernel) w hw)
set_option maxRecDepth 20000 in
theorem lw_in11 : ∀ w ∈ u_ws RX11 TX11 6, w ∈ lw_tbl := fun w hw => of_decide_eq_true (List.all_eq_true.mp (show (u_ws RX11 TX11 6).all (fun w => decide (w ∈ lw_tbl)) = true by decide +kernel) w hw)
set_option maxRecDepth 20000 in
theorem lw_in12 : ∀ w ∈ u_ws RX12 TX12 18, w ∈ lw_tbl := fun w hw => of_decide_eq_true (List.all_eq_true.mp (show (u_ws RX12 TX12 18).all (fun w => decide (w ∈ lw_tbl)) = true by decide +kernel) w hw)
theorem lw_cls {b : Nat} {s : State} (hts : ∀ w ∈ lw_tbl, w.before #[Value.ref b] s = true) : ∀ c : Nat, ∃ q : ClassId × (Nat → Nat), ∀ r : vw_C, vwCl[c]? = some r → u_Kn s r.1 r.2.1 r.2.2 q.1 q.2 := fun c => match c with
  | 0 => by
    obtain ⟨c0, i0, h⟩ := u_known (C := RX0) (T := TX0) (N := 0) (n := 0) hts lw_in0 (hts (.instantiable RX0 0) (by decide +kernel))
    exact ⟨(c0, i0), fun r hr => by cases hr; exact h⟩
  | 1 => by
    obtain ⟨c0, i0, h⟩ := u_known (C := RX1) (T := TX1) (N := 0) (n := 0) hts lw_in1 (hts (.instantiable RX1 0) (by decide +kernel))
    exact ⟨(c0, i0), fun r hr => by cases hr; exact h⟩
  | 2 => by
    obtain ⟨c0, i0, h⟩ := u_known (C := RX2) (T := TX2) (N := 12) (n := 12) hts lw_in2 (hts (.instantiable RX2 12) (by decide +kernel))
    exact ⟨(c0, i0), fun r hr => by cases hr; exact h⟩
  | 3 => by
    obtain ⟨c0, i0, h⟩ := u_known (C := RX3) (T := TX3) (N := 0) (n := 0) hts lw_in3 (hts (.instantiable RX3 0) (by decide +kernel))
    exact ⟨(c0, i0), fun r hr => by cases hr; exact h⟩
  | 4 => by
    obtain ⟨c0, i0, h⟩ := u_known (C := RX4) (T := TX4) (N := 0) (n := 0) hts lw_in4 (hts (.instantiable RX4 0) (by decide +kernel))
    exact ⟨(c0, i0), fun r hr => by cases hr; exact h⟩
  | 5 => by
    obtain ⟨c0, i0, h⟩ := u_known (C := RX5) (T := TX5) (N := 5) (n := 5) hts lw_in5 (hts (.instantiable RX5 5) (by decide +kernel))
    exact ⟨(c0, i0), fun r hr => by cases hr; exact h⟩
  | 6 => by
    obtain ⟨c0, i0, h⟩ := u_known (C := RX6) (T := TX6) (N := 0) (n := 0) hts lw_in6 (hts (.instantiable RX6 0) (by decide +kernel))
    exact ⟨(c0, i0), fun r hr => by cases hr; exact h⟩
  | 7 => by
    obtain ⟨c0, i0, h⟩ := u_known (C := RX7) (T := TX7) (N := 0) (n := 0) hts lw_in7 (hts (.instantiable RX7 0) (by decide +kernel))
    exact ⟨(c0, i0), fun r hr => by cases hr; exact h⟩
  | 8 => by
    obtain ⟨c0, i0, h⟩ := u_known (C := RX8) (T := TX8) (N := 0) (n := 0) hts lw_in8 (hts (.instantiable RX8 0) (by decide +kernel))
    exact ⟨(c0, i0), fun r hr => by cases hr; exact h⟩
  | 9 => by
    obtain ⟨c0, i0, h⟩ := u_known (C := RX9) (T := TX9) (N := 7) (n := 7) hts lw_in9 (hts (.instantiable RX9 7) (by decide +kernel))
    exact ⟨(c0, i0), fun r hr => by cases hr; exact h⟩
  | 10 => by
    obtain ⟨c0, i0, h⟩ := u_known (C := RX10) (T := TX10) (N := 0) (n := 0) hts lw_in10 (hts (.instantiable RX10 0) (by decide +kernel))
    exact ⟨(c0, i0), fun r hr => by cases hr; exact h⟩
  | 11 => by
    obtain ⟨c0, i0, h⟩ := u_known (C := RX11) (T := TX11) (N := 6) (n := 6) hts lw_in11 (hts (.instantiable RX11 6) (by decide +kernel))
    exact ⟨(c0, i0), fun r hr => by cases hr; exact h⟩
  | 12 => by
    obtain ⟨c0, i0, h⟩ := u_known (C := RX12) (T := TX12) (N := 18) (n := 18) hts lw_in12 (hts (.instantiable RX12 18) (by decide +kernel))
    exact ⟨(c0, i0), fun r hr => by cases hr; exact h⟩
  | c + 13 => ⟨(0, fun _ => 0), fun r hr => by simp at hr⟩
theorem lw_arr {b : Nat} {s : State} {ty : FieldType} (h : (Cond.arrayClass ty).before #[Value.ref b] s = true) : ∃ cA, ArrOfT s cA ty ∧ s.vm.findClass ("[" ++ ty.toString) = some cA := by
  obtain ⟨cA, kA, comp, h1, h2, h3⟩ := Cond.arrayClass_spec h
  exact ⟨cA, fun n z => ⟨fun k h => (by cases h), kA, h2, comp, h3⟩, h1⟩
theorem lw_arq {s : State} {C : String} (h : va_AO C s) : ∃ cA, ArrOfT s cA (.object C) ∧ va_RA s cA (.object C) := by
  obtain ⟨comp, c, k, h1, h2, h3, h4, h5⟩ := Cond.arrayOver_spec h
  exact ⟨c, fun n z => ⟨fun k h => (by cases h), k, h3, comp, h4⟩, k, comp, h3, h4, h1, h5⟩
theorem lw_castSelf {s : State} {C : String} {c : ClassId} (h : ClassAt s C c) : va_Nw (.castable C C) s := by
  have h1 := h.1
  have h2 := va_assign h
  unfold va_Nw Cond.before Cond.holds
  simp [Cond.value, h1, h2]
theorem lw_str {b : Nat} {s : State} {q : String × Nat × String} (h1 : (Cond.stringRef q.1 q.2.1 q.2.2).before #[Value.ref b] s = true) (h2 : (Cond.exactly (.string q.1 q.2.1) "java/lang/String").before #[Value.ref b] s = true) : ∃ sa : Nat, vk_R q.1 q.2.1 q.2.2 sa s := by
  obtain ⟨a, c, cell, k, h3, -⟩ := Cond.exactly_spec h2
  exact ⟨a, vk_R.of h1 h3⟩
set_option maxRecDepth 20000 in
set_option maxHeartbeats 4000000 in
theorem lw_know {p : Program} {s : State} {m : MethodId} {meth : Method} {c : Code} {b L : Nat} {xs : Nat → Int32} (C0 : lw_At p s m meth c b L xs) : ∃ (D : va_G) (cI cM cS cJ : ClassId), va_K D vwCl (kT cI cM cS cJ) s ∧ kN s ∧ kC s ∧ kXs (fun q : Nat => s.heap.size ≤ q) s s.heap ∧ kXt s := by
  obtain ⟨hx, hb, hr, hml, hown, hts, hX, hbl, hlocks, hgv⟩ := id C0
  have hg := flat_of_before _ hgv
  have hKc : ∀ (k : Nat) (q : vw_C), vwCl[k]? = some q → u_Kn s q.1 q.2.1 q.2.2 (Classical.choose (lw_cls hts k)).1 (Classical.choose (lw_cls hts k)).2 := fun k q hq => Classical.choose_spec (lw_cls hts k) q hq
  have hA4 : va_AO RX4 s := va_AO.of (hts (.arrayOver (.object RX4)) (by decide +kernel))
  have hA9 : va_AO RX9 s := va_AO.of (hts (.arrayOver (.object RX9)) (by decide +kernel))
  obtain ⟨cI, i1, i2⟩ := lw_arr (hts (.arrayClass .int) (by decide +kernel))
  obtain ⟨cJ, j1, j2⟩ := lw_arr (hts (.arrayClass .long) (by decide +kernel))
  obtain ⟨cM, m1, m2⟩ := lw_arq hA4
  obtain ⟨cS, s1, s2⟩ := lw_arq hA9
  have hA : ∀ a : Nat, a < s.heap.size → ¬ (fun q : Nat => s.heap.size ≤ q) a := fun a h => Nat.not_le.mpr h
  refine ⟨(fun k => (Classical.choose (lw_cls hts k)).1, fun k => (Classical.choose (lw_cls hts k)).2), cI, cM, cS, cJ, ⟨hKc, fun k q hq => ?_⟩, ⟨fun q hq => ?_, fun w hw => ?_⟩, ⟨hA4, hA9, fun C hC => ?_⟩, ⟨?_, ?_⟩, fun E hE => ?_, fun q hq => ?_, ?_, ?_, ?_, fun x hx => ?_⟩
  · match k, hq with
    | 0, hq => cases hq; exact ⟨i1, i2⟩
    | 1, hq => cases hq; exact ⟨m1, m2⟩
    | 2, hq => cases hq; exact ⟨s1, s2⟩
    | 3, hq => cases hq; exact ⟨j1, j2⟩
    | k + 4, hq => simp at hq
  · exact va_Nw.of rfl (lw_mem hts (ws := kNest.map fun q => Cond.methodLinkNest q.1 q.2.1 q.2.2 RX11) (by decide +kernel) _ (List.mem_map.mpr ⟨q, hq, rfl⟩))
  · have z := kExtra_ok w hw
    simp only [Bool.and_eq_true] at z
    exact va_Nw.of z.1 (lw_mem hts (ws := kExtra) (by decide +kernel) w hw)
  · rcases List.mem_cons.mp hC with rfl | hC
    · exact lw_castSelf (hKc 4 _ rfl).2
    · exact va_Nw.of rfl (lw_mem hts (ws := (kCast.drop 1).map fun C => Cond.castable C RX4) (by decide +kernel) _ (List.mem_map.mpr ⟨C, hC, rfl⟩))
  · exact vx_Zqof (hts (.laysStatic Bundle.tN "UNASSIGNED_STACK" Bundle.steD) (by decide +kernel)) (hts (.initialized Bundle.tN) (by decide +kernel)) (hg (.isRef (.static Bundle.tN "UNASSIGNED_STACK" Bundle.steD)) (by decide +kernel)) hA
  · exact vx_Zqof (hts (.laysStatic Bundle.tN "SUPPRESSED_SENTINEL" Bundle.listD) (by decide +kernel)) (hts (.initialized Bundle.tN) (by decide +kernel)) (hg (.isRef (.static Bundle.tN "SUPPRESSED_SENTINEL" Bundle.listD)) (by decide +kernel)) hA
  · exact va_Nw.of rfl (lw_mem hts (ws := kErr.map fun C => Cond.castable C C) (by decide +kernel) _ (List.mem_map.mpr ⟨E, hE, rfl⟩))
  · exact lw_str (lw_mem hts (ws := kTexts.map fun q => Cond.stringRef q.1 q.2.1 q.2.2) (by decide +kernel) _ (List.mem_map.mpr ⟨q, hq, rfl⟩)) (hg _ (of_decide_eq_true (List.all_eq_true.mp (show (kTexts.map fun q => Cond.exactly (.string q.1 q.2.1) "java/lang/String").all (fun w => decide (w ∈ flatC (Jvm.Cond.and given_1 narrow_1))) = true by decide +kernel) _ (List.mem_map.mpr ⟨q, hq, rfl⟩))))
  · exact va_Nc.of (hg (.not (.castable "java/lang/IllegalArgumentException" "java/lang/UnsupportedOperationException")) (by decide +kernel))
  · exact va_Nc.of (hg (.not (.castable "java/lang/IllegalStateException" "java/lang/UnsupportedOperationException")) (by decide +kernel))
  · exact va_Nc.of (hg (.not (.castable "java/lang/IllegalStateException" "java/lang/IllegalArgumentException")) (by decide +kernel))
  · exact va_Nw.of rfl (lw_mem hts (ws := kDecls.map Cond.declares) (by decide +kernel) _ (List.mem_map.mpr ⟨x, hx, rfl⟩))
/-- nothing is laid yet: class and reference are alike -/
theorem lw_alike : LR 0 (0, 0, 0, 0, 0, 0, 0, fun _ => 0, fun _ => 0, fun _ => 0, fun _ => 0) (0, 0, 0, 0, 0, 0, 0, fun _ => 0, fun _ => 0, fun _ => 0, fun _ => 0) (fun _ => 0) (fun _ => 0) (fun _ => 0) (fun _ => 0) (fun _ => 0) (fun _ _ => 0) 0 (fun _ => 0) (fun _ => 0) (fun _ => 0) (fun _ => 0) (fun _ => 0) (fun _ => 0) (fun _ => 0) (fun _ => 0) := by
  refine ⟨(0, fun _ => 0, fun _ => 0, fun _ => 0, fun _ => false, 0, 0, 0, 0), (0, fun _ => 0, fun _ => 0, fun _ => 0, fun _ => false, 0, 0, 0, 0), ⟨⟨?_, by decide, by decide, by decide⟩, ⟨rfl, rfl, rfl, rfl, rfl, rfl, fun i hi => absurd hi (Nat.not_lt_zero i)⟩, ⟨rfl, rfl, rfl, rfl, rfl, fun i hi => absurd hi (Nat.not_lt_zero i)⟩, by decide⟩, ⟨rfl, Or.inl rfl⟩, fun j hj => ⟨rfl, Or.inl rfl⟩⟩
  exact ⟨by decide, fun i hi => absurd hi (Nat.not_lt_zero i)⟩
