abbrev rm_X2_far : Room := { frames := 1, cells := 0, slots := 0, locals := 40 }
set_option maxHeartbeats 4000000 in
set_option maxRecDepth 100000 in
theorem c_City_far (l : Launch) (D : va_G) (cI cM cS cJ : ClassId) (aC : Nat → Nat) (aK : Nat → Nat) (sz : Nat) (x1 : Int32) (c_men : Int32) (c_propped : Int32) (c_place : Int32) (c_swings : Int32) (c_crashes : Int32) (c_day : Int32) (c_crashedToday : Int32) (c_lean : Nat → Int32) {o : (Int32)} (hsem : S_City_far x1 c_lean = some o) : kMet l yX2_far wsX2_far rm_X2_far [.ref (aC 0), .int x1] D (kT cI cM cS cJ) (Wd11 cI aC aK c_men c_propped c_place c_swings c_crashes c_day c_crashedToday c_lean) sz (some (.int o)) (Wd11 cI aC aK c_men c_propped c_place c_swings c_crashes c_day c_crashedToday c_lean) := by
  refine k_metI (by decide) rfl rfl (Nat.le_of_ble_eq_true rfl) ?_
  intro p e s m below meth c ls Q A hx hb hml hts hown hK hN hA hP hD hS hl hsz hnm hret
  have hown : s.vm.findClass RX2 = some m.cls := hown
  have hf18 := hts (.fieldLink RX2 18 "PlumbLine$City" "lean" "[I") (List.mem_of_getElem? (i := 1) rfl)
  have hiX2 : ∀ w ∈ u_ws RX2 TX2 12, w ∈ wsX2_far := fun w h => List.mem_cons_of_mem _ (List.mem_append_right _ h)
  replace hl : lv_has ls 2 [(0, .ref (aC 0)), (1, .int x1)] := hl
  have h := hsem
  clear hsem
  rw [S_City_far] at h
  refine lv_aload_n hx hb dX2_far_0 rfl (lv_at hl 0 rfl) ?_
  refine va_get (D := D) (ci := 2) (v := .ref (aC 3)) (C := RX2) (T := TX2) (N := 12) hx hb hts hiX2 hown hK hP 0 rfl rfl 2 (by decide) hf18 (fun _ z => z) rfl dX2_far_1 ?_
  refine lv_iload_n hx hb dX2_far_4 rfl (lv_at hl 1 rfl) ?_
  obtain ⟨g5, h⟩ := k_guard h
  refine va_iald hx hb hK hP 1 0 rfl rfl g5 dX2_far_5 ?_
  refine k_mabs (own := RX2) (index := 149) hx hb (hml.trans hl.1.symm) hown (hts _ (List.mem_of_getElem? (i := 2) rfl)) (hts _ (List.mem_of_getElem? (i := 3) rfl)) (hts _ (List.mem_of_getElem? (i := 4) rfl)) (hts _ (List.mem_of_getElem? (i := 5) rfl)) (Nat.le_of_ble_eq_true rfl) (Nat.le_of_ble_eq_true rfl) (Nat.zero_le _) (Nat.zero_le _) dX2_far_6 ?_
  cases h
  exact hret _ _ _ _ hP hS dX2_far_9
abbrev Wd14 (cI : ClassId) (cM : ClassId) (aC : Nat → Nat) (aK : Nat → Nat) (c_men : Int32) (c_propped : Int32) (c_place : Int32) (c_swings : Int32) (c_crashes : Int32) (c_day : Int32) (c_crashedToday : Int32) (c_kind : Nat → Int32) (c_figure : Nat → Int32) : va_W := [((aC 0), .inr (2, [.ref (aC 1), .ref (aC 2), .ref (aC 3), .int c_men, .int c_propped, .int c_place, .int c_swings, .int c_crashes, .int c_day, .int c_crashedToday, .ref (aK 8), .ref (aC 4)])), ((aC 1), .inl (cI, 8, .inl c_kind)), ((aC 2), .inl (cI, 8, .inl c_figure)), ((aK 8), .inl (cM, 8, .inr (.inr (.inr (.inr (fun k => some (aK k))))))), ((aK 0), .inr (4, [])), ((aK 1), .inr (0, [])), ((aK 2), .inr (7, [])), ((aK 3), .inr (3, [])), ((aK 4), .inr (1, [])), ((aK 5), .inr (8, [])), ((aK 6), .inr (10, [])), ((aK 7), .inr (6, []))]
abbrev rm_X2_isUprightAt : Room := { frames := 2, cells := 0, slots := 0, locals := 42 }
set_option maxHeartbeats 4000000 in
set_option maxRecDepth 100000 in
theorem c_City_isUprightAt (l : Launch) (D : va_G) (cI cM cS cJ : ClassId) (aC : Nat → Nat) (aK : Nat → Nat) (sz : Nat) (x1 : Int32) (x2 : Int32) (c_men : Int32) (c_propped : Int32) (c_place : Int32) (c_swings : Int32) (c_crashes : Int32) (c_day : Int32) (c_crashedToday : Int32) (c_kind : Nat → Int32) (c_figure : Nat → Int32) {o : (Int32)} (hsem : S_City_isUprightAt x1 x2 c_kind c_figure = some o) : kMet l yX2_isUprightAt wsX2_isUprightAt rm_X2_isUprightAt [.ref (aC 0), .int x1, .int x2] D (kT cI cM cS cJ) (Wd14 cI cM aC aK c_men c_propped c_place c_swings c_crashes c_day c_crashedToday c_kind c_figure) sz (some (.int o)) (Wd14 cI cM aC aK c_men c_propped c_place c_swings c_crashes c_day c_crashedToday c_kind c_figure) := by
  refine k_metZ (by decide) rfl rfl (Nat.le_of_ble_eq_true rfl) ?_
  intro p e s m below meth c ls Q A hx hb hml hts hown hK hN hA hP hD hS hl hsz hnm hret
  have hown : s.vm.findClass RX2 = some m.cls := hown
  have hf24 := hts (.fieldLink RX2 24 "PlumbLine$City" "kinds" "[LPlumbLine$Man;") (List.mem_of_getElem? (i := 1) rfl)
  have hf9 := hts (.fieldLink RX2 9 "PlumbLine$City" "kind" "[I") (List.mem_of_getElem? (i := 2) rfl)
  have hf15 := hts (.fieldLink RX2 15 "PlumbLine$City" "figure" "[I") (List.mem_of_getElem? (i := 3) rfl)
  have hiX2 : ∀ w ∈ u_ws RX2 TX2 12, w ∈ wsX2_isUprightAt := fun w h => List.mem_cons_of_mem _ (List.mem_append_right _ h)
  replace hl : lv_has ls 3 [(0, .ref (aC 0)), (1, .int x1), (2, .int x2)] := hl
  have h := hsem
  clear hsem
  rw [S_City_isUprightAt] at h
  refine lv_iload_n hx hb dX2_isUprightAt_0 rfl (lv_at hl 2 rfl) ?_
  refine lv_aload_n hx hb dX2_isUprightAt_1 rfl (lv_at hl 0 rfl) ?_
  refine va_get (D := D) (ci := 2) (v := .ref (aK 8)) (C := RX2) (T := TX2) (N := 12) hx hb hts hiX2 hown hK hP 0 rfl rfl 10 (by decide) hf24 (fun _ z => z) rfl dX2_isUprightAt_2 ?_
  refine lv_aload_n hx hb dX2_isUprightAt_5 rfl (lv_at hl 0 rfl) ?_
  refine va_get (D := D) (ci := 2) (v := .ref (aC 1)) (C := RX2) (T := TX2) (N := 12) hx hb hts hiX2 hown hK hP 0 rfl rfl 0 (by decide) hf9 (fun _ z => z) rfl dX2_isUprightAt_6 ?_
  refine lv_iload_n hx hb dX2_isUprightAt_9 rfl (lv_at hl 1 rfl) ?_
  obtain ⟨g10, h⟩ := k_guard h
  refine va_iald hx hb hK hP 1 0 rfl rfl g10 dX2_isUprightAt_10 ?_
  obtain ⟨g11, h⟩ := k_guard h
  refine k_aldR (f := aK) hx hb hK hP 3 1 rfl rfl g11 dX2_isUprightAt_11 ?_
  refine lv_aload_n hx hb dX2_isUprightAt_12 rfl (lv_at hl 0 rfl) ?_
  refine va_get (D := D) (ci := 2) (v := .ref (aC 2)) (C := RX2) (T := TX2) (N := 12) hx hb hts hiX2 hown hK hP 0 rfl rfl 1 (by decide) hf15 (fun _ z => z) rfl dX2_isUprightAt_13 ?_
  refine lv_iload_n hx hb dX2_isUprightAt_16 rfl (lv_at hl 1 rfl) ?_
  refine va_iald hx hb hK hP 2 0 rfl rfl g10 dX2_isUprightAt_17 ?_
  have V18 : ∀ (H : Heap) (locs : List Loc), va_P D vwCl (Wd14 cI cM aC aK c_men c_propped c_place c_swings c_crashes c_day c_crashedToday c_kind c_figure) H → va_D A (Wd14 cI cM aC aK c_men c_propped c_place c_swings c_crashes c_day c_crashedToday c_kind c_figure) → va_S A s.heap H locs → W p l e rm_X2_isUprightAt s m ([.ref (aC 0), .int x1, .int x2] : List Value).toArray below meth c H locs 0 0 Q (F0 m 21 ls [.int (V_uprightWithin (c_kind x1.toNatClampNeg).toNatClampNeg (c_figure x1.toNatClampNeg)), .int x2]) := by
    intro H locs hP hD hS
    refine lv_icmp_gt (tgt := 28) hx hb dX2_isUprightAt_21 (by decide) (fun c21 => ?_) (fun c21 => ?_)
    · have h := k_pos c21 h
      refine lv_iconst (v := 0) hx hb dX2_isUprightAt_28 (by decide) ?_
      cases h
      exact hret _ _ _ _ rfl hP hS dX2_isUprightAt_29
    · have h := k_neg c21 h
      refine lv_iconst (v := 1) hx hb dX2_isUprightAt_24 (by decide) ?_
      refine lv_goto (tgt := 29) hx hb dX2_isUprightAt_25 (by decide) ?_
      cases h
      exact hret _ _ _ _ rfl hP hS dX2_isUprightAt_29
  generalize hk18 : (c_kind x1.toNatClampNeg).toNatClampNeg = k18 at V18 ⊢
  have hb18 : k18 < 8 := by rw [← hk18]; exact Nat.not_le.mp (fun z => g11 (Or.inr z))
  rcases k_8 hb18 with e | e | e | e | e | e | e | e <;> subst e
  · exact k_callV (As := [.int (c_figure x1.toNatClampNeg)]) (rest := [.int x2]) (st1 := [.int (S_Man_uprightWithin (c_figure x1.toNatClampNeg)), .int x2]) hx hb hml hown hts hK hN hA hP hD hS hl (c_Man_uprightWithin l D cI cM cS cJ (aK 0) 4 s.heap.size (c_figure x1.toNatClampNeg) rfl) gX2_isUprightAt_X4_uprightWithin rfl kdV_X4_uprightWithin 0 4 rfl rfl rfl [4] ⟨rfl, rfl⟩ ⟨Nat.le_of_ble_eq_true rfl, Nat.le_of_ble_eq_true rfl⟩ ⟨Nat.zero_le _, Nat.zero_le _⟩ rfl rfl (by decide +kernel) (k_rp rfl (by decide +kernel)) rfl rfl (Nat.le_of_ble_eq_true rfl) dX2_isUprightAt_18 rfl V18
  · exact k_callU (wy' := []) (As := [.int (c_figure x1.toNatClampNeg)]) (rest := [.int x2]) (st1 := [.int (S_Banker_uprightWithin (c_figure x1.toNatClampNeg)), .int x2]) hx hb hml hown hts hK hN hA hP hD hS hl (c_Banker_uprightWithin l D cI cM cS cJ (aK 1) 0 s.heap.size (c_figure x1.toNatClampNeg) rfl) (va_cwO 1 hts gX2_isUprightAt_X0_uprightWithin_u159X0 rfl rfl rfl (List.mem_of_getElem? (i := 11) rfl) kdM_uprightWithin ⟨Nat.le_of_ble_eq_true rfl, Nat.le_of_ble_eq_true rfl⟩) 0 0 rfl rfl rfl [5] ⟨Nat.zero_le _, Nat.zero_le _⟩ rfl rfl (by decide +kernel) (k_rp rfl (by decide +kernel)) rfl rfl (Nat.le_of_ble_eq_true rfl) dX2_isUprightAt_18 rfl V18
  · exact k_callU (wy' := []) (As := [.int (c_figure x1.toNatClampNeg)]) (rest := [.int x2]) (st1 := [.int (S_Quaker_uprightWithin (c_figure x1.toNatClampNeg)), .int x2]) hx hb hml hown hts hK hN hA hP hD hS hl (c_Quaker_uprightWithin l D cI cM cS cJ (aK 2) 7 s.heap.size (c_figure x1.toNatClampNeg) rfl) (va_cwO 1 hts gX2_isUprightAt_X7_uprightWithin_u159X7 rfl rfl rfl (List.mem_of_getElem? (i := 11) rfl) kdM_uprightWithin ⟨Nat.le_of_ble_eq_true rfl, Nat.le_of_ble_eq_true rfl⟩) 0 7 rfl rfl rfl [6] ⟨Nat.zero_le _, Nat.zero_le _⟩ rfl rfl (by decide +kernel) (k_rp rfl (by decide +kernel)) rfl rfl (Nat.le_of_ble_eq_true rfl) dX2_isUprightAt_18 rfl V18
  · exact k_callU (wy' := []) (As := [.int (c_figure x1.toNatClampNeg)]) (rest := [.int x2]) (st1 := [.int (S_Clerk_uprightWithin (c_figure x1.toNatClampNeg)), .int x2]) hx hb hml hown hts hK hN hA hP hD hS hl (c_Clerk_uprightWithin l D cI cM cS cJ (aK 3) 3 s.heap.size (c_figure x1.toNatClampNeg) rfl rfl) (va_cwO 1 hts gX2_isUprightAt_X3_uprightWithin_u159X3 rfl rfl rfl (List.mem_of_getElem? (i := 11) rfl) kdM_uprightWithin ⟨Nat.le_of_ble_eq_true rfl, Nat.le_of_ble_eq_true rfl⟩) 0 3 rfl rfl rfl [7] ⟨Nat.zero_le _, Nat.zero_le _⟩ rfl rfl (by decide +kernel) (k_rp rfl (by decide +kernel)) rfl rfl (Nat.le_of_ble_eq_true rfl) dX2_isUprightAt_18 rfl V18
  · exact k_callU (wy' := []) (As := [.int (c_figure x1.toNatClampNeg)]) (rest := [.int x2]) (st1 := [.int (S_Broker_uprightWithin (c_figure x1.toNatClampNeg)), .int x2]) hx hb hml hown hts hK hN hA hP hD hS hl (c_Broker_uprightWithin l D cI cM cS cJ (aK 4) 1 s.heap.size (c_figure x1.toNatClampNeg) rfl rfl) (va_cwO 1 hts gX2_isUprightAt_X1_uprightWithin_u159X1 rfl rfl rfl (List.mem_of_getElem? (i := 11) rfl) kdM_uprightWithin ⟨Nat.le_of_ble_eq_true rfl, Nat.le_of_ble_eq_true rfl⟩) 0 1 rfl rfl rfl [8] ⟨Nat.zero_le _, Nat.zero_le _⟩ rfl rfl (by decide +kernel) (k_rp rfl (by decide +kernel)) rfl rfl (Nat.le_of_ble_eq_true rfl) dX2_isUprightAt_18 rfl V18
  · exact k_callU (wy' := []) (As := [.int (c_figure x1.toNatClampNeg)]) (rest := [.int x2]) (st1 := [.int (S_Scrubber_uprightWithin (c_figure x1.toNatClampNeg)), .int x2]) hx hb hml hown hts hK hN hA hP hD hS hl (c_Scrubber_uprightWithin l D cI cM cS cJ (aK 5) 8 s.heap.size (c_figure x1.toNatClampNeg) rfl) (va_cwO 1 hts gX2_isUprightAt_X8_uprightWithin_u159X8 rfl rfl rfl (List.mem_of_getElem? (i := 11) rfl) kdM_uprightWithin ⟨Nat.le_of_ble_eq_true rfl, Nat.le_of_ble_eq_true rfl⟩) 0 8 rfl rfl rfl [9] ⟨Nat.zero_le _, Nat.zero_le _⟩ rfl rfl (by decide +kernel) (k_rp rfl (by decide +kernel)) rfl rfl (Nat.le_of_ble_eq_true rfl) dX2_isUprightAt_18 rfl V18
  · exact k_callU (wy' := []) (As := [.int (c_figure x1.toNatClampNeg)]) (rest := [.int x2]) (st1 := [.int (S_Broker_uprightWithin (c_figure x1.toNatClampNeg)), .int x2]) hx hb hml hown hts hK hN hA hP hD hS hl (c_Broker_uprightWithin l D cI cM cS cJ (aK 6) 10 s.heap.size (c_figure x1.toNatClampNeg) rfl rfl) (va_cwO 1 hts gX2_isUprightAt_X1_uprightWithin_u159X10 rfl rfl rfl (List.mem_of_getElem? (i := 11) rfl) kdM_uprightWithin ⟨Nat.le_of_ble_eq_true rfl, Nat.le_of_ble_eq_true rfl⟩) 0 10 rfl rfl rfl [10] ⟨Nat.zero_le _, Nat.zero_le _⟩ rfl rfl (by decide +kernel) (k_rp rfl (by decide +kernel)) rfl rfl (Nat.le_of_ble_eq_true rfl) dX2_isUprightAt_18 rfl V18
  · exact k_callU (wy' := []) (As := [.int (c_figure x1.toNatClampNeg)]) (rest := [.int x2]) (st1 := [.int (S_Clerk_uprightWithin (c_figure x1.toNatClampNeg)), .int x2]) hx hb hml hown hts hK hN hA hP hD hS hl (c_Clerk_uprightWithin l D cI cM cS cJ (aK 7) 6 s.heap.size (c_figure x1.toNatClampNeg) rfl rfl) (va_cwO 1 hts gX2_isUprightAt_X3_uprightWithin_u159X6 rfl rfl rfl (List.mem_of_getElem? (i := 11) rfl) kdM_uprightWithin ⟨Nat.le_of_ble_eq_true rfl, Nat.le_of_ble_eq_true rfl⟩) 0 6 rfl rfl rfl [11] ⟨Nat.zero_le _, Nat.zero_le _⟩ rfl rfl (by decide +kernel) (k_rp rfl (by decide +kernel)) rfl rfl (Nat.le_of_ble_eq_true rfl) dX2_isUprightAt_18 rfl V18
theorem kdV_X2_far : yX2_far.cls = RX2 ∧ yX2_far.cls ≠ "java/lang/invoke/MethodHandle" ∧ yX2_far.cls ≠ "java/lang/invoke/VarHandle" ∧ (parseMethodDescriptor yX2_far.desc).map (fun d => d.parameters.length) = some 1 := by decide +kernel
theorem kdV_X2_isUprightAt : yX2_isUprightAt.cls = RX2 ∧ yX2_isUprightAt.cls ≠ "java/lang/invoke/MethodHandle" ∧ yX2_isUprightAt.cls ≠ "java/lang/invoke/VarHandle" ∧ (parseMethodDescriptor yX2_isUprightAt.desc).map (fun d => d.parameters.length) = some 2 := by decide +kernel
abbrev rm_X2_isUpright : Room := { frames := 3, cells := 0, slots := 0, locals := 64 }
set_option maxHeartbeats 4000000 in
set_option maxRecDepth 100000 in
theorem c_City_isUpright (l : Launch) (D : va_G) (cI cM cS cJ : ClassId) (aC : Nat → Nat) (aK : Nat → Nat) (sz : Nat) (x1 : Int32) (c_men : Int32) (c_propped : Int32) (c_place : Int32) (c_swings : Int32) (c_crashes : Int32) (c_day : Int32) (c_crashedToday : Int32) (c_kind : Nat → Int32) (c_figure : Nat → Int32) (c_lean : Nat → Int32) {o : (Int32)} (hsem : S_City_isUpright x1 c_kind c_figure c_lean = some o) : kMet l yX2_isUpright wsX2_isUpright rm_X2_isUpright [.ref (aC 0), .int x1] D (kT cI cM cS cJ) (Wd12 cI cM aC aK c_men c_propped c_place c_swings c_crashes c_day c_crashedToday c_kind c_figure c_lean) sz (some (.int o)) (Wd12 cI cM aC aK c_men c_propped c_place c_swings c_crashes c_day c_crashedToday c_kind c_figure c_lean) := by
  refine k_metZ (by decide) rfl rfl (Nat.le_of_ble_eq_true rfl) ?_
  intro p e s m below meth c ls Q A hx hb hml hts hown hK hN hA hP hD hS hl hsz hnm hret
  have hown : s.vm.findClass RX2 = some m.cls := hown
  replace hl : lv_has ls 2 [(0, .ref (aC 0)), (1, .int x1)] := hl
  have h := hsem
  clear hsem
  rw [S_City_isUpright] at h
  refine lv_aload_n hx hb dX2_isUpright_0 rfl (lv_at hl 0 rfl) ?_
  refine lv_iload_n hx hb dX2_isUpright_1 rfl (lv_at hl 1 rfl) ?_
  refine lv_aload_n hx hb dX2_isUpright_2 rfl (lv_at hl 0 rfl) ?_
  refine lv_iload_n hx hb dX2_isUpright_3 rfl (lv_at hl 1 rfl) ?_
  obtain ⟨r4, g4, h⟩ := k_bind h
  refine k_callV (As := [.int x1]) (rest := [.int x1, .ref (aC 0)]) (st1 := [.int r4, .int x1, .ref (aC 0)]) (ws2 := (Wd12 cI cM aC aK c_men c_propped c_place c_swings c_crashes c_day c_crashedToday c_kind c_figure c_lean)) hx hb hml hown hts hK hN hA hP hD hS hl (c_City_far l D cI cM cS cJ aC aK s.heap.size x1 c_men c_propped c_place c_swings c_crashes c_day c_crashedToday c_lean g4) gX2_isUpright_X2_far rfl kdV_X2_far 0 2 rfl rfl rfl [0, 3] ⟨rfl, rfl⟩ ⟨Nat.le_of_ble_eq_true rfl, Nat.le_of_ble_eq_true rfl⟩ ⟨Nat.zero_le _, Nat.zero_le _⟩ rfl rfl (by decide +kernel) (k_rp rfl (by decide +kernel)) rfl rfl (Nat.le_of_ble_eq_true rfl) dX2_isUpright_4 rfl (fun H locs hP hD hS => ?_)
  obtain ⟨r7, g7, h⟩ := k_bind h
  refine k_callV (As := [.int x1, .int r4]) (rest := []) (st1 := [.int r7]) (ws2 := (Wd12 cI cM aC aK c_men c_propped c_place c_swings c_crashes c_day c_crashedToday c_kind c_figure c_lean)) hx hb hml hown hts hK hN hA hP hD hS hl (c_City_isUprightAt l D cI cM cS cJ aC aK H.size x1 r4 c_men c_propped c_place c_swings c_crashes c_day c_crashedToday c_kind c_figure g7) gX2_isUpright_X2_isUprightAt rfl kdV_X2_isUprightAt 0 2 rfl rfl rfl [0, 1, 2, 4, 5, 6, 7, 8, 9, 10, 11, 12] ⟨rfl, rfl⟩ ⟨Nat.le_of_ble_eq_true rfl, Nat.le_of_ble_eq_true rfl⟩ ⟨Nat.zero_le _, Nat.zero_le _⟩ rfl rfl (by decide +kernel) (k_rp rfl (by decide +kernel)) rfl rfl (Nat.le_of_ble_eq_true rfl) dX2_isUpright_7 rfl (fun H locs hP hD hS => ?_)
  obtain ⟨g10, h⟩ := k_guard h
  cases h
  exact hret _ _ _ _ (k_z01 g10) hP hS dX2_isUpright_10
theorem kdV_X4_discountAt : yX4_discountAt.cls = RX4 ∧ yX4_discountAt.cls ≠ "java/lang/invoke/MethodHandle" ∧ yX4_discountAt.cls ≠ "java/lang/invoke/VarHandle" ∧ (parseMethodDescriptor yX4_discountAt.desc).map (fun d => d.parameters.length) = some 2 := by decide +kernel
theorem kdM_discountAt : "PlumbLine$Man" ≠ "java/lang/invoke/MethodHandle" ∧ "PlumbLine$Man" ≠ "java/lang/invoke/VarHandle" ∧ (parseMethodDescriptor "(II)I").map (fun d => d.parameters.length) = some 2 := by decide +kernel
abbrev rm_X2_discountOf : Room := { frames := 2, cells := 0, slots := 0, locals := 61 }
set_option maxHeartbeats 4000000 in
set_option maxRecDepth 100000 in
theorem c_City_discountOf (l : Launch) (D : va_G) (cI cM cS cJ : ClassId) (aC : Nat → Nat) (aK : Nat → Nat) (sz : Nat) (x1 : Int32) (c_men : Int32) (c_propped : Int32) (c_place : Int32) (c_swings : Int32) (c_crashes : Int32) (c_day : Int32) (c_crashedToday : Int32) (c_kind : Nat → Int32) (c_figure : Nat → Int32) (c_lean : Nat → Int32) {o : (Int32)} (hsem : S_City_discountOf x1 c_kind c_figure c_lean = some o) : kMet l yX2_discountOf wsX2_discountOf rm_X2_discountOf [.ref (aC 0), .int x1] D (kT cI cM cS cJ) (Wd12 cI cM aC aK c_men c_propped c_place c_swings c_crashes c_day c_crashedToday c_kind c_figure c_lean) sz (some (.int o)) (Wd12 cI cM aC aK c_men c_propped c_place c_swings c_crashes c_day c_crashedToday c_kind c_figure c_lean) := by
  refine k_metI (by decide) rfl rfl (Nat.le_of_ble_eq_true rfl) ?_
  intro p e s m below meth c ls Q A hx hb hml hts hown hK hN hA hP hD hS hl hsz hnm hret
  have hown : s.vm.findClass RX2 = some m.cls := hown
  have hf24 := hts (.fieldLink RX2 24 "PlumbLine$City" "kinds" "[LPlumbLine$Man;") (List.mem_of_getElem? (i := 1) rfl)
  have hf9 := hts (.fieldLink RX2 9 "PlumbLine$City" "kind" "[I") (List.mem_of_getElem? (i := 2) rfl)
  have hf15 := hts (.fieldLink RX2 15 "PlumbLine$City" "figure" "[I") (List.mem_of_getElem? (i := 3) rfl)
  have hiX2 : ∀ w ∈ u_ws RX2 TX2 12, w ∈ wsX2_discountOf := fun w h => List.mem_cons_of_mem _ (List.mem_append_right _ h)
  replace hl : lv_has ls 2 [(0, .ref (aC 0)), (1, .int x1)] := hl
  have h := hsem
  clear hsem
  rw [S_City_discountOf] at h
  refine lv_aload_n hx hb dX2_discountOf_0 rfl (lv_at hl 0 rfl) ?_
  refine va_get (D := D) (ci := 2) (v := .ref (aK 8)) (C := RX2) (T := TX2) (N := 12) hx hb hts hiX2 hown hK hP 0 rfl rfl 10 (by decide) hf24 (fun _ z => z) rfl dX2_discountOf_1 ?_
  refine lv_aload_n hx hb dX2_discountOf_4 rfl (lv_at hl 0 rfl) ?_
  refine va_get (D := D) (ci := 2) (v := .ref (aC 1)) (C := RX2) (T := TX2) (N := 12) hx hb hts hiX2 hown hK hP 0 rfl rfl 0 (by decide) hf9 (fun _ z => z) rfl dX2_discountOf_5 ?_
  refine lv_iload_n hx hb dX2_discountOf_8 rfl (lv_at hl 1 rfl) ?_
  obtain ⟨g9, h⟩ := k_guard h
  refine va_iald hx hb hK hP 1 0 rfl rfl g9 dX2_discountOf_9 ?_
  obtain ⟨g10, h⟩ := k_guard h
  refine k_aldR (f := aK) hx hb hK hP 4 1 rfl rfl g10 dX2_discountOf_10 ?_
  refine lv_aload_n hx hb dX2_discountOf_11 rfl (lv_at hl 0 rfl) ?_
  refine lv_iload_n hx hb dX2_discountOf_12 rfl (lv_at hl 1 rfl) ?_
  obtain ⟨r13, g13, h⟩ := k_bind h
  refine k_callV (As := [.int x1]) (rest := [.ref (aK (c_kind x1.toNatClampNeg).toNatClampNeg)]) (st1 := [.int r13, .ref (aK (c_kind x1.toNatClampNeg).toNatClampNeg)]) (ws2 := (Wd12 cI cM aC aK c_men c_propped c_place c_swings c_crashes c_day c_crashedToday c_kind c_figure c_lean)) hx hb hml hown hts hK hN hA hP hD hS hl (c_City_far l D cI cM cS cJ aC aK s.heap.size x1 c_men c_propped c_place c_swings c_crashes c_day c_crashedToday c_lean g13) gX2_discountOf_X2_far rfl kdV_X2_far 0 2 rfl rfl rfl [0, 3] ⟨rfl, rfl⟩ ⟨Nat.le_of_ble_eq_true rfl, Nat.le_of_ble_eq_true rfl⟩ ⟨Nat.zero_le _, Nat.zero_le _⟩ rfl rfl (by decide +kernel) (k_rp rfl (by decide +kernel)) rfl rfl (Nat.le_of_ble_eq_true rfl) dX2_discountOf_13 rfl (fun H locs hP hD hS => ?_)
  refine lv_aload_n hx hb dX2_discountOf_16 rfl (lv_at hl 0 rfl) ?_
  refine va_get (D := D) (ci := 2) (v := .ref (aC 2)) (C := RX2) (T := TX2) (N := 12) hx hb hts hiX2 hown hK hP 0 rfl rfl 1 (by decide) hf15 (fun _ z => z) rfl dX2_discountOf_17 ?_
  refine lv_iload_n hx hb dX2_discountOf_20 rfl (lv_at hl 1 rfl) ?_
  refine va_iald hx hb hK hP 2 0 rfl rfl g9 dX2_discountOf_21 ?_
  have V22 : ∀ (H : Heap) (locs : List Loc), va_P D vwCl (Wd12 cI cM aC aK c_men c_propped c_place c_swings c_crashes c_day c_crashedToday c_kind c_figure c_lean) H → va_D A (Wd12 cI cM aC aK c_men c_propped c_place c_swings c_crashes c_day c_crashedToday c_kind c_figure c_lean) → va_S A s.heap H locs → W p l e rm_X2_discountOf s m ([.ref (aC 0), .int x1] : List Value).toArray below meth c H locs 0 0 Q (F0 m 25 ls [.int (V_discountAt (c_kind x1.toNatClampNeg).toNatClampNeg r13 (c_figure x1.toNatClampNeg))]) := by
    intro H locs hP hD hS
    cases h
    exact hret _ _ _ _ hP hS dX2_discountOf_25
  generalize hk22 : (c_kind x1.toNatClampNeg).toNatClampNeg = k22 at V22 ⊢
  have hb22 : k22 < 8 := by rw [← hk22]; exact Nat.not_le.mp (fun z => g10 (Or.inr z))
  rcases k_8 hb22 with e | e | e | e | e | e | e | e <;> subst e
  · exact k_callV (As := [.int r13, .int (c_figure x1.toNatClampNeg)]) (rest := []) (st1 := [.int (S_Man_discountAt r13 (c_figure x1.toNatClampNeg))]) hx hb hml hown hts hK hN hA hP hD hS hl (c_Man_discountAt l D cI cM cS cJ (aK 0) 4 H.size r13 (c_figure x1.toNatClampNeg) rfl) gX2_discountOf_X4_discountAt rfl kdV_X4_discountAt 0 4 rfl rfl rfl [5] ⟨rfl, rfl⟩ ⟨Nat.le_of_ble_eq_true rfl, Nat.le_of_ble_eq_true rfl⟩ ⟨Nat.zero_le _, Nat.zero_le _⟩ rfl rfl (by decide +kernel) (k_rp rfl (by decide +kernel)) rfl rfl (Nat.le_of_ble_eq_true rfl) dX2_discountOf_22 rfl V22
  · exact k_callU (wy' := []) (As := [.int r13, .int (c_figure x1.toNatClampNeg)]) (rest := []) (st1 := [.int (S_Banker_discountAt r13 (c_figure x1.toNatClampNeg))]) hx hb hml hown hts hK hN hA hP hD hS hl (c_Banker_discountAt l D cI cM cS cJ (aK 1) 0 H.size r13 (c_figure x1.toNatClampNeg) rfl) (va_cwO 2 hts gX2_discountOf_X0_discountAt_u162X0 rfl rfl rfl (List.mem_of_getElem? (i := 21) rfl) kdM_discountAt ⟨Nat.le_of_ble_eq_true rfl, Nat.le_of_ble_eq_true rfl⟩) 0 0 rfl rfl rfl [6] ⟨Nat.zero_le _, Nat.zero_le _⟩ rfl rfl (by decide +kernel) (k_rp rfl (by decide +kernel)) rfl rfl (Nat.le_of_ble_eq_true rfl) dX2_discountOf_22 rfl V22
  · exact k_callU (wy' := []) (As := [.int r13, .int (c_figure x1.toNatClampNeg)]) (rest := []) (st1 := [.int (S_Quaker_discountAt r13 (c_figure x1.toNatClampNeg))]) hx hb hml hown hts hK hN hA hP hD hS hl (c_Quaker_discountAt l D cI cM cS cJ (aK 2) 7 H.size r13 (c_figure x1.toNatClampNeg) rfl) (va_cwO 2 hts gX2_discountOf_X7_discountAt_u162X7 rfl rfl rfl (List.mem_of_getElem? (i := 21) rfl) kdM_discountAt ⟨Nat.le_of_ble_eq_true rfl, Nat.le_of_ble_eq_true rfl⟩) 0 7 rfl rfl rfl [7] ⟨Nat.zero_le _, Nat.zero_le _⟩ rfl rfl (by decide +kernel) (k_rp rfl (by decide +kernel)) rfl rfl (Nat.le_of_ble_eq_true rfl) dX2_discountOf_22 rfl V22
  · exact k_callU (wy' := []) (As := [.int r13, .int (c_figure x1.toNatClampNeg)]) (rest := []) (st1 := [.int (S_Man_discountAt r13 (c_figure x1.toNatClampNeg))]) hx hb hml hown hts hK hN hA hP hD hS hl (c_Man_discountAt l D cI cM cS cJ (aK 3) 3 H.size r13 (c_figure x1.toNatClampNeg) rfl) (va_cwU 2 hts gX2_discountOf_X4_discountAt_u162X3 rfl rfl rfl rfl kdM_discountAt ⟨Nat.le_of_ble_eq_true rfl, Nat.le_of_ble_eq_true rfl⟩) 0 3 rfl rfl rfl [8] ⟨Nat.zero_le _, Nat.zero_le _⟩ rfl rfl (by decide +kernel) (k_rp rfl (by decide +kernel)) rfl rfl (Nat.le_of_ble_eq_true rfl) dX2_discountOf_22 rfl V22
  · exact k_callU (wy' := []) (As := [.int r13, .int (c_figure x1.toNatClampNeg)]) (rest := []) (st1 := [.int (S_Broker_discountAt r13 (c_figure x1.toNatClampNeg))]) hx hb hml hown hts hK hN hA hP hD hS hl (c_Broker_discountAt l D cI cM cS cJ (aK 4) 1 H.size r13 (c_figure x1.toNatClampNeg) rfl rfl) (va_cwO 2 hts gX2_discountOf_X1_discountAt_u162X1 rfl rfl rfl (List.mem_of_getElem? (i := 21) rfl) kdM_discountAt ⟨Nat.le_of_ble_eq_true rfl, Nat.le_of_ble_eq_true rfl⟩) 0 1 rfl rfl rfl [9] ⟨Nat.zero_le _, Nat.zero_le _⟩ rfl rfl (by decide +kernel) (k_rp rfl (by decide +kernel)) rfl rfl (Nat.le_of_ble_eq_true rfl) dX2_discountOf_22 rfl V22
  · exact k_callU (wy' := []) (As := [.int r13, .int (c_figure x1.toNatClampNeg)]) (rest := []) (st1 := [.int (S_Scrubber_discountAt r13 (c_figure x1.toNatClampNeg))]) hx hb hml hown hts hK hN hA hP hD hS hl (c_Scrubber_discountAt l D cI cM cS cJ (aK 5) 8 H.size r13 (c_figure x1.toNatClampNeg) rfl) (va_cwO 2 hts gX2_discountOf_X8_discountAt_u162X8 rfl rfl rfl (List.mem_of_getElem? (i := 21) rfl) kdM_discountAt ⟨Nat.le_of_ble_eq_true rfl, Nat.le_of_ble_eq_true rfl⟩) 0 8 rfl rfl rfl [10] ⟨Nat.zero_le _, Nat.zero_le _⟩ rfl rfl (by decide +kernel) (k_rp rfl (by decide +kernel)) rfl rfl (Nat.le_of_ble_eq_true rfl) dX2_discountOf_22 rfl V22
  · exact k_callU (wy' := []) (As := [.int r13, .int (c_figure x1.toNatClampNeg)]) (rest := []) (st1 := [.int (S_Swindler_discountAt r13 (c_figure x1.toNatClampNeg))]) hx hb hml hown hts hK hN hA hP hD hS hl (c_Swindler_discountAt l D cI cM cS cJ (aK 6) 10 H.size r13 (c_figure x1.toNatClampNeg) rfl) (va_cwO 2 hts gX2_discountOf_X10_discountAt_u162X10 rfl rfl rfl (List.mem_of_getElem? (i := 21) rfl) kdM_discountAt ⟨Nat.le_of_ble_eq_true rfl, Nat.le_of_ble_eq_true rfl⟩) 0 10 rfl rfl rfl [11] ⟨Nat.zero_le _, Nat.zero_le _⟩ rfl rfl (by decide +kernel) (k_rp rfl (by decide +kernel)) rfl rfl (Nat.le_of_ble_eq_true rfl) dX2_discountOf_22 rfl V22
  · exact k_callU (wy' := []) (As := [.int r13, .int (c_figure x1.toNatClampNeg)]) (rest := []) (st1 := [.int (S_Partner_discountAt r13 (c_figure x1.toNatClampNeg))]) hx hb hml hown hts hK hN hA hP hD hS hl (c_Partner_discountAt l D cI cM cS cJ (aK 7) 6 H.size r13 (c_figure x1.toNatClampNeg) rfl rfl) (va_cwO 2 hts gX2_discountOf_X6_discountAt_u162X6 rfl rfl rfl (List.mem_of_getElem? (i := 21) rfl) kdM_discountAt ⟨Nat.le_of_ble_eq_true rfl, Nat.le_of_ble_eq_true rfl⟩) 0 6 rfl rfl rfl [12] ⟨Nat.zero_le _, Nat.zero_le _⟩ rfl rfl (by decide +kernel) (k_rp rfl (by decide +kernel)) rfl rfl (Nat.le_of_ble_eq_true rfl) dX2_discountOf_22 rfl V22
theorem kdV_X2_discountOf : yX2_discountOf.cls = RX2 ∧ yX2_discountOf.cls ≠ "java/lang/invoke/MethodHandle" ∧ yX2_discountOf.cls ≠ "java/lang/invoke/VarHandle" ∧ (parseMethodDescriptor yX2_discountOf.desc).map (fun d => d.parameters.length) = some 1 := by decide +kernel
abbrev rm_X2_discountOfAll : Room := { frames := 3, cells := 0, slots := 0, locals := 82 }
set_option maxHeartbeats 4000000 in
set_option maxRecDepth 100000 in
theorem c_City_discountOfAll (l : Launch) (D : va_G) (cI cM cS cJ : ClassId) (aC : Nat → Nat) (aK : Nat → Nat) (sz : Nat) (c_men : Int32) (c_propped : Int32) (c_place : Int32) (c_swings : Int32) (c_crashes : Int32) (c_day : Int32) (c_crashedToday : Int32) (c_kind : Nat → Int32) (c_figure : Nat → Int32) (c_lean : Nat → Int32) {o : (Int32)} (hsem : S_City_discountOfAll c_men c_kind c_figure c_lean = some o) : kMet l yX2_discountOfAll wsX2_discountOfAll rm_X2_discountOfAll [.ref (aC 0)] D (kT cI cM cS cJ) (Wd12 cI cM aC aK c_men c_propped c_place c_swings c_crashes c_day c_crashedToday c_kind c_figure c_lean) sz (some (.int o)) (Wd12 cI cM aC aK c_men c_propped c_place c_swings c_crashes c_day c_crashedToday c_kind c_figure c_lean) := by
  refine k_metI (by decide) rfl rfl (Nat.le_of_ble_eq_true rfl) ?_
  intro p e s m below meth c ls Q A hx hb hml hts hown hK hN hA hP hD hS hl hsz hnm hret
  have hown : s.vm.findClass RX2 = some m.cls := hown
  have hf34 := hts (.fieldLink RX2 34 "PlumbLine$City" "men" "I") (List.mem_of_getElem? (i := 1) rfl)
  have hiX2 : ∀ w ∈ u_ws RX2 TX2 12, w ∈ wsX2_discountOfAll := fun w h => List.mem_cons_of_mem _ (List.mem_append_right _ h)
  replace hl : lv_has ls 3 [(0, .ref (aC 0))] := hl
  have h := hsem
  clear hsem
  rw [S_City_discountOfAll] at h
  refine lv_iconst (v := 0) hx hb dX2_discountOfAll_0 (by decide) ?_
  refine lv_istore_n (lv' := [(1, .int 0), (0, .ref (aC 0))]) hx hb dX2_discountOfAll_1 rfl hl (by decide) rfl (fun ls hl => ?_)
  refine lv_iconst (v := 0) hx hb dX2_discountOfAll_2 (by decide) ?_
  have B4 : ∀ (n4 : Nat) (y1 : Int32) (y2 : Int32) (H : Heap) (locs : List Loc) (ls : Array Slot), va_P D vwCl (Wd12 cI cM aC aK c_men c_propped c_place c_swings c_crashes c_day c_crashedToday c_kind c_figure c_lean) H → va_D A (Wd12 cI cM aC aK c_men c_propped c_place c_swings c_crashes c_day c_crashedToday c_kind c_figure c_lean) → va_S A s.heap H locs → lv_has ls 3 [(0, .ref (aC 0)), (1, .int y1), (2, .int y2)] → S_City_discountOfAll_L4 c_men c_kind c_figure c_lean n4 y1 y2 = some o → W p l e rm_X2_discountOfAll s m ([.ref (aC 0)] : List Value).toArray below meth c H locs 0 0 Q (F0 m 4 ls []) := by
    intro n4
    induction n4 with
    | zero => intro y1 y2 H locs ls hP hD hS hl h; exact absurd h (by simp [S_City_discountOfAll_L4])
    | succ n4 ih4 =>
      intro y1 y2 H locs ls hP hD hS hl h
      rw [S_City_discountOfAll_L4] at h
      refine lv_iload_n hx hb dX2_discountOfAll_4 rfl (lv_at hl 2 rfl) ?_
      refine lv_aload_n hx hb dX2_discountOfAll_5 rfl (lv_at hl 0 rfl) ?_
      refine va_get (D := D) (ci := 2) (v := .int c_men) (C := RX2) (T := TX2) (N := 12) hx hb hts hiX2 hown hK hP 0 rfl rfl 3 (by decide) hf34 (fun _ z => z) rfl dX2_discountOfAll_6 ?_
      refine lv_icmp_ge (tgt := 26) hx hb dX2_discountOfAll_9 (by decide) (fun c9 => ?_) (fun c9 => ?_)
      · have h := k_pos c9 h
        refine lv_iload_n hx hb dX2_discountOfAll_26 rfl (lv_at hl 1 rfl) ?_
        cases h
        exact hret _ _ _ _ hP hS dX2_discountOfAll_27
      · have h := k_neg c9 h
        refine lv_iload_n hx hb dX2_discountOfAll_12 rfl (lv_at hl 1 rfl) ?_
        refine lv_aload_n hx hb dX2_discountOfAll_13 rfl (lv_at hl 0 rfl) ?_
        refine lv_iload_n hx hb dX2_discountOfAll_14 rfl (lv_at hl 2 rfl) ?_
        obtain ⟨r15, g15, h⟩ := k_bind h
        refine k_callV (As := [.int y2]) (rest := [.int y1]) (st1 := [.int r15, .int y1]) (ws2 := (Wd12 cI cM aC aK c_men c_propped c_place c_swings c_crashes c_day c_crashedToday c_kind c_figure c_lean)) hx hb hml hown hts hK hN hA hP hD hS hl (c_City_discountOf l D cI cM cS cJ aC aK H.size y2 c_men c_propped c_place c_swings c_crashes c_day c_crashedToday c_kind c_figure c_lean g15) gX2_discountOfAll_X2_discountOf rfl kdV_X2_discountOf 0 2 rfl rfl rfl [0, 1, 2, 3, 4, 5, 6, 7, 8, 9, 10, 11, 12] ⟨rfl, rfl⟩ ⟨Nat.le_of_ble_eq_true rfl, Nat.le_of_ble_eq_true rfl⟩ ⟨Nat.zero_le _, Nat.zero_le _⟩ rfl rfl (by decide +kernel) (k_rp rfl (by decide +kernel)) rfl rfl (Nat.le_of_ble_eq_true rfl) dX2_discountOfAll_15 rfl (fun H locs hP hD hS => ?_)
        refine lv_iadd hx hb dX2_discountOfAll_18 ?_
        refine lv_istore_n (lv' := [(1, .int (y1 + r15)), (0, .ref (aC 0)), (2, .int y2)]) hx hb dX2_discountOfAll_19 rfl hl (by decide) rfl (fun ls hl => ?_)
        refine lv_iinc (v := (y2 + 1)) (lv' := [(2, .int (y2 + 1)), (1, .int (y1 + r15)), (0, .ref (aC 0))]) hx hb dX2_discountOfAll_20 hl (k := 2) rfl (by first | rfl | decide) (by decide) rfl (fun ls hl => ?_)
        refine lv_goto (tgt := 4) hx hb dX2_discountOfAll_23 (by decide) ?_
        exact ih4 (y1 + r15) (y2 + 1) H locs ls hP hD hS (lv_sub hl [2, 1, 0] rfl) h
  refine lv_istore_n (lv' := [(2, .int 0), (1, .int 0), (0, .ref (aC 0))]) hx hb dX2_discountOfAll_3 rfl hl (by decide) rfl (fun ls hl => ?_)
  exact B4 lfu 0 0 s.heap [] ls hP hD hS (lv_sub hl [2, 1, 0] rfl) h
abbrev rm_X2_east : Room := { frames := 0, cells := 0, slots := 0, locals := 0 }
set_option maxHeartbeats 4000000 in
set_option maxRecDepth 100000 in
theorem c_City_east (l : Launch) (D : va_G) (cI cM cS cJ : ClassId) (aC : Nat → Nat) (aK : Nat → Nat) (sz : Nat) (c_men : Int32) (c_propped : Int32) (c_place : Int32) (c_swings : Int32) (c_crashes : Int32) (c_day : Int32) (c_crashedToday : Int32) (c_lean : Nat → Int32) {o : (Int32)} (hsem : S_City_east c_men c_lean = some o) : kMet l yX2_east wsX2_east rm_X2_east [.ref (aC 0)] D (kT cI cM cS cJ) (Wd11 cI aC aK c_men c_propped c_place c_swings c_crashes c_day c_crashedToday c_lean) sz (some (.int o)) (Wd11 cI aC aK c_men c_propped c_place c_swings c_crashes c_day c_crashedToday c_lean) := by
  refine k_metI (by decide) rfl rfl (Nat.le_of_ble_eq_true rfl) ?_
  intro p e s m below meth c ls Q A hx hb hml hts hown hK hN hA hP hD hS hl hsz hnm hret
  have hown : s.vm.findClass RX2 = some m.cls := hown
  have hf34 := hts (.fieldLink RX2 34 "PlumbLine$City" "men" "I") (List.mem_of_getElem? (i := 1) rfl)
  have hf18 := hts (.fieldLink RX2 18 "PlumbLine$City" "lean" "[I") (List.mem_of_getElem? (i := 2) rfl)
  have hiX2 : ∀ w ∈ u_ws RX2 TX2 12, w ∈ wsX2_east := fun w h => List.mem_cons_of_mem _ (List.mem_append_right _ h)
  replace hl : lv_has ls 3 [(0, .ref (aC 0))] := hl
  have h := hsem
  clear hsem
  rw [S_City_east] at h
  refine lv_iconst (v := 0) hx hb dX2_east_0 (by decide) ?_
  refine lv_istore_n (lv' := [(1, .int 0), (0, .ref (aC 0))]) hx hb dX2_east_1 rfl hl (by decide) rfl (fun ls hl => ?_)
  refine lv_iconst (v := 0) hx hb dX2_east_2 (by decide) ?_
  have B4 : ∀ (n4 : Nat) (y1 : Int32) (y2 : Int32) (H : Heap) (locs : List Loc) (ls : Array Slot), va_P D vwCl (Wd11 cI aC aK c_men c_propped c_place c_swings c_crashes c_day c_crashedToday c_lean) H → va_D A (Wd11 cI aC aK c_men c_propped c_place c_swings c_crashes c_day c_crashedToday c_lean) → va_S A s.heap H locs → lv_has ls 3 [(0, .ref (aC 0)), (1, .int y1), (2, .int y2)] → S_City_east_L4 c_men c_lean n4 y1 y2 = some o → W p l e rm_X2_east s m ([.ref (aC 0)] : List Value).toArray below meth c H locs 0 0 Q (F0 m 4 ls []) := by
    intro n4
    induction n4 with
    | zero => intro y1 y2 H locs ls hP hD hS hl h; exact absurd h (by simp [S_City_east_L4])
    | succ n4 ih4 =>
      intro y1 y2 H locs ls hP hD hS hl h
      rw [S_City_east_L4] at h
      refine lv_iload_n hx hb dX2_east_4 rfl (lv_at hl 2 rfl) ?_
      refine lv_aload_n hx hb dX2_east_5 rfl (lv_at hl 0 rfl) ?_
      refine va_get (D := D) (ci := 2) (v := .int c_men) (C := RX2) (T := TX2) (N := 12) hx hb hts hiX2 hown hK hP 0 rfl rfl 3 (by decide) hf34 (fun _ z => z) rfl dX2_east_6 ?_
      refine lv_icmp_ge (tgt := 30) hx hb dX2_east_9 (by decide) (fun c9 => ?_) (fun c9 => ?_)
      · have h := k_pos c9 h
        refine lv_iload_n hx hb dX2_east_30 rfl (lv_at hl 1 rfl) ?_
        cases h
        exact hret _ _ _ _ hP hS dX2_east_31
      · have h := k_neg c9 h
        refine lv_aload_n hx hb dX2_east_12 rfl (lv_at hl 0 rfl) ?_
        refine va_get (D := D) (ci := 2) (v := .ref (aC 3)) (C := RX2) (T := TX2) (N := 12) hx hb hts hiX2 hown hK hP 0 rfl rfl 2 (by decide) hf18 (fun _ z => z) rfl dX2_east_13 ?_
        refine lv_iload_n hx hb dX2_east_16 rfl (lv_at hl 2 rfl) ?_
        obtain ⟨g17, h⟩ := k_guard h
        refine va_iald hx hb hK hP 1 0 rfl rfl g17 dX2_east_17 ?_
        refine lv_if_le (tgt := 24) hx hb dX2_east_18 (by decide) (fun c18 => ?_) (fun c18 => ?_)
        · have h := k_pos c18 h
          refine lv_iinc (v := (y2 + 1)) (lv' := [(2, .int (y2 + 1)), (0, .ref (aC 0)), (1, .int y1)]) hx hb dX2_east_24 hl (k := 2) rfl (by first | rfl | decide) (by decide) rfl (fun ls hl => ?_)
          refine lv_goto (tgt := 4) hx hb dX2_east_27 (by decide) ?_
          exact ih4 y1 (y2 + 1) H locs ls hP hD hS (lv_sub hl [1, 2, 0] rfl) h
        · have h := k_neg c18 h
          refine lv_iinc (v := (y1 + 1)) (lv' := [(1, .int (y1 + 1)), (0, .ref (aC 0)), (2, .int y2)]) hx hb dX2_east_21 hl (k := 1) rfl (by first | rfl | decide) (by decide) rfl (fun ls hl => ?_)
          refine lv_iinc (v := (y2 + 1)) (lv' := [(2, .int (y2 + 1)), (1, .int (y1 + 1)), (0, .ref (aC 0))]) hx hb dX2_east_24 hl (k := 2) rfl (by first | rfl | decide) (by decide) rfl (fun ls hl => ?_)
          refine lv_goto (tgt := 4) hx hb dX2_east_27 (by decide) ?_
          exact ih4 (y1 + 1) (y2 + 1) H locs ls hP hD hS (lv_sub hl [2, 1, 0] rfl) h
  refine lv_istore_n (lv' := [(2, .int 0), (1, .int 0), (0, .ref (aC 0))]) hx hb dX2_east_3 rfl hl (by decide) rfl (fun ls hl => ?_)
  exact B4 lfu 0 0 s.heap [] ls hP hD hS (lv_sub hl [2, 1, 0] rfl) h
