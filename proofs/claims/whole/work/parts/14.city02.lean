abbrev rm_X2_plumb : Room := { frames := 1, cells := 0, slots := 0, locals := 40 }
set_option maxHeartbeats 4000000 in
set_option maxRecDepth 100000 in
theorem c_City_plumb (l : Launch) (D : va_G) (cI cM cS cJ : ClassId) (aC : Nat → Nat) (aK : Nat → Nat) (sz : Nat) (c_men : Int32) (c_propped : Int32) (c_place : Int32) (c_swings : Int32) (c_crashes : Int32) (c_day : Int32) (c_crashedToday : Int32) (c_lean : Nat → Int32) {o : (Int32)} (hsem : S_City_plumb c_men c_lean = some o) : kMet l yX2_plumb wsX2_plumb rm_X2_plumb [.ref (aC 0)] D (kT cI cM cS cJ) (Wd11 cI aC aK c_men c_propped c_place c_swings c_crashes c_day c_crashedToday c_lean) sz (some (.int o)) (Wd11 cI aC aK c_men c_propped c_place c_swings c_crashes c_day c_crashedToday c_lean) := by
  refine k_metI (by decide) rfl rfl (Nat.le_of_ble_eq_true rfl) ?_
  intro p e s m below meth c ls Q A hx hb hml hts hown hK hN hA hP hD hS hl hsz hnm hret
  have hown : s.vm.findClass RX2 = some m.cls := hown
  have hf34 := hts (.fieldLink RX2 34 "PlumbLine$City" "men" "I") (List.mem_of_getElem? (i := 1) rfl)
  have hf18 := hts (.fieldLink RX2 18 "PlumbLine$City" "lean" "[I") (List.mem_of_getElem? (i := 2) rfl)
  have hiX2 : ∀ w ∈ u_ws RX2 TX2 12, w ∈ wsX2_plumb := fun w h => List.mem_cons_of_mem _ (List.mem_append_right _ h)
  replace hl : lv_has ls 3 [(0, .ref (aC 0))] := hl
  have h := hsem
  clear hsem
  rw [S_City_plumb] at h
  refine lv_bipush (v := (-4)) hx hb dX2_plumb_0 (by decide) ?_
  refine lv_istore_n (lv' := [(1, .int (-4)), (0, .ref (aC 0))]) hx hb dX2_plumb_2 rfl hl (by decide) rfl (fun ls hl => ?_)
  refine lv_iconst (v := 0) hx hb dX2_plumb_3 (by decide) ?_
  have B5 : ∀ (n5 : Nat) (y1 : Int32) (y2 : Int32) (H : Heap) (locs : List Loc) (ls : Array Slot), va_P D vwCl (Wd11 cI aC aK c_men c_propped c_place c_swings c_crashes c_day c_crashedToday c_lean) H → va_D A (Wd11 cI aC aK c_men c_propped c_place c_swings c_crashes c_day c_crashedToday c_lean) → va_S A s.heap H locs → lv_has ls 3 [(0, .ref (aC 0)), (1, .int y1), (2, .int y2)] → S_City_plumb_L5 c_men c_lean n5 y1 y2 = some o → W p l e rm_X2_plumb s m ([.ref (aC 0)] : List Value).toArray below meth c H locs 0 0 Q (F0 m 5 ls []) := by
    intro n5
    induction n5 with
    | zero => intro y1 y2 H locs ls hP hD hS hl h; exact absurd h (by simp [S_City_plumb_L5])
    | succ n5 ih5 =>
      intro y1 y2 H locs ls hP hD hS hl h
      rw [S_City_plumb_L5] at h
      refine lv_iload_n hx hb dX2_plumb_5 rfl (lv_at hl 2 rfl) ?_
      refine lv_aload_n hx hb dX2_plumb_6 rfl (lv_at hl 0 rfl) ?_
      refine va_get (D := D) (ci := 2) (v := .int c_men) (C := RX2) (T := TX2) (N := 12) hx hb hts hiX2 hown hK hP 0 rfl rfl 3 (by decide) hf34 (fun _ z => z) rfl dX2_plumb_7 ?_
      refine lv_icmp_ge (tgt := 48) hx hb dX2_plumb_10 (by decide) (fun c10 => ?_) (fun c10 => ?_)
      · have h := k_pos c10 h
        refine lv_iload_n hx hb dX2_plumb_48 rfl (lv_at hl 1 rfl) ?_
        cases h
        exact hret _ _ _ _ hP hS dX2_plumb_49
      · have h := k_neg c10 h
        refine lv_iload_n hx hb dX2_plumb_13 rfl (lv_at hl 1 rfl) ?_
        refine lv_bipush (v := (-4)) hx hb dX2_plumb_14 (by decide) ?_
        refine lv_icmp_eq (tgt := 40) hx hb dX2_plumb_16 (by decide) (fun c16 => ?_) (fun c16 => ?_)
        · have h := k_pos c16 h
          refine lv_iload_n hx hb dX2_plumb_40 rfl (lv_at hl 2 rfl) ?_
          refine lv_istore_n (lv' := [(1, .int y2), (0, .ref (aC 0)), (2, .int y2)]) hx hb dX2_plumb_41 rfl hl (by decide) rfl (fun ls hl => ?_)
          refine lv_iinc (v := (y2 + 1)) (lv' := [(2, .int (y2 + 1)), (1, .int y2), (0, .ref (aC 0))]) hx hb dX2_plumb_42 hl (k := 2) rfl (by first | rfl | decide) (by decide) rfl (fun ls hl => ?_)
          refine lv_goto (tgt := 5) hx hb dX2_plumb_45 (by decide) ?_
          exact ih5 y2 (y2 + 1) H locs ls hP hD hS (lv_sub hl [2, 1, 0] rfl) h
        · have h := k_neg c16 h
          refine lv_aload_n hx hb dX2_plumb_19 rfl (lv_at hl 0 rfl) ?_
          refine va_get (D := D) (ci := 2) (v := .ref (aC 3)) (C := RX2) (T := TX2) (N := 12) hx hb hts hiX2 hown hK hP 0 rfl rfl 2 (by decide) hf18 (fun _ z => z) rfl dX2_plumb_20 ?_
          refine lv_iload_n hx hb dX2_plumb_23 rfl (lv_at hl 2 rfl) ?_
          obtain ⟨g24, h⟩ := k_guard h
          refine va_iald hx hb hK hP 1 0 rfl rfl g24 dX2_plumb_24 ?_
          refine k_mabs (own := RX2) (index := 149) hx hb (hml.trans hl.1.symm) hown (hts _ (List.mem_of_getElem? (i := 3) rfl)) (hts _ (List.mem_of_getElem? (i := 4) rfl)) (hts _ (List.mem_of_getElem? (i := 5) rfl)) (hts _ (List.mem_of_getElem? (i := 6) rfl)) (Nat.le_of_ble_eq_true rfl) (Nat.le_of_ble_eq_true rfl) (Nat.zero_le _) (Nat.zero_le _) dX2_plumb_25 ?_
          refine lv_aload_n hx hb dX2_plumb_28 rfl (lv_at hl 0 rfl) ?_
          refine va_get (D := D) (ci := 2) (v := .ref (aC 3)) (C := RX2) (T := TX2) (N := 12) hx hb hts hiX2 hown hK hP 0 rfl rfl 2 (by decide) hf18 (fun _ z => z) rfl dX2_plumb_29 ?_
          refine lv_iload_n hx hb dX2_plumb_32 rfl (lv_at hl 1 rfl) ?_
          obtain ⟨g33, h⟩ := k_guard h
          refine va_iald hx hb hK hP 1 0 rfl rfl g33 dX2_plumb_33 ?_
          refine k_mabs (own := RX2) (index := 149) hx hb (hml.trans hl.1.symm) hown (hts _ (List.mem_of_getElem? (i := 3) rfl)) (hts _ (List.mem_of_getElem? (i := 4) rfl)) (hts _ (List.mem_of_getElem? (i := 5) rfl)) (hts _ (List.mem_of_getElem? (i := 6) rfl)) (Nat.le_of_ble_eq_true rfl) (Nat.le_of_ble_eq_true rfl) (Nat.zero_le _) (Nat.zero_le _) dX2_plumb_34 ?_
          refine lv_icmp_ge (tgt := 42) hx hb dX2_plumb_37 (by decide) (fun c37 => ?_) (fun c37 => ?_)
          · have h := k_pos c37 h
            refine lv_iinc (v := (y2 + 1)) (lv' := [(2, .int (y2 + 1)), (0, .ref (aC 0)), (1, .int y1)]) hx hb dX2_plumb_42 hl (k := 2) rfl (by first | rfl | decide) (by decide) rfl (fun ls hl => ?_)
            refine lv_goto (tgt := 5) hx hb dX2_plumb_45 (by decide) ?_
            exact ih5 y1 (y2 + 1) H locs ls hP hD hS (lv_sub hl [1, 2, 0] rfl) h
          · have h := k_neg c37 h
            refine lv_iload_n hx hb dX2_plumb_40 rfl (lv_at hl 2 rfl) ?_
            refine lv_istore_n (lv' := [(1, .int y2), (0, .ref (aC 0)), (2, .int y2)]) hx hb dX2_plumb_41 rfl hl (by decide) rfl (fun ls hl => ?_)
            refine lv_iinc (v := (y2 + 1)) (lv' := [(2, .int (y2 + 1)), (1, .int y2), (0, .ref (aC 0))]) hx hb dX2_plumb_42 hl (k := 2) rfl (by first | rfl | decide) (by decide) rfl (fun ls hl => ?_)
            refine lv_goto (tgt := 5) hx hb dX2_plumb_45 (by decide) ?_
            exact ih5 y2 (y2 + 1) H locs ls hP hD hS (lv_sub hl [2, 1, 0] rfl) h
  refine lv_istore_n (lv' := [(2, .int 0), (1, .int (-4)), (0, .ref (aC 0))]) hx hb dX2_plumb_4 rfl hl (by decide) rfl (fun ls hl => ?_)
  exact B5 lfu (-4) 0 s.heap [] ls hP hD hS (lv_sub hl [2, 1, 0] rfl) h
theorem kdV_X2_plumb : yX2_plumb.cls = RX2 ∧ yX2_plumb.cls ≠ "java/lang/invoke/MethodHandle" ∧ yX2_plumb.cls ≠ "java/lang/invoke/VarHandle" ∧ (parseMethodDescriptor yX2_plumb.desc).map (fun d => d.parameters.length) = some 0 := by decide +kernel
abbrev rm_X2_moveLead : Room := { frames := 2, cells := 0, slots := 0, locals := 62 }
set_option maxHeartbeats 4000000 in
set_option maxRecDepth 100000 in
theorem c_City_moveLead (l : Launch) (D : va_G) (cI cM cS cJ : ClassId) (aC : Nat → Nat) (aK : Nat → Nat) (sz : Nat) (c_men : Int32) (c_propped : Int32) (c_place : Int32) (c_swings : Int32) (c_crashes : Int32) (c_day : Int32) (c_crashedToday : Int32) (c_lean : Nat → Int32) {o : (Int32)} (hsem : S_City_moveLead c_men c_place c_swings c_lean = some o) : kMet l yX2_moveLead wsX2_moveLead rm_X2_moveLead [.ref (aC 0)] D (kT cI cM cS cJ) (Wd11 cI aC aK c_men c_propped c_place c_swings c_crashes c_day c_crashedToday c_lean) sz none (Wd11 cI aC aK c_men c_propped o c_swings c_crashes c_day c_crashedToday c_lean) := by
  refine k_metV (by decide) rfl rfl (Nat.le_of_ble_eq_true rfl) ?_
  intro p e s m below meth c ls Q A hx hb hml hts hown hK hN hA hP hD hS hl hsz hnm hret
  have hown : s.vm.findClass RX2 = some m.cls := hown
  have hf34 := hts (.fieldLink RX2 34 "PlumbLine$City" "men" "I") (List.mem_of_getElem? (i := 1) rfl)
  have hf44 := hts (.fieldLink RX2 44 "PlumbLine$City" "swings" "I") (List.mem_of_getElem? (i := 2) rfl)
  have hf41 := hts (.fieldLink RX2 41 "PlumbLine$City" "place" "I") (List.mem_of_getElem? (i := 3) rfl)
  have hiX2 : ∀ w ∈ u_ws RX2 TX2 12, w ∈ wsX2_moveLead := fun w h => List.mem_cons_of_mem _ (List.mem_append_right _ h)
  replace hl : lv_has ls 1 [(0, .ref (aC 0))] := hl
  have h := hsem
  clear hsem
  rw [S_City_moveLead] at h
  refine lv_aload_n hx hb dX2_moveLead_0 rfl (lv_at hl 0 rfl) ?_
  refine va_get (D := D) (ci := 2) (v := .int c_men) (C := RX2) (T := TX2) (N := 12) hx hb hts hiX2 hown hK hP 0 rfl rfl 3 (by decide) hf34 (fun _ z => z) rfl dX2_moveLead_1 ?_
  refine lv_if_ne (tgt := 8) hx hb dX2_moveLead_4 (by decide) (fun c4 => ?_) (fun c4 => ?_)
  · have h := k_neg c4 h
    refine lv_aload_n hx hb dX2_moveLead_8 rfl (lv_at hl 0 rfl) ?_
    refine va_get (D := D) (ci := 2) (v := .int c_swings) (C := RX2) (T := TX2) (N := 12) hx hb hts hiX2 hown hK hP 0 rfl rfl 6 (by decide) hf44 (fun _ z => z) rfl dX2_moveLead_9 ?_
    refine lv_if_le (tgt := 45) hx hb dX2_moveLead_12 (by decide) (fun c12 => ?_) (fun c12 => ?_)
    · have h := k_pos c12 h
      refine lv_aload_n hx hb dX2_moveLead_45 rfl (lv_at hl 0 rfl) ?_
      refine lv_dup hx hb dX2_moveLead_46 rfl ?_
      refine va_get (D := D) (ci := 2) (v := .int c_place) (C := RX2) (T := TX2) (N := 12) hx hb hts hiX2 hown hK hP 0 rfl rfl 5 (by decide) hf41 (fun _ z => z) rfl dX2_moveLead_47 ?_
      refine lv_aload_n hx hb dX2_moveLead_50 rfl (lv_at hl 0 rfl) ?_
      refine va_get (D := D) (ci := 2) (v := .int c_place) (C := RX2) (T := TX2) (N := 12) hx hb hts hiX2 hown hK hP 0 rfl rfl 5 (by decide) hf41 (fun _ z => z) rfl dX2_moveLead_51 ?_
      refine lv_aload_n hx hb dX2_moveLead_54 rfl (lv_at hl 0 rfl) ?_
      obtain ⟨r55, g55, h⟩ := k_bind h
      refine k_callV (As := []) (rest := [.int c_place, .int c_place, .ref (aC 0)]) (st1 := [.int r55, .int c_place, .int c_place, .ref (aC 0)]) (ws2 := (Wd11 cI aC aK c_men c_propped c_place c_swings c_crashes c_day c_crashedToday c_lean)) hx hb hml hown hts hK hN hA hP hD hS hl (c_City_plumb l D cI cM cS cJ aC aK s.heap.size c_men c_propped c_place c_swings c_crashes c_day c_crashedToday c_lean g55) gX2_moveLead_X2_plumb rfl kdV_X2_plumb 0 2 rfl rfl rfl [0, 1] ⟨rfl, rfl⟩ ⟨Nat.le_of_ble_eq_true rfl, Nat.le_of_ble_eq_true rfl⟩ ⟨Nat.zero_le _, Nat.zero_le _⟩ rfl rfl (by decide +kernel) (k_rp rfl (by decide +kernel)) rfl rfl (Nat.le_of_ble_eq_true rfl) dX2_moveLead_55 rfl (fun H locs hP hD hS => ?_)
      refine lv_iconst (v := 1) hx hb dX2_moveLead_58 (by decide) ?_
      refine k_callS (As := [.int c_place, .int r55, .int 1]) (rest := [.int c_place, .ref (aC 0)]) (st1 := [.int (S_Man_stepTowards c_place r55 1), .int c_place, .ref (aC 0)]) (ws2 := (Wd11 cI aC aK c_men c_propped c_place c_swings c_crashes c_day c_crashedToday c_lean)) hx hb hml hown hts hK hN hA hP hD hS hl (c_Man_stepTowards l D cI cM cS cJ H.size c_place r55 1 rfl) gX2_moveLead_X4_stepTowards rfl kdS_X4_stepTowards [] ⟨rfl, rfl⟩ ⟨Nat.le_of_ble_eq_true rfl, Nat.le_of_ble_eq_true rfl⟩ ⟨Nat.zero_le _, Nat.zero_le _⟩ rfl rfl (by decide +kernel) (k_rp rfl (by decide +kernel)) rfl rfl (Nat.le_of_ble_eq_true rfl) dX2_moveLead_59 rfl (fun H locs hP hD hS => ?_)
      refine lv_iadd hx hb dX2_moveLead_62 ?_
      refine va_put (D := D) (ci := 2) (v := .int (c_place + (S_Man_stepTowards c_place r55 1))) (ty := .int) (C := RX2) (T := TX2) (N := 12) hx hb hts hiX2 tyX2 tyX2_ok nmX2 hown hK hP hD hS 0 rfl rfl 5 (by decide) hf41 (fun _ z => z) rfl (by decide +kernel) rfl rfl (Nat.le_of_ble_eq_true rfl) dX2_moveLead_63 (fun H locs hP hD hS => ?_)
      replace hP : va_P D vwCl (Wd11 cI aC aK c_men c_propped (c_place + (S_Man_stepTowards c_place r55 1)) c_swings c_crashes c_day c_crashedToday c_lean) H := hP
      replace hD : va_D A (Wd11 cI aC aK c_men c_propped (c_place + (S_Man_stepTowards c_place r55 1)) c_swings c_crashes c_day c_crashedToday c_lean) := hD
      cases h
      exact hret _ _ _ _ hP hS dX2_moveLead_66
    · have h := k_neg c12 h
      refine lv_aload_n hx hb dX2_moveLead_15 rfl (lv_at hl 0 rfl) ?_
      refine lv_aload_n hx hb dX2_moveLead_16 rfl (lv_at hl 0 rfl) ?_
      refine va_get (D := D) (ci := 2) (v := .int c_place) (C := RX2) (T := TX2) (N := 12) hx hb hts hiX2 hown hK hP 0 rfl rfl 5 (by decide) hf41 (fun _ z => z) rfl dX2_moveLead_17 ?_
      refine lv_iconst (v := 1) hx hb dX2_moveLead_20 (by decide) ?_
      refine lv_iadd hx hb dX2_moveLead_21 ?_
      refine lv_aload_n hx hb dX2_moveLead_22 rfl (lv_at hl 0 rfl) ?_
      refine va_get (D := D) (ci := 2) (v := .int c_men) (C := RX2) (T := TX2) (N := 12) hx hb hts hiX2 hown hK hP 0 rfl rfl 3 (by decide) hf34 (fun _ z => z) rfl dX2_moveLead_23 ?_
      refine lv_icmp_ge (tgt := 38) hx hb dX2_moveLead_26 (by decide) (fun c26 => ?_) (fun c26 => ?_)
      · have h := k_pos c26 h
        refine lv_iconst (v := 0) hx hb dX2_moveLead_38 (by decide) ?_
        refine va_put (D := D) (ci := 2) (v := .int 0) (ty := .int) (C := RX2) (T := TX2) (N := 12) hx hb hts hiX2 tyX2 tyX2_ok nmX2 hown hK hP hD hS 0 rfl rfl 5 (by decide) hf41 (fun _ z => z) rfl (by decide +kernel) rfl rfl (Nat.le_of_ble_eq_true rfl) dX2_moveLead_39 (fun H locs hP hD hS => ?_)
        replace hP : va_P D vwCl (Wd11 cI aC aK c_men c_propped 0 c_swings c_crashes c_day c_crashedToday c_lean) H := hP
        replace hD : va_D A (Wd11 cI aC aK c_men c_propped 0 c_swings c_crashes c_day c_crashedToday c_lean) := hD
        refine lv_goto (tgt := 66) hx hb dX2_moveLead_42 (by decide) ?_
        cases h
        exact hret _ _ _ _ hP hS dX2_moveLead_66
      · have h := k_neg c26 h
        refine lv_aload_n hx hb dX2_moveLead_29 rfl (lv_at hl 0 rfl) ?_
        refine va_get (D := D) (ci := 2) (v := .int c_place) (C := RX2) (T := TX2) (N := 12) hx hb hts hiX2 hown hK hP 0 rfl rfl 5 (by decide) hf41 (fun _ z => z) rfl dX2_moveLead_30 ?_
        refine lv_iconst (v := 1) hx hb dX2_moveLead_33 (by decide) ?_
        refine lv_iadd hx hb dX2_moveLead_34 ?_
        refine lv_goto (tgt := 39) hx hb dX2_moveLead_35 (by decide) ?_
        refine va_put (D := D) (ci := 2) (v := .int (c_place + 1)) (ty := .int) (C := RX2) (T := TX2) (N := 12) hx hb hts hiX2 tyX2 tyX2_ok nmX2 hown hK hP hD hS 0 rfl rfl 5 (by decide) hf41 (fun _ z => z) rfl (by decide +kernel) rfl rfl (Nat.le_of_ble_eq_true rfl) dX2_moveLead_39 (fun H locs hP hD hS => ?_)
        replace hP : va_P D vwCl (Wd11 cI aC aK c_men c_propped (c_place + 1) c_swings c_crashes c_day c_crashedToday c_lean) H := hP
        replace hD : va_D A (Wd11 cI aC aK c_men c_propped (c_place + 1) c_swings c_crashes c_day c_crashedToday c_lean) := hD
        refine lv_goto (tgt := 66) hx hb dX2_moveLead_42 (by decide) ?_
        cases h
        exact hret _ _ _ _ hP hS dX2_moveLead_66
  · have h := k_pos c4 h
    cases h
    exact hret _ _ _ _ hP hS dX2_moveLead_7
theorem kdV_X2_upright : yX2_upright.cls = RX2 ∧ yX2_upright.cls ≠ "java/lang/invoke/MethodHandle" ∧ yX2_upright.cls ≠ "java/lang/invoke/VarHandle" ∧ (parseMethodDescriptor yX2_upright.desc).map (fun d => d.parameters.length) = some 0 := by decide +kernel
theorem kdS_J6_bitCount_0f7a4 : yJ6_bitCount_0f7a4.cls ≠ "java/lang/invoke/MethodHandle" ∧ yJ6_bitCount_0f7a4.cls ≠ "java/lang/invoke/VarHandle" ∧ (parseMethodDescriptor yJ6_bitCount_0f7a4.desc).map (fun d => d.parameters.length) = some 1 := by decide +kernel
theorem kdV_X2_moveLead : yX2_moveLead.cls = RX2 ∧ yX2_moveLead.cls ≠ "java/lang/invoke/MethodHandle" ∧ yX2_moveLead.cls ≠ "java/lang/invoke/VarHandle" ∧ (parseMethodDescriptor yX2_moveLead.desc).map (fun d => d.parameters.length) = some 0 := by decide +kernel
theorem kdV_X2_turnSigns : yX2_turnSigns.cls = RX2 ∧ yX2_turnSigns.cls ≠ "java/lang/invoke/MethodHandle" ∧ yX2_turnSigns.cls ≠ "java/lang/invoke/VarHandle" ∧ (parseMethodDescriptor yX2_turnSigns.desc).map (fun d => d.parameters.length) = some 0 := by decide +kernel
theorem kdV_X4_leansMore : yX4_leansMore.cls = RX4 ∧ yX4_leansMore.cls ≠ "java/lang/invoke/MethodHandle" ∧ yX4_leansMore.cls ≠ "java/lang/invoke/VarHandle" ∧ (parseMethodDescriptor yX4_leansMore.desc).map (fun d => d.parameters.length) = some 4 := by decide +kernel
theorem kdM_leansMore : "PlumbLine$Man" ≠ "java/lang/invoke/MethodHandle" ∧ "PlumbLine$Man" ≠ "java/lang/invoke/VarHandle" ∧ (parseMethodDescriptor "(IIII)I").map (fun d => d.parameters.length) = some 4 := by decide +kernel
theorem kdV_X2_sumOfLeans : yX2_sumOfLeans.cls = RX2 ∧ yX2_sumOfLeans.cls ≠ "java/lang/invoke/MethodHandle" ∧ yX2_sumOfLeans.cls ≠ "java/lang/invoke/VarHandle" ∧ (parseMethodDescriptor yX2_sumOfLeans.desc).map (fun d => d.parameters.length) = some 0 := by decide +kernel
abbrev rm_X2_passDay : Room := { frames := 3, cells := 0, slots := 0, locals := 82 }
set_option maxHeartbeats 4000000 in
set_option maxRecDepth 100000 in
theorem c_City_passDay (l : Launch) (D : va_G) (cI cM cS cJ : ClassId) (aC : Nat → Nat) (aK : Nat → Nat) (sz : Nat) (c_men : Int32) (c_propped : Int32) (c_place : Int32) (c_swings : Int32) (c_crashes : Int32) (c_day : Int32) (c_crashedToday : Int32) (c_kind : Nat → Int32) (c_figure : Nat → Int32) (c_lean : Nat → Int32) {o : (Int32) × (Int32) × (Int32) × (Int32) × (Int32) × (Nat → Int32)} (hsem : S_City_passDay c_men c_propped c_place c_swings c_crashes c_day c_crashedToday c_kind c_figure c_lean = some o) : kMet l yX2_passDay wsX2_passDay rm_X2_passDay [.ref (aC 0)] D (kT cI cM cS cJ) (Wd12 cI cM aC aK c_men c_propped c_place c_swings c_crashes c_day c_crashedToday c_kind c_figure c_lean) sz none (Wd12 cI cM aC aK c_men c_propped o.1 o.2.1 o.2.2.1 o.2.2.2.1 o.2.2.2.2.1 c_kind c_figure o.2.2.2.2.2) := by
  refine k_metV (by decide) rfl rfl (Nat.le_of_ble_eq_true rfl) ?_
  intro p e s m below meth c ls Q A hx hb hml hts hown hK hN hA hP hD hS hl hsz hnm hret
  have hown : s.vm.findClass RX2 = some m.cls := hown
  have hf50 := hts (.fieldLink RX2 50 "PlumbLine$City" "day" "I") (List.mem_of_getElem? (i := 1) rfl)
  have hf34 := hts (.fieldLink RX2 34 "PlumbLine$City" "men" "I") (List.mem_of_getElem? (i := 2) rfl)
  have hf102 := hts (.fieldLink RX2 102 "PlumbLine$City" "crashedToday" "Z") (List.mem_of_getElem? (i := 14) rfl)
  have hf44 := hts (.fieldLink RX2 44 "PlumbLine$City" "swings" "I") (List.mem_of_getElem? (i := 16) rfl)
  have hf47 := hts (.fieldLink RX2 47 "PlumbLine$City" "crashes" "I") (List.mem_of_getElem? (i := 15) rfl)
  have hf24 := hts (.fieldLink RX2 24 "PlumbLine$City" "kinds" "[LPlumbLine$Man;") (List.mem_of_getElem? (i := 3) rfl)
  have hf9 := hts (.fieldLink RX2 9 "PlumbLine$City" "kind" "[I") (List.mem_of_getElem? (i := 4) rfl)
  have hf18 := hts (.fieldLink RX2 18 "PlumbLine$City" "lean" "[I") (List.mem_of_getElem? (i := 5) rfl)
  have hf15 := hts (.fieldLink RX2 15 "PlumbLine$City" "figure" "[I") (List.mem_of_getElem? (i := 6) rfl)
  have hiX2 : ∀ w ∈ u_ws RX2 TX2 12, w ∈ wsX2_passDay := fun w h => List.mem_cons_of_mem _ (List.mem_append_right _ h)
  replace hl : lv_has ls 4 [(0, .ref (aC 0))] := hl
  have h := hsem
  clear hsem
  rw [S_City_passDay] at h
  refine lv_aload_n hx hb dX2_passDay_0 rfl (lv_at hl 0 rfl) ?_
  refine lv_dup hx hb dX2_passDay_1 rfl ?_
  refine va_get (D := D) (ci := 2) (v := .int c_day) (C := RX2) (T := TX2) (N := 12) hx hb hts hiX2 hown hK hP 0 rfl rfl 8 (by decide) hf50 (fun _ z => z) rfl dX2_passDay_2 ?_
  refine lv_iconst (v := 1) hx hb dX2_passDay_5 (by decide) ?_
  refine lv_iadd hx hb dX2_passDay_6 ?_
  refine va_put (D := D) (ci := 2) (v := .int (c_day + 1)) (ty := .int) (C := RX2) (T := TX2) (N := 12) hx hb hts hiX2 tyX2 tyX2_ok nmX2 hown hK hP hD hS 0 rfl rfl 8 (by decide) hf50 (fun _ z => z) rfl (by decide +kernel) rfl rfl (Nat.le_of_ble_eq_true rfl) dX2_passDay_7 (fun H locs hP hD hS => ?_)
  replace hP : va_P D vwCl (Wd12 cI cM aC aK c_men c_propped c_place c_swings c_crashes (c_day + 1) c_crashedToday c_kind c_figure c_lean) H := hP
  replace hD : va_D A (Wd12 cI cM aC aK c_men c_propped c_place c_swings c_crashes (c_day + 1) c_crashedToday c_kind c_figure c_lean) := hD
  refine lv_aload_n hx hb dX2_passDay_10 rfl (lv_at hl 0 rfl) ?_
  refine va_get (D := D) (ci := 2) (v := .int c_men) (C := RX2) (T := TX2) (N := 12) hx hb hts hiX2 hown hK hP 0 rfl rfl 3 (by decide) hf34 (fun _ z => z) rfl dX2_passDay_11 ?_
  have B30 : ∀ (v0 : Int32) (c_place : Int32) (c_swings : Int32) (c_crashes : Int32) (c_day : Int32) (c_crashedToday : Int32) (c_lean : Nat → Int32) (H : Heap) (locs : List Loc) (ls : Array Slot), va_P D vwCl (Wd12 cI cM aC aK c_men c_propped c_place c_swings c_crashes c_day c_crashedToday c_kind c_figure c_lean) H → va_D A (Wd12 cI cM aC aK c_men c_propped c_place c_swings c_crashes c_day c_crashedToday c_kind c_figure c_lean) → va_S A s.heap H locs → lv_has ls 4 [(0, .ref (aC 0))] → S_City_passDay_J30 v0 c_men c_propped c_kind c_figure c_place c_swings c_crashes c_day c_lean = some o → W p l e rm_X2_passDay s m ([.ref (aC 0)] : List Value).toArray below meth c H locs 0 0 Q (F0 m 30 ls [.int v0]) := by
    intro v0 c_place c_swings c_crashes c_day c_crashedToday c_lean H locs ls hP hD hS hl h
    rw [S_City_passDay_J30] at h
    refine lv_istore_n (lv' := [(1, .int v0), (0, .ref (aC 0))]) hx hb dX2_passDay_30 rfl hl (by decide) rfl (fun ls hl => ?_)
    refine lv_iconst (v := 0) hx hb dX2_passDay_31 (by decide) ?_
    have B33 : ∀ (y1 : Int32) (c_place : Int32) (c_swings : Int32) (c_crashes : Int32) (c_day : Int32) (c_crashedToday : Int32) (n33 : Nat) (y2 : Int32) (c_lean : Nat → Int32) (H : Heap) (locs : List Loc) (ls : Array Slot), va_P D vwCl (Wd12 cI cM aC aK c_men c_propped c_place c_swings c_crashes c_day c_crashedToday c_kind c_figure c_lean) H → va_D A (Wd12 cI cM aC aK c_men c_propped c_place c_swings c_crashes c_day c_crashedToday c_kind c_figure c_lean) → va_S A s.heap H locs → lv_has ls 4 [(0, .ref (aC 0)), (1, .int y1), (2, .int y2)] → S_City_passDay_L33 y1 c_men c_propped c_kind c_figure c_place c_swings c_crashes c_day n33 y2 c_lean = some o → W p l e rm_X2_passDay s m ([.ref (aC 0)] : List Value).toArray below meth c H locs 0 0 Q (F0 m 33 ls []) := by
      intro y1 c_place c_swings c_crashes c_day c_crashedToday
      intro n33
      induction n33 with
      | zero => intro y2 c_lean H locs ls hP hD hS hl h; exact absurd h (by simp [S_City_passDay_L33])
      | succ n33 ih33 =>
        intro y2 c_lean H locs ls hP hD hS hl h
        rw [S_City_passDay_L33] at h
        refine lv_iload_n hx hb dX2_passDay_33 rfl (lv_at hl 2 rfl) ?_
        refine lv_aload_n hx hb dX2_passDay_34 rfl (lv_at hl 0 rfl) ?_
        refine va_get (D := D) (ci := 2) (v := .int c_men) (C := RX2) (T := TX2) (N := 12) hx hb hts hiX2 hown hK hP 0 rfl rfl 3 (by decide) hf34 (fun _ z => z) rfl dX2_passDay_35 ?_
        refine lv_icmp_ge (tgt := 111) hx hb dX2_passDay_38 (by decide) (fun c38 => ?_) (fun c38 => ?_)
        · have h := k_pos c38 h
          refine lv_aload_n hx hb dX2_passDay_111 rfl (lv_at hl 0 rfl) ?_
          refine lv_aload_n hx hb dX2_passDay_112 rfl (lv_at hl 0 rfl) ?_
          obtain ⟨r113, g113, h⟩ := k_bind h
          refine k_callV (As := []) (rest := [.ref (aC 0)]) (st1 := [.int r113, .ref (aC 0)]) (ws2 := (Wd12 cI cM aC aK c_men c_propped c_place c_swings c_crashes c_day c_crashedToday c_kind c_figure c_lean)) hx hb hml hown hts hK hN hA hP hD hS hl (c_City_upright l D cI cM cS cJ aC aK H.size c_men c_propped c_place c_swings c_crashes c_day c_crashedToday c_kind c_figure c_lean g113) gX2_passDay_X2_upright rfl kdV_X2_upright 0 2 rfl rfl rfl [0, 1, 2, 3, 4, 5, 6, 7, 8, 9, 10, 11, 12] ⟨rfl, rfl⟩ ⟨Nat.le_of_ble_eq_true rfl, Nat.le_of_ble_eq_true rfl⟩ ⟨Nat.zero_le _, Nat.zero_le _⟩ rfl rfl (by decide +kernel) (k_rp rfl (by decide +kernel)) rfl rfl (Nat.le_of_ble_eq_true rfl) dX2_passDay_113 rfl (fun H locs hP hD hS => ?_)
          refine k_callS (As := [.int r113]) (rest := [.ref (aC 0)]) (st1 := [.int (S_J_bitCount r113), .ref (aC 0)]) (ws2 := (Wd12 cI cM aC aK c_men c_propped c_place c_swings c_crashes c_day c_crashedToday c_kind c_figure c_lean)) hx hb hml hown hts hK hN hA hP hD hS hl (c_J_bitCount l D cI cM cS cJ H.size r113 rfl) gX2_passDay_J6_bitCount_0f7a4 rfl kdS_J6_bitCount_0f7a4 [] ⟨rfl, rfl⟩ ⟨Nat.le_of_ble_eq_true rfl, Nat.le_of_ble_eq_true rfl⟩ ⟨Nat.zero_le _, Nat.zero_le _⟩ rfl rfl (by decide +kernel) (k_rp rfl (by decide +kernel)) rfl rfl (Nat.le_of_ble_eq_true rfl) dX2_passDay_116 rfl (fun H locs hP hD hS => ?_)
          refine lv_aload_n hx hb dX2_passDay_119 rfl (lv_at hl 0 rfl) ?_
          refine va_get (D := D) (ci := 2) (v := .int c_men) (C := RX2) (T := TX2) (N := 12) hx hb hts hiX2 hown hK hP 0 rfl rfl 3 (by decide) hf34 (fun _ z => z) rfl dX2_passDay_120 ?_
          refine lv_iconst (v := 2) hx hb dX2_passDay_123 (by decide) ?_
          refine lv_idiv hx hb dX2_passDay_124 (by decide) ?_
          refine lv_icmp_ge (tgt := 132) hx hb dX2_passDay_125 (by decide) (fun c125 => ?_) (fun c125 => ?_)
          · have h := k_pos c125 h
            refine lv_iconst (v := 0) hx hb dX2_passDay_132 (by decide) ?_
            refine va_put (D := D) (ci := 2) (v := .int 0) (ty := .boolean) (C := RX2) (T := TX2) (N := 12) hx hb hts hiX2 tyX2 tyX2_ok nmX2 hown hK hP hD hS 0 rfl rfl 9 (by decide) hf102 (fun _ z => z) rfl (by decide +kernel) rfl rfl (Nat.le_of_ble_eq_true rfl) dX2_passDay_133 (fun H locs hP hD hS => ?_)
            replace hP : va_P D vwCl (Wd12 cI cM aC aK c_men c_propped c_place c_swings c_crashes c_day 0 c_kind c_figure c_lean) H := hP
            replace hD : va_D A (Wd12 cI cM aC aK c_men c_propped c_place c_swings c_crashes c_day 0 c_kind c_figure c_lean) := hD
            refine lv_aload_n hx hb dX2_passDay_136 rfl (lv_at hl 0 rfl) ?_
            refine va_get (D := D) (ci := 2) (v := .int 0) (C := RX2) (T := TX2) (N := 12) hx hb hts hiX2 hown hK hP 0 rfl rfl 9 (by decide) hf102 (fun _ z => z) rfl dX2_passDay_137 ?_
            refine lv_if_eq (tgt := 172) hx hb dX2_passDay_140 (by decide) (fun _ => ?_) (fun z => absurd z (by decide))
            refine lv_aload_n hx hb dX2_passDay_172 rfl (lv_at hl 0 rfl) ?_
            refine lv_iconst (v := 0) hx hb dX2_passDay_173 (by decide) ?_
            refine lv_aload_n hx hb dX2_passDay_174 rfl (lv_at hl 0 rfl) ?_
            refine va_get (D := D) (ci := 2) (v := .int c_swings) (C := RX2) (T := TX2) (N := 12) hx hb hts hiX2 hown hK hP 0 rfl rfl 6 (by decide) hf44 (fun _ z => z) rfl dX2_passDay_175 ?_
            refine lv_iconst (v := 1) hx hb dX2_passDay_178 (by decide) ?_
            refine lv_isub hx hb dX2_passDay_179 ?_
            refine k_mmax (own := RX2) (index := 125) hx hb (hml.trans hl.1.symm) hown (hts _ (List.mem_of_getElem? (i := 11) rfl)) (hts _ (List.mem_of_getElem? (i := 12) rfl)) (hts _ (List.mem_of_getElem? (i := 9) rfl)) (hts _ (List.mem_of_getElem? (i := 13) rfl)) (Nat.le_of_ble_eq_true rfl) (Nat.le_of_ble_eq_true rfl) (Nat.zero_le _) (Nat.zero_le _) dX2_passDay_180 ?_
            refine va_put (D := D) (ci := 2) (v := .int (jmax 0 (c_swings - 1))) (ty := .int) (C := RX2) (T := TX2) (N := 12) hx hb hts hiX2 tyX2 tyX2_ok nmX2 hown hK hP hD hS 0 rfl rfl 6 (by decide) hf44 (fun _ z => z) rfl (by decide +kernel) rfl rfl (Nat.le_of_ble_eq_true rfl) dX2_passDay_183 (fun H locs hP hD hS => ?_)
            replace hP : va_P D vwCl (Wd12 cI cM aC aK c_men c_propped c_place (jmax 0 (c_swings - 1)) c_crashes c_day 0 c_kind c_figure c_lean) H := hP
            replace hD : va_D A (Wd12 cI cM aC aK c_men c_propped c_place (jmax 0 (c_swings - 1)) c_crashes c_day 0 c_kind c_figure c_lean) := hD
            refine lv_aload_n hx hb dX2_passDay_186 rfl (lv_at hl 0 rfl) ?_
            obtain ⟨r187, g187, h⟩ := k_bind h
            refine k_callV (As := []) (rest := []) (st1 := []) (ws2 := (Wd12 cI cM aC aK c_men c_propped r187 (jmax 0 (c_swings - 1)) c_crashes c_day 0 c_kind c_figure c_lean)) hx hb hml hown hts hK hN hA hP hD hS hl (c_City_moveLead l D cI cM cS cJ aC aK H.size c_men c_propped c_place (jmax 0 (c_swings - 1)) c_crashes c_day 0 c_lean g187) gX2_passDay_X2_moveLead rfl kdV_X2_moveLead 0 2 rfl rfl rfl [0, 3] ⟨rfl, rfl⟩ ⟨Nat.le_of_ble_eq_true rfl, Nat.le_of_ble_eq_true rfl⟩ ⟨Nat.zero_le _, Nat.zero_le _⟩ rfl rfl (by decide +kernel) (k_rp rfl (by decide +kernel)) rfl rfl (Nat.le_of_ble_eq_true rfl) dX2_passDay_187 rfl (fun H locs hP hD hS => ?_)
            cases h
            exact hret _ _ _ _ hP hS dX2_passDay_190
          · have h := k_neg c125 h
            refine lv_iconst (v := 1) hx hb dX2_passDay_128 (by decide) ?_
            refine lv_goto (tgt := 133) hx hb dX2_passDay_129 (by decide) ?_
            refine va_put (D := D) (ci := 2) (v := .int 1) (ty := .boolean) (C := RX2) (T := TX2) (N := 12) hx hb hts hiX2 tyX2 tyX2_ok nmX2 hown hK hP hD hS 0 rfl rfl 9 (by decide) hf102 (fun _ z => z) rfl (by decide +kernel) rfl rfl (Nat.le_of_ble_eq_true rfl) dX2_passDay_133 (fun H locs hP hD hS => ?_)
            replace hP : va_P D vwCl (Wd12 cI cM aC aK c_men c_propped c_place c_swings c_crashes c_day 1 c_kind c_figure c_lean) H := hP
            replace hD : va_D A (Wd12 cI cM aC aK c_men c_propped c_place c_swings c_crashes c_day 1 c_kind c_figure c_lean) := hD
            refine lv_aload_n hx hb dX2_passDay_136 rfl (lv_at hl 0 rfl) ?_
            refine va_get (D := D) (ci := 2) (v := .int 1) (C := RX2) (T := TX2) (N := 12) hx hb hts hiX2 hown hK hP 0 rfl rfl 9 (by decide) hf102 (fun _ z => z) rfl dX2_passDay_137 ?_
            refine lv_if_eq (tgt := 172) hx hb dX2_passDay_140 (by decide) (fun z => absurd z (by decide)) (fun _ => ?_)
            refine lv_aload_n hx hb dX2_passDay_143 rfl (lv_at hl 0 rfl) ?_
            refine lv_sipush (v := 999) hx hb dX2_passDay_144 (by decide) ?_
            refine lv_aload_n hx hb dX2_passDay_147 rfl (lv_at hl 0 rfl) ?_
            refine va_get (D := D) (ci := 2) (v := .int c_crashes) (C := RX2) (T := TX2) (N := 12) hx hb hts hiX2 hown hK hP 0 rfl rfl 7 (by decide) hf47 (fun _ z => z) rfl dX2_passDay_148 ?_
            refine lv_iconst (v := 1) hx hb dX2_passDay_151 (by decide) ?_
            refine lv_iadd hx hb dX2_passDay_152 ?_
            refine k_mmin (own := RX2) (index := 119) hx hb (hml.trans hl.1.symm) hown (hts _ (List.mem_of_getElem? (i := 7) rfl)) (hts _ (List.mem_of_getElem? (i := 8) rfl)) (hts _ (List.mem_of_getElem? (i := 9) rfl)) (hts _ (List.mem_of_getElem? (i := 10) rfl)) (Nat.le_of_ble_eq_true rfl) (Nat.le_of_ble_eq_true rfl) (Nat.zero_le _) (Nat.zero_le _) dX2_passDay_153 ?_
            refine va_put (D := D) (ci := 2) (v := .int (jmin 999 (c_crashes + 1))) (ty := .int) (C := RX2) (T := TX2) (N := 12) hx hb hts hiX2 tyX2 tyX2_ok nmX2 hown hK hP hD hS 0 rfl rfl 7 (by decide) hf47 (fun _ z => z) rfl (by decide +kernel) rfl rfl (Nat.le_of_ble_eq_true rfl) dX2_passDay_156 (fun H locs hP hD hS => ?_)
            replace hP : va_P D vwCl (Wd12 cI cM aC aK c_men c_propped c_place c_swings (jmin 999 (c_crashes + 1)) c_day 1 c_kind c_figure c_lean) H := hP
            replace hD : va_D A (Wd12 cI cM aC aK c_men c_propped c_place c_swings (jmin 999 (c_crashes + 1)) c_day 1 c_kind c_figure c_lean) := hD
            refine lv_aload_n hx hb dX2_passDay_159 rfl (lv_at hl 0 rfl) ?_
            refine lv_bipush (v := 9) hx hb dX2_passDay_160 (by decide) ?_
            refine va_put (D := D) (ci := 2) (v := .int 9) (ty := .int) (C := RX2) (T := TX2) (N := 12) hx hb hts hiX2 tyX2 tyX2_ok nmX2 hown hK hP hD hS 0 rfl rfl 6 (by decide) hf44 (fun _ z => z) rfl (by decide +kernel) rfl rfl (Nat.le_of_ble_eq_true rfl) dX2_passDay_162 (fun H locs hP hD hS => ?_)
            replace hP : va_P D vwCl (Wd12 cI cM aC aK c_men c_propped c_place 9 (jmin 999 (c_crashes + 1)) c_day 1 c_kind c_figure c_lean) H := hP
            replace hD : va_D A (Wd12 cI cM aC aK c_men c_propped c_place 9 (jmin 999 (c_crashes + 1)) c_day 1 c_kind c_figure c_lean) := hD
            refine lv_aload_n hx hb dX2_passDay_165 rfl (lv_at hl 0 rfl) ?_
            obtain ⟨r166, g166, h⟩ := k_bind h
            refine k_callV (As := []) (rest := []) (st1 := []) (ws2 := (Wd12 cI cM aC aK c_men c_propped c_place 9 (jmin 999 (c_crashes + 1)) c_day 1 c_kind c_figure r166)) hx hb hml hown hts hK hN hA hP hD hS hl (c_City_turnSigns l D cI cM cS cJ aC aK H.size c_men c_propped c_place 9 (jmin 999 (c_crashes + 1)) c_day 1 c_lean g166) gX2_passDay_X2_turnSigns rfl kdV_X2_turnSigns 0 2 rfl rfl rfl [0, 3] ⟨rfl, rfl⟩ ⟨Nat.le_of_ble_eq_true rfl, Nat.le_of_ble_eq_true rfl⟩ ⟨Nat.zero_le _, Nat.zero_le _⟩ rfl rfl (by decide +kernel) (k_rp rfl (by decide +kernel)) rfl rfl (Nat.le_of_ble_eq_true rfl) dX2_passDay_166 rfl (fun H locs hP hD hS => ?_)
            refine lv_goto (tgt := 186) hx hb dX2_passDay_169 (by decide) ?_
            refine lv_aload_n hx hb dX2_passDay_186 rfl (lv_at hl 0 rfl) ?_
            obtain ⟨r187, g187, h⟩ := k_bind h
            refine k_callV (As := []) (rest := []) (st1 := []) (ws2 := (Wd12 cI cM aC aK c_men c_propped r187 9 (jmin 999 (c_crashes + 1)) c_day 1 c_kind c_figure r166)) hx hb hml hown hts hK hN hA hP hD hS hl (c_City_moveLead l D cI cM cS cJ aC aK H.size c_men c_propped c_place 9 (jmin 999 (c_crashes + 1)) c_day 1 r166 g187) gX2_passDay_X2_moveLead rfl kdV_X2_moveLead 0 2 rfl rfl rfl [0, 3] ⟨rfl, rfl⟩ ⟨Nat.le_of_ble_eq_true rfl, Nat.le_of_ble_eq_true rfl⟩ ⟨Nat.zero_le _, Nat.zero_le _⟩ rfl rfl (by decide +kernel) (k_rp rfl (by decide +kernel)) rfl rfl (Nat.le_of_ble_eq_true rfl) dX2_passDay_187 rfl (fun H locs hP hD hS => ?_)
            cases h
            exact hret _ _ _ _ hP hS dX2_passDay_190
        · have h := k_neg c38 h
          refine lv_aload_n hx hb dX2_passDay_41 rfl (lv_at hl 0 rfl) ?_
          refine lv_iload_n hx hb dX2_passDay_42 rfl (lv_at hl 2 rfl) ?_
          refine k_callV (As := [.int y2]) (rest := []) (st1 := [.int (S_City_isPropped y2 c_propped)]) (ws2 := (Wd12 cI cM aC aK c_men c_propped c_place c_swings c_crashes c_day c_crashedToday c_kind c_figure c_lean)) hx hb hml hown hts hK hN hA hP hD hS hl (c_City_isPropped l D cI cM cS cJ aC aK H.size y2 c_men c_propped c_place c_swings c_crashes c_day c_crashedToday rfl) gX2_passDay_X2_isPropped rfl kdV_X2_isPropped 0 2 rfl rfl rfl [0] ⟨rfl, rfl⟩ ⟨Nat.le_of_ble_eq_true rfl, Nat.le_of_ble_eq_true rfl⟩ ⟨Nat.zero_le _, Nat.zero_le _⟩ rfl rfl (by decide +kernel) (k_rp rfl (by decide +kernel)) rfl rfl (Nat.le_of_ble_eq_true rfl) dX2_passDay_43 rfl (fun H locs hP hD hS => ?_)
          refine lv_if_ne (tgt := 105) hx hb dX2_passDay_46 (by decide) (fun c46 => ?_) (fun c46 => ?_)
          · have h := k_neg c46 h
            refine lv_iinc (v := (y2 + 1)) (lv' := [(2, .int (y2 + 1)), (0, .ref (aC 0)), (1, .int y1)]) hx hb dX2_passDay_105 hl (k := 2) rfl (by first | rfl | decide) (by decide) rfl (fun ls hl => ?_)
            refine lv_goto (tgt := 33) hx hb dX2_passDay_108 (by decide) ?_
            exact ih33 (y2 + 1) c_lean H locs ls hP hD hS (lv_sub hl [1, 2, 0] rfl) h
          · have h := k_pos c46 h
            refine lv_aload_n hx hb dX2_passDay_49 rfl (lv_at hl 0 rfl) ?_
            refine va_get (D := D) (ci := 2) (v := .ref (aK 8)) (C := RX2) (T := TX2) (N := 12) hx hb hts hiX2 hown hK hP 0 rfl rfl 10 (by decide) hf24 (fun _ z => z) rfl dX2_passDay_50 ?_
            refine lv_aload_n hx hb dX2_passDay_53 rfl (lv_at hl 0 rfl) ?_
            refine va_get (D := D) (ci := 2) (v := .ref (aC 1)) (C := RX2) (T := TX2) (N := 12) hx hb hts hiX2 hown hK hP 0 rfl rfl 0 (by decide) hf9 (fun _ z => z) rfl dX2_passDay_54 ?_
            refine lv_iload_n hx hb dX2_passDay_57 rfl (lv_at hl 2 rfl) ?_
            obtain ⟨g58, h⟩ := k_guard h
            refine va_iald hx hb hK hP 1 0 rfl rfl g58 dX2_passDay_58 ?_
            obtain ⟨g59, h⟩ := k_guard h
            refine k_aldR (f := aK) hx hb hK hP 4 1 rfl rfl g59 dX2_passDay_59 ?_
            refine lv_aload_n hx hb dX2_passDay_60 rfl (lv_at hl 0 rfl) ?_
            refine va_get (D := D) (ci := 2) (v := .ref (aC 3)) (C := RX2) (T := TX2) (N := 12) hx hb hts hiX2 hown hK hP 0 rfl rfl 2 (by decide) hf18 (fun _ z => z) rfl dX2_passDay_61 ?_
            refine lv_iload_n hx hb dX2_passDay_64 rfl (lv_at hl 2 rfl) ?_
            refine va_iald hx hb hK hP 3 0 rfl rfl g58 dX2_passDay_65 ?_
            refine lv_aload_n hx hb dX2_passDay_66 rfl (lv_at hl 0 rfl) ?_
            refine va_get (D := D) (ci := 2) (v := .ref (aC 2)) (C := RX2) (T := TX2) (N := 12) hx hb hts hiX2 hown hK hP 0 rfl rfl 1 (by decide) hf15 (fun _ z => z) rfl dX2_passDay_67 ?_
            refine lv_iload_n hx hb dX2_passDay_70 rfl (lv_at hl 2 rfl) ?_
            refine va_iald hx hb hK hP 2 0 rfl rfl g58 dX2_passDay_71 ?_
            refine lv_iload_n hx hb dX2_passDay_72 rfl (lv_at hl 1 rfl) ?_
            refine lv_aload_n hx hb dX2_passDay_73 rfl (lv_at hl 0 rfl) ?_
            refine va_get (D := D) (ci := 2) (v := .int c_day) (C := RX2) (T := TX2) (N := 12) hx hb hts hiX2 hown hK hP 0 rfl rfl 8 (by decide) hf50 (fun _ z => z) rfl dX2_passDay_74 ?_
            have V77 : ∀ (H : Heap) (locs : List Loc), va_P D vwCl (Wd12 cI cM aC aK c_men c_propped c_place c_swings c_crashes c_day c_crashedToday c_kind c_figure c_lean) H → va_D A (Wd12 cI cM aC aK c_men c_propped c_place c_swings c_crashes c_day c_crashedToday c_kind c_figure c_lean) → va_S A s.heap H locs → W p l e rm_X2_passDay s m ([.ref (aC 0)] : List Value).toArray below meth c H locs 0 0 Q (F0 m 80 ls [.int (V_leansMore (c_kind y2.toNatClampNeg).toNatClampNeg (c_lean y2.toNatClampNeg) (c_figure y2.toNatClampNeg) y1 c_day)]) := by
              intro H locs hP hD hS
              refine lv_istore_n (lv' := [(3, .int (V_leansMore (c_kind y2.toNatClampNeg).toNatClampNeg (c_lean y2.toNatClampNeg) (c_figure y2.toNatClampNeg) y1 c_day)), (0, .ref (aC 0)), (1, .int y1), (2, .int y2)]) hx hb dX2_passDay_80 rfl hl (by decide) rfl (fun ls hl => ?_)
              refine lv_aload_n hx hb dX2_passDay_81 rfl (lv_at hl 1 rfl) ?_
              refine va_get (D := D) (ci := 2) (v := .ref (aC 3)) (C := RX2) (T := TX2) (N := 12) hx hb hts hiX2 hown hK hP 0 rfl rfl 2 (by decide) hf18 (fun _ z => z) rfl dX2_passDay_82 ?_
              refine lv_iload_n hx hb dX2_passDay_85 rfl (lv_at hl 3 rfl) ?_
              refine lv_bipush (v := (-45)) hx hb dX2_passDay_86 (by decide) ?_
              refine lv_bipush (v := 45) hx hb dX2_passDay_88 (by decide) ?_
              refine lv_aload_n hx hb dX2_passDay_90 rfl (lv_at hl 1 rfl) ?_
              refine va_get (D := D) (ci := 2) (v := .ref (aC 3)) (C := RX2) (T := TX2) (N := 12) hx hb hts hiX2 hown hK hP 0 rfl rfl 2 (by decide) hf18 (fun _ z => z) rfl dX2_passDay_91 ?_
              refine lv_iload_n hx hb dX2_passDay_94 rfl (lv_at hl 3 rfl) ?_
              refine va_iald hx hb hK hP 3 0 rfl rfl g58 dX2_passDay_95 ?_
              refine lv_iload_n hx hb dX2_passDay_96 rfl (lv_at hl 0 rfl) ?_
              refine lv_iadd hx hb dX2_passDay_97 ?_
              refine k_mmin (own := RX2) (index := 119) hx hb (hml.trans hl.1.symm) hown (hts _ (List.mem_of_getElem? (i := 7) rfl)) (hts _ (List.mem_of_getElem? (i := 8) rfl)) (hts _ (List.mem_of_getElem? (i := 9) rfl)) (hts _ (List.mem_of_getElem? (i := 10) rfl)) (Nat.le_of_ble_eq_true rfl) (Nat.le_of_ble_eq_true rfl) (Nat.zero_le _) (Nat.zero_le _) dX2_passDay_98 ?_
              refine k_mmax (own := RX2) (index := 125) hx hb (hml.trans hl.1.symm) hown (hts _ (List.mem_of_getElem? (i := 11) rfl)) (hts _ (List.mem_of_getElem? (i := 12) rfl)) (hts _ (List.mem_of_getElem? (i := 9) rfl)) (hts _ (List.mem_of_getElem? (i := 13) rfl)) (Nat.le_of_ble_eq_true rfl) (Nat.le_of_ble_eq_true rfl) (Nat.zero_le _) (Nat.zero_le _) dX2_passDay_101 ?_
              refine va_iast hx hb hK hP hD hS 3 0 rfl rfl g58 dX2_passDay_104 (fun H locs hP hD hS => ?_)
              replace hP : va_P D vwCl (Wd12 cI cM aC aK c_men c_propped c_place c_swings c_crashes c_day c_crashedToday c_kind c_figure (upd c_lean y2.toNatClampNeg (jmax (-45) (jmin 45 ((c_lean y2.toNatClampNeg) + (V_leansMore (c_kind y2.toNatClampNeg).toNatClampNeg (c_lean y2.toNatClampNeg) (c_figure y2.toNatClampNeg) y1 c_day)))))) H := hP
              replace hD : va_D A (Wd12 cI cM aC aK c_men c_propped c_place c_swings c_crashes c_day c_crashedToday c_kind c_figure (upd c_lean y2.toNatClampNeg (jmax (-45) (jmin 45 ((c_lean y2.toNatClampNeg) + (V_leansMore (c_kind y2.toNatClampNeg).toNatClampNeg (c_lean y2.toNatClampNeg) (c_figure y2.toNatClampNeg) y1 c_day)))))) := hD
              refine lv_iinc (v := (y2 + 1)) (lv' := [(2, .int (y2 + 1)), (3, .int (V_leansMore (c_kind y2.toNatClampNeg).toNatClampNeg (c_lean y2.toNatClampNeg) (c_figure y2.toNatClampNeg) y1 c_day)), (0, .ref (aC 0)), (1, .int y1)]) hx hb dX2_passDay_105 hl (k := 3) rfl (by first | rfl | decide) (by decide) rfl (fun ls hl => ?_)
              refine lv_goto (tgt := 33) hx hb dX2_passDay_108 (by decide) ?_
              exact ih33 (y2 + 1) (upd c_lean y2.toNatClampNeg (jmax (-45) (jmin 45 ((c_lean y2.toNatClampNeg) + (V_leansMore (c_kind y2.toNatClampNeg).toNatClampNeg (c_lean y2.toNatClampNeg) (c_figure y2.toNatClampNeg) y1 c_day))))) H locs ls hP hD hS (lv_sub hl [2, 3, 0] rfl) h
            generalize hk77 : (c_kind y2.toNatClampNeg).toNatClampNeg = k77 at V77 ⊢
            have hb77 : k77 < 8 := by rw [← hk77]; exact Nat.not_le.mp (fun z => g59 (Or.inr z))
            rcases k_8 hb77 with e | e | e | e | e | e | e | e <;> subst e
            · exact k_callV (As := [.int (c_lean y2.toNatClampNeg), .int (c_figure y2.toNatClampNeg), .int y1, .int c_day]) (rest := []) (st1 := [.int (S_Man_leansMore (c_lean y2.toNatClampNeg) (c_figure y2.toNatClampNeg) y1 c_day)]) hx hb hml hown hts hK hN hA hP hD hS hl (c_Man_leansMore l D cI cM cS cJ (aK 0) 4 H.size (c_lean y2.toNatClampNeg) (c_figure y2.toNatClampNeg) y1 c_day rfl) gX2_passDay_X4_leansMore rfl kdV_X4_leansMore 0 4 rfl rfl rfl [5] ⟨rfl, rfl⟩ ⟨Nat.le_of_ble_eq_true rfl, Nat.le_of_ble_eq_true rfl⟩ ⟨Nat.zero_le _, Nat.zero_le _⟩ rfl rfl (by decide +kernel) (k_rp rfl (by decide +kernel)) rfl rfl (Nat.le_of_ble_eq_true rfl) dX2_passDay_77 rfl V77
            · exact k_callU (wy' := []) (As := [.int (c_lean y2.toNatClampNeg), .int (c_figure y2.toNatClampNeg), .int y1, .int c_day]) (rest := []) (st1 := [.int (S_Banker_leansMore (c_lean y2.toNatClampNeg) (c_figure y2.toNatClampNeg) y1 c_day)]) hx hb hml hown hts hK hN hA hP hD hS hl (c_Banker_leansMore l D cI cM cS cJ (aK 1) 0 H.size (c_lean y2.toNatClampNeg) (c_figure y2.toNatClampNeg) y1 c_day rfl) (va_cwO 4 hts gX2_passDay_X0_leansMore_u113X0 rfl rfl rfl (List.mem_of_getElem? (i := 34) rfl) kdM_leansMore ⟨Nat.le_of_ble_eq_true rfl, Nat.le_of_ble_eq_true rfl⟩) 0 0 rfl rfl rfl [6] ⟨Nat.zero_le _, Nat.zero_le _⟩ rfl rfl (by decide +kernel) (k_rp rfl (by decide +kernel)) rfl rfl (Nat.le_of_ble_eq_true rfl) dX2_passDay_77 rfl V77
            · exact k_callU (wy' := []) (As := [.int (c_lean y2.toNatClampNeg), .int (c_figure y2.toNatClampNeg), .int y1, .int c_day]) (rest := []) (st1 := [.int (S_Quaker_leansMore (c_lean y2.toNatClampNeg) (c_figure y2.toNatClampNeg) y1 c_day)]) hx hb hml hown hts hK hN hA hP hD hS hl (c_Quaker_leansMore l D cI cM cS cJ (aK 2) 7 H.size (c_lean y2.toNatClampNeg) (c_figure y2.toNatClampNeg) y1 c_day rfl) (va_cwO 4 hts gX2_passDay_X7_leansMore_u113X7 rfl rfl rfl (List.mem_of_getElem? (i := 34) rfl) kdM_leansMore ⟨Nat.le_of_ble_eq_true rfl, Nat.le_of_ble_eq_true rfl⟩) 0 7 rfl rfl rfl [7] ⟨Nat.zero_le _, Nat.zero_le _⟩ rfl rfl (by decide +kernel) (k_rp rfl (by decide +kernel)) rfl rfl (Nat.le_of_ble_eq_true rfl) dX2_passDay_77 rfl V77
            · exact k_callU (wy' := []) (As := [.int (c_lean y2.toNatClampNeg), .int (c_figure y2.toNatClampNeg), .int y1, .int c_day]) (rest := []) (st1 := [.int (S_Clerk_leansMore (c_lean y2.toNatClampNeg) (c_figure y2.toNatClampNeg) y1 c_day)]) hx hb hml hown hts hK hN hA hP hD hS hl (c_Clerk_leansMore l D cI cM cS cJ (aK 3) 3 H.size (c_lean y2.toNatClampNeg) (c_figure y2.toNatClampNeg) y1 c_day rfl) (va_cwO 4 hts gX2_passDay_X3_leansMore_u113X3 rfl rfl rfl (List.mem_of_getElem? (i := 34) rfl) kdM_leansMore ⟨Nat.le_of_ble_eq_true rfl, Nat.le_of_ble_eq_true rfl⟩) 0 3 rfl rfl rfl [8] ⟨Nat.zero_le _, Nat.zero_le _⟩ rfl rfl (by decide +kernel) (k_rp rfl (by decide +kernel)) rfl rfl (Nat.le_of_ble_eq_true rfl) dX2_passDay_77 rfl V77
            · exact k_callU (wy' := []) (As := [.int (c_lean y2.toNatClampNeg), .int (c_figure y2.toNatClampNeg), .int y1, .int c_day]) (rest := []) (st1 := [.int (S_Broker_leansMore (c_lean y2.toNatClampNeg) (c_figure y2.toNatClampNeg) y1 c_day)]) hx hb hml hown hts hK hN hA hP hD hS hl (c_Broker_leansMore l D cI cM cS cJ (aK 4) 1 H.size (c_lean y2.toNatClampNeg) (c_figure y2.toNatClampNeg) y1 c_day rfl) (va_cwO 4 hts gX2_passDay_X1_leansMore_u113X1 rfl rfl rfl (List.mem_of_getElem? (i := 34) rfl) kdM_leansMore ⟨Nat.le_of_ble_eq_true rfl, Nat.le_of_ble_eq_true rfl⟩) 0 1 rfl rfl rfl [9] ⟨Nat.zero_le _, Nat.zero_le _⟩ rfl rfl (by decide +kernel) (k_rp rfl (by decide +kernel)) rfl rfl (Nat.le_of_ble_eq_true rfl) dX2_passDay_77 rfl V77
            · exact k_callU (wy' := []) (As := [.int (c_lean y2.toNatClampNeg), .int (c_figure y2.toNatClampNeg), .int y1, .int c_day]) (rest := []) (st1 := [.int (S_Scrubber_leansMore (c_lean y2.toNatClampNeg) (c_figure y2.toNatClampNeg) y1 c_day)]) hx hb hml hown hts hK hN hA hP hD hS hl (c_Scrubber_leansMore l D cI cM cS cJ (aK 5) 8 H.size (c_lean y2.toNatClampNeg) (c_figure y2.toNatClampNeg) y1 c_day rfl) (va_cwO 4 hts gX2_passDay_X8_leansMore_u113X8 rfl rfl rfl (List.mem_of_getElem? (i := 34) rfl) kdM_leansMore ⟨Nat.le_of_ble_eq_true rfl, Nat.le_of_ble_eq_true rfl⟩) 0 8 rfl rfl rfl [10] ⟨Nat.zero_le _, Nat.zero_le _⟩ rfl rfl (by decide +kernel) (k_rp rfl (by decide +kernel)) rfl rfl (Nat.le_of_ble_eq_true rfl) dX2_passDay_77 rfl V77
            · exact k_callU (wy' := []) (As := [.int (c_lean y2.toNatClampNeg), .int (c_figure y2.toNatClampNeg), .int y1, .int c_day]) (rest := []) (st1 := [.int (S_Swindler_leansMore (c_lean y2.toNatClampNeg) (c_figure y2.toNatClampNeg) y1 c_day)]) hx hb hml hown hts hK hN hA hP hD hS hl (c_Swindler_leansMore l D cI cM cS cJ (aK 6) 10 H.size (c_lean y2.toNatClampNeg) (c_figure y2.toNatClampNeg) y1 c_day rfl rfl) (va_cwO 4 hts gX2_passDay_X10_leansMore_u113X10 rfl rfl rfl (List.mem_of_getElem? (i := 34) rfl) kdM_leansMore ⟨Nat.le_of_ble_eq_true rfl, Nat.le_of_ble_eq_true rfl⟩) 0 10 rfl rfl rfl [11] ⟨Nat.zero_le _, Nat.zero_le _⟩ rfl rfl (by decide +kernel) (k_rp rfl (by decide +kernel)) rfl rfl (Nat.le_of_ble_eq_true rfl) dX2_passDay_77 rfl V77
            · exact k_callU (wy' := []) (As := [.int (c_lean y2.toNatClampNeg), .int (c_figure y2.toNatClampNeg), .int y1, .int c_day]) (rest := []) (st1 := [.int (S_Partner_leansMore (c_lean y2.toNatClampNeg) (c_figure y2.toNatClampNeg) y1 c_day)]) hx hb hml hown hts hK hN hA hP hD hS hl (c_Partner_leansMore l D cI cM cS cJ (aK 7) 6 H.size (c_lean y2.toNatClampNeg) (c_figure y2.toNatClampNeg) y1 c_day rfl rfl) (va_cwO 4 hts gX2_passDay_X6_leansMore_u113X6 rfl rfl rfl (List.mem_of_getElem? (i := 34) rfl) kdM_leansMore ⟨Nat.le_of_ble_eq_true rfl, Nat.le_of_ble_eq_true rfl⟩) 0 6 rfl rfl rfl [12] ⟨Nat.zero_le _, Nat.zero_le _⟩ rfl rfl (by decide +kernel) (k_rp rfl (by decide +kernel)) rfl rfl (Nat.le_of_ble_eq_true rfl) dX2_passDay_77 rfl V77
    refine lv_istore_n (lv' := [(2, .int 0), (1, .int v0), (0, .ref (aC 0))]) hx hb dX2_passDay_32 rfl hl (by decide) rfl (fun ls hl => ?_)
    exact B33 v0 c_place c_swings c_crashes c_day c_crashedToday lfu 0 c_lean H locs ls hP hD hS (lv_sub hl [2, 1, 0] rfl) h
  refine lv_if_ne (tgt := 21) hx hb dX2_passDay_14 (by decide) (fun c14 => ?_) (fun c14 => ?_)
  · have h := k_neg c14 h
    refine lv_aload_n hx hb dX2_passDay_21 rfl (lv_at hl 0 rfl) ?_
    obtain ⟨r22, g22, h⟩ := k_bind h
    refine k_callV (As := []) (rest := []) (st1 := [.int r22]) (ws2 := (Wd12 cI cM aC aK c_men c_propped c_place c_swings c_crashes (c_day + 1) c_crashedToday c_kind c_figure c_lean)) hx hb hml hown hts hK hN hA hP hD hS hl (c_City_sumOfLeans l D cI cM cS cJ aC aK H.size c_men c_propped c_place c_swings c_crashes (c_day + 1) c_crashedToday c_lean g22) gX2_passDay_X2_sumOfLeans rfl kdV_X2_sumOfLeans 0 2 rfl rfl rfl [0, 3] ⟨rfl, rfl⟩ ⟨Nat.le_of_ble_eq_true rfl, Nat.le_of_ble_eq_true rfl⟩ ⟨Nat.zero_le _, Nat.zero_le _⟩ rfl rfl (by decide +kernel) (k_rp rfl (by decide +kernel)) rfl rfl (Nat.le_of_ble_eq_true rfl) dX2_passDay_22 rfl (fun H locs hP hD hS => ?_)
    refine lv_aload_n hx hb dX2_passDay_25 rfl (lv_at hl 0 rfl) ?_
    refine va_get (D := D) (ci := 2) (v := .int c_men) (C := RX2) (T := TX2) (N := 12) hx hb hts hiX2 hown hK hP 0 rfl rfl 3 (by decide) hf34 (fun _ z => z) rfl dX2_passDay_26 ?_
    refine lv_idiv hx hb dX2_passDay_29 c14 ?_
    exact B30 (r22 / c_men) c_place c_swings c_crashes (c_day + 1) c_crashedToday c_lean H locs ls hP hD hS hl h
  · have h := k_pos c14 h
    refine lv_iconst (v := 0) hx hb dX2_passDay_17 (by decide) ?_
    refine lv_goto (tgt := 30) hx hb dX2_passDay_18 (by decide) ?_
    exact B30 0 c_place c_swings c_crashes (c_day + 1) c_crashedToday c_lean H locs ls hP hD hS hl h
theorem kdV_X2_passDay : yX2_passDay.cls = RX2 ∧ yX2_passDay.cls ≠ "java/lang/invoke/MethodHandle" ∧ yX2_passDay.cls ≠ "java/lang/invoke/VarHandle" ∧ (parseMethodDescriptor yX2_passDay.desc).map (fun d => d.parameters.length) = some 0 := by decide +kernel
abbrev rm_X2_passDays : Room := { frames := 4, cells := 0, slots := 0, locals := 105 }
set_option maxHeartbeats 4000000 in
set_option maxRecDepth 100000 in
theorem c_City_passDays (l : Launch) (D : va_G) (cI cM cS cJ : ClassId) (aC : Nat → Nat) (aK : Nat → Nat) (sz : Nat) (x1 : Int32) (c_men : Int32) (c_propped : Int32) (c_place : Int32) (c_swings : Int32) (c_crashes : Int32) (c_day : Int32) (c_crashedToday : Int32) (c_kind : Nat → Int32) (c_figure : Nat → Int32) (c_lean : Nat → Int32) {o : (Int32) × (Int32) × (Int32) × (Int32) × (Int32) × (Int32) × (Nat → Int32)} (hsem : S_City_passDays x1 c_men c_propped c_place c_swings c_crashes c_day c_crashedToday c_kind c_figure c_lean = some o) : kMet l yX2_passDays wsX2_passDays rm_X2_passDays [.ref (aC 0), .int x1] D (kT cI cM cS cJ) (Wd12 cI cM aC aK c_men c_propped c_place c_swings c_crashes c_day c_crashedToday c_kind c_figure c_lean) sz (some (.int o.1)) (Wd12 cI cM aC aK c_men c_propped o.2.1 o.2.2.1 o.2.2.2.1 o.2.2.2.2.1 o.2.2.2.2.2.1 c_kind c_figure o.2.2.2.2.2.2) := by
  refine k_metI (by decide) rfl rfl (Nat.le_of_ble_eq_true rfl) ?_
  intro p e s m below meth c ls Q A hx hb hml hts hown hK hN hA hP hD hS hl hsz hnm hret
  have hown : s.vm.findClass RX2 = some m.cls := hown
  have hf102 := hts (.fieldLink RX2 102 "PlumbLine$City" "crashedToday" "Z") (List.mem_of_getElem? (i := 1) rfl)
  have hiX2 : ∀ w ∈ u_ws RX2 TX2 12, w ∈ wsX2_passDays := fun w h => List.mem_cons_of_mem _ (List.mem_append_right _ h)
  replace hl : lv_has ls 4 [(0, .ref (aC 0)), (1, .int x1)] := hl
  have h := hsem
  clear hsem
  rw [S_City_passDays] at h
  refine lv_iconst (v := 0) hx hb dX2_passDays_0 (by decide) ?_
  refine lv_istore_n (lv' := [(2, .int 0), (0, .ref (aC 0)), (1, .int x1)]) hx hb dX2_passDays_1 rfl hl (by decide) rfl (fun ls hl => ?_)
  refine lv_iconst (v := 0) hx hb dX2_passDays_2 (by decide) ?_
  have B4 : ∀ (n4 : Nat) (y2 : Int32) (y3 : Int32) (c_place : Int32) (c_swings : Int32) (c_crashes : Int32) (c_day : Int32) (c_crashedToday : Int32) (c_lean : Nat → Int32) (H : Heap) (locs : List Loc) (ls : Array Slot), va_P D vwCl (Wd12 cI cM aC aK c_men c_propped c_place c_swings c_crashes c_day c_crashedToday c_kind c_figure c_lean) H → va_D A (Wd12 cI cM aC aK c_men c_propped c_place c_swings c_crashes c_day c_crashedToday c_kind c_figure c_lean) → va_S A s.heap H locs → lv_has ls 4 [(0, .ref (aC 0)), (1, .int x1), (2, .int y2), (3, .int y3)] → S_City_passDays_L4 x1 c_men c_propped c_kind c_figure n4 y2 y3 c_place c_swings c_crashes c_day c_crashedToday c_lean = some o → W p l e rm_X2_passDays s m ([.ref (aC 0), .int x1] : List Value).toArray below meth c H locs 0 0 Q (F0 m 4 ls []) := by
    intro n4
    induction n4 with
    | zero => intro y2 y3 c_place c_swings c_crashes c_day c_crashedToday c_lean H locs ls hP hD hS hl h; exact absurd h (by simp [S_City_passDays_L4])
    | succ n4 ih4 =>
      intro y2 y3 c_place c_swings c_crashes c_day c_crashedToday c_lean H locs ls hP hD hS hl h
      rw [S_City_passDays_L4] at h
      refine lv_iload_n hx hb dX2_passDays_4 rfl (lv_at hl 3 rfl) ?_
      refine lv_iload_n hx hb dX2_passDays_5 rfl (lv_at hl 1 rfl) ?_
      refine lv_icmp_ge (tgt := 29) hx hb dX2_passDays_6 (by decide) (fun c6 => ?_) (fun c6 => ?_)
      · have h := k_pos c6 h
        refine lv_iload_n hx hb dX2_passDays_29 rfl (lv_at hl 2 rfl) ?_
        cases h
        exact hret _ _ _ _ hP hS dX2_passDays_30
      · have h := k_neg c6 h
        refine lv_aload_n hx hb dX2_passDays_9 rfl (lv_at hl 0 rfl) ?_
        obtain ⟨r10, g10, h⟩ := k_bind h
        refine k_callV (As := []) (rest := []) (st1 := []) (ws2 := (Wd12 cI cM aC aK c_men c_propped r10.1 r10.2.1 r10.2.2.1 r10.2.2.2.1 r10.2.2.2.2.1 c_kind c_figure r10.2.2.2.2.2)) hx hb hml hown hts hK hN hA hP hD hS hl (c_City_passDay l D cI cM cS cJ aC aK H.size c_men c_propped c_place c_swings c_crashes c_day c_crashedToday c_kind c_figure c_lean g10) gX2_passDays_X2_passDay rfl kdV_X2_passDay 0 2 rfl rfl rfl [0, 1, 2, 3, 4, 5, 6, 7, 8, 9, 10, 11, 12] ⟨rfl, rfl⟩ ⟨Nat.le_of_ble_eq_true rfl, Nat.le_of_ble_eq_true rfl⟩ ⟨Nat.zero_le _, Nat.zero_le _⟩ rfl rfl (by decide +kernel) (k_rp rfl (by decide +kernel)) rfl rfl (Nat.le_of_ble_eq_true rfl) dX2_passDays_10 rfl (fun H locs hP hD hS => ?_)
        refine lv_aload_n hx hb dX2_passDays_13 rfl (lv_at hl 0 rfl) ?_
        refine va_get (D := D) (ci := 2) (v := .int r10.2.2.2.2.1) (C := RX2) (T := TX2) (N := 12) hx hb hts hiX2 hown hK hP 0 rfl rfl 9 (by decide) hf102 (fun _ z => z) rfl dX2_passDays_14 ?_
        refine lv_if_eq (tgt := 23) hx hb dX2_passDays_17 (by decide) (fun c17 => ?_) (fun c17 => ?_)
        · have h := k_pos c17 h
          refine lv_iinc (v := (y3 + 1)) (lv' := [(3, .int (y3 + 1)), (0, .ref (aC 0)), (1, .int x1), (2, .int y2)]) hx hb dX2_passDays_23 hl (k := 3) rfl (by first | rfl | decide) (by decide) rfl (fun ls hl => ?_)
          refine lv_goto (tgt := 4) hx hb dX2_passDays_26 (by decide) ?_
          exact ih4 y2 (y3 + 1) r10.1 r10.2.1 r10.2.2.1 r10.2.2.2.1 r10.2.2.2.2.1 r10.2.2.2.2.2 H locs ls hP hD hS (lv_sub hl [1, 2, 3, 0] rfl) h
        · have h := k_neg c17 h
          refine lv_iinc (v := (y2 + 1)) (lv' := [(2, .int (y2 + 1)), (0, .ref (aC 0)), (1, .int x1), (3, .int y3)]) hx hb dX2_passDays_20 hl (k := 2) rfl (by first | rfl | decide) (by decide) rfl (fun ls hl => ?_)
          refine lv_iinc (v := (y3 + 1)) (lv' := [(3, .int (y3 + 1)), (2, .int (y2 + 1)), (0, .ref (aC 0)), (1, .int x1)]) hx hb dX2_passDays_23 hl (k := 3) rfl (by first | rfl | decide) (by decide) rfl (fun ls hl => ?_)
          refine lv_goto (tgt := 4) hx hb dX2_passDays_26 (by decide) ?_
          exact ih4 (y2 + 1) (y3 + 1) r10.1 r10.2.1 r10.2.2.1 r10.2.2.2.1 r10.2.2.2.2.1 r10.2.2.2.2.2 H locs ls hP hD hS (lv_sub hl [2, 3, 1, 0] rfl) h
  refine lv_istore_n (lv' := [(3, .int 0), (2, .int 0), (0, .ref (aC 0)), (1, .int x1)]) hx hb dX2_passDays_3 rfl hl (by decide) rfl (fun ls hl => ?_)
  exact B4 lfu 0 0 c_place c_swings c_crashes c_day c_crashedToday c_lean s.heap [] ls hP hD hS (lv_sub hl [2, 3, 1, 0] rfl) h
abbrev Wd13 (cI : ClassId) (cM : ClassId) (aC : Nat → Nat) (aD : Nat → Nat) (aK : Nat → Nat) (c_men : Int32) (c_propped : Int32) (c_place : Int32) (c_swings : Int32) (c_crashes : Int32) (c_day : Int32) (c_crashedToday : Int32) (c_kind : Nat → Int32) (c_figure : Nat → Int32) (c_lean : Nat → Int32) (d_kind : Int32) (d_figure : Int32) (d_sort : Int32) (d_size : Int32) (d_held : Int32) (d_el : Nat → Int32) : va_W := [((aC 0), .inr (2, [.ref (aC 1), .ref (aC 2), .ref (aC 3), .int c_men, .int c_propped, .int c_place, .int c_swings, .int c_crashes, .int c_day, .int c_crashedToday, .ref (aK 8), .ref (aC 4)])), ((aC 1), .inl (cI, 8, .inl c_kind)), ((aC 2), .inl (cI, 8, .inl c_figure)), ((aC 3), .inl (cI, 8, .inl c_lean)), ((aD 0), .inr (9, [.ref (aD 1), .int d_kind, .int d_figure, .int d_sort, .int d_size, .int d_held, .ref (aK 8)])), ((aD 1), .inl (cI, 100, .inl d_el)), ((aK 8), .inl (cM, 8, .inr (.inr (.inr (.inr (fun k => some (aK k))))))), ((aK 0), .inr (4, [])), ((aK 1), .inr (0, [])), ((aK 2), .inr (7, [])), ((aK 3), .inr (3, [])), ((aK 4), .inr (1, [])), ((aK 5), .inr (8, [])), ((aK 6), .inr (10, [])), ((aK 7), .inr (6, []))]
theorem kdV_X2_passDays : yX2_passDays.cls = RX2 ∧ yX2_passDays.cls ≠ "java/lang/invoke/MethodHandle" ∧ yX2_passDays.cls ≠ "java/lang/invoke/VarHandle" ∧ (parseMethodDescriptor yX2_passDays.desc).map (fun d => d.parameters.length) = some 1 := by decide +kernel
abbrev rm_X2_takesDaysTold : Room := { frames := 5, cells := 0, slots := 0, locals := 128 }
set_option maxHeartbeats 4000000 in
set_option maxRecDepth 100000 in
theorem c_City_takesDaysTold (l : Launch) (D : va_G) (cI cM cS cJ : ClassId) (aC : Nat → Nat) (aD : Nat → Nat) (aK : Nat → Nat) (sz : Nat) (x2 : Int32) (c_men : Int32) (c_propped : Int32) (c_place : Int32) (c_swings : Int32) (c_crashes : Int32) (c_day : Int32) (c_crashedToday : Int32) (c_kind : Nat → Int32) (c_figure : Nat → Int32) (c_lean : Nat → Int32) (d_kind : Int32) (d_figure : Int32) (d_sort : Int32) (d_size : Int32) (d_held : Int32) (d_el : Nat → Int32) {o : (Int32) × (Int32) × (Int32) × (Int32) × (Int32) × (Int32) × (Nat → Int32)} (hsem : S_City_takesDaysTold x2 c_men c_propped c_place c_swings c_crashes c_day c_crashedToday c_kind c_figure c_lean d_size d_el = some o) : kMet l yX2_takesDaysTold wsX2_takesDaysTold rm_X2_takesDaysTold [.ref (aC 0), .ref (aD 0), .int x2] D (kT cI cM cS cJ) (Wd13 cI cM aC aD aK c_men c_propped c_place c_swings c_crashes c_day c_crashedToday c_kind c_figure c_lean d_kind d_figure d_sort d_size d_held d_el) sz (some (.int o.1)) (Wd13 cI cM aC aD aK c_men c_propped o.2.1 o.2.2.1 o.2.2.2.1 o.2.2.2.2.1 o.2.2.2.2.2.1 c_kind c_figure o.2.2.2.2.2.2 d_kind d_figure d_sort d_size d_held d_el) := by
  refine k_metZ (by decide) rfl rfl (Nat.le_of_ble_eq_true rfl) ?_
  intro p e s m below meth c ls Q A hx hb hml hts hown hK hN hA hP hD hS hl hsz hnm hret
  have hown : s.vm.findClass RX2 = some m.cls := hown
  have hf50 := hts (.fieldLink RX2 50 "PlumbLine$City" "day" "I") (List.mem_of_getElem? (i := 1) rfl)
  have hiX2 : ∀ w ∈ u_ws RX2 TX2 12, w ∈ wsX2_takesDaysTold := fun w h => List.mem_cons_of_mem _ (List.mem_append_left _ (List.mem_append_right _ h))
  replace hl : lv_has ls 4 [(0, .ref (aC 0)), (1, .ref (aD 0)), (2, .int x2)] := hl
  have h := hsem
  clear hsem
  rw [S_City_takesDaysTold] at h
  refine lv_aload_n hx hb dX2_takesDaysTold_0 rfl (lv_at hl 1 rfl) ?_
  refine lv_iload_n hx hb dX2_takesDaysTold_1 rfl (lv_at hl 2 rfl) ?_
  refine lv_iconst (v := 1) hx hb dX2_takesDaysTold_2 (by decide) ?_
  refine lv_iadd hx hb dX2_takesDaysTold_3 ?_
  obtain ⟨r4, g4, h⟩ := k_bind h
  refine k_callV (As := [.int (x2 + 1)]) (rest := []) (st1 := [.int r4]) (ws2 := (Wd13 cI cM aC aD aK c_men c_propped c_place c_swings c_crashes c_day c_crashedToday c_kind c_figure c_lean d_kind d_figure d_sort d_size d_held d_el)) hx hb hml hown hts hK hN hA hP hD hS hl (c_Shelf_twoDigits l D cI cM cS cJ aD aK s.heap.size (x2 + 1) d_kind d_figure d_sort d_size d_held d_el g4) gX2_takesDaysTold_X9_twoDigits rfl kdV_X9_twoDigits 0 9 rfl rfl rfl [4, 5] ⟨rfl, rfl⟩ ⟨Nat.le_of_ble_eq_true rfl, Nat.le_of_ble_eq_true rfl⟩ ⟨Nat.zero_le _, Nat.zero_le _⟩ rfl rfl (by decide +kernel) (k_rp rfl (by decide +kernel)) rfl rfl (Nat.le_of_ble_eq_true rfl) dX2_takesDaysTold_4 rfl (fun H locs hP hD hS => ?_)
  refine lv_istore_n (lv' := [(3, .int r4), (0, .ref (aC 0)), (1, .ref (aD 0)), (2, .int x2)]) hx hb dX2_takesDaysTold_7 rfl hl (by decide) rfl (fun ls hl => ?_)
  refine lv_iload_n hx hb dX2_takesDaysTold_8 rfl (lv_at hl 0 rfl) ?_
  refine lv_iconst (v := 1) hx hb dX2_takesDaysTold_9 (by decide) ?_
  refine lv_bipush (v := 60) hx hb dX2_takesDaysTold_10 (by decide) ?_
  refine k_callN (As := [.int r4, .int 1, .int 60]) (rest := []) (st1 := [.int (S_PL_isIn r4 1 60)]) (ws2 := (Wd13 cI cM aC aD aK c_men c_propped c_place c_swings c_crashes c_day c_crashedToday c_kind c_figure c_lean d_kind d_figure d_sort d_size d_held d_el)) hx hb hml hown hts hK hN hA hP hD hS hl (c_PL_isIn l D cI cM cS cJ H.size r4 1 60 rfl) gX2_takesDaysTold_X11_isIn_n93 rfl (List.mem_of_getElem? (i := 15) rfl) (hts _ (List.mem_of_getElem? (i := 18) rfl)) (hts _ (List.mem_of_getElem? (i := 17) rfl)) kdS_X11_isIn [] ⟨rfl, rfl⟩ ⟨Nat.le_of_ble_eq_true rfl, Nat.le_of_ble_eq_true rfl⟩ ⟨Nat.zero_le _, Nat.zero_le _⟩ rfl rfl (by decide +kernel) (k_rp rfl (by decide +kernel)) rfl rfl (Nat.le_of_ble_eq_true rfl) dX2_takesDaysTold_12 rfl (fun H locs hP hD hS => ?_)
  refine lv_if_eq (tgt := 30) hx hb dX2_takesDaysTold_15 (by decide) (fun c15 => ?_) (fun c15 => ?_)
  · have h := k_pos c15 h
    refine lv_iconst (v := 0) hx hb dX2_takesDaysTold_30 (by decide) ?_
    cases h
    exact hret _ _ _ _ (k_z01 (fun z => z (Or.inl rfl))) hP hS dX2_takesDaysTold_31
  · have h := k_neg c15 h
    refine lv_aload_n hx hb dX2_takesDaysTold_18 rfl (lv_at hl 1 rfl) ?_
    refine va_get (D := D) (ci := 2) (v := .int c_day) (C := RX2) (T := TX2) (N := 12) hx hb hts hiX2 hown hK hP 0 rfl rfl 8 (by decide) hf50 (fun _ z => z) rfl dX2_takesDaysTold_19 ?_
    refine lv_iload_n hx hb dX2_takesDaysTold_22 rfl (lv_at hl 0 rfl) ?_
    refine lv_iadd hx hb dX2_takesDaysTold_23 ?_
    refine lv_sipush (v := 999) hx hb dX2_takesDaysTold_24 (by decide) ?_
    refine lv_icmp_le (tgt := 32) hx hb dX2_takesDaysTold_27 (by decide) (fun c27 => ?_) (fun c27 => ?_)
    · have h := k_pos c27 h
      refine lv_aload_n hx hb dX2_takesDaysTold_32 rfl (lv_at hl 1 rfl) ?_
      refine lv_iload_n hx hb dX2_takesDaysTold_33 rfl (lv_at hl 0 rfl) ?_
      obtain ⟨r34, g34, h⟩ := k_bind h
      refine k_callV (As := [.int r4]) (rest := []) (st1 := [.int r34.1]) (ws2 := (Wd13 cI cM aC aD aK c_men c_propped r34.2.1 r34.2.2.1 r34.2.2.2.1 r34.2.2.2.2.1 r34.2.2.2.2.2.1 c_kind c_figure r34.2.2.2.2.2.2 d_kind d_figure d_sort d_size d_held d_el)) hx hb hml hown hts hK hN hA hP hD hS hl (c_City_passDays l D cI cM cS cJ aC aK H.size r4 c_men c_propped c_place c_swings c_crashes c_day c_crashedToday c_kind c_figure c_lean g34) gX2_takesDaysTold_X2_passDays rfl kdV_X2_passDays 0 2 rfl rfl rfl [0, 1, 2, 3, 6, 7, 8, 9, 10, 11, 12, 13, 14] ⟨rfl, rfl⟩ ⟨Nat.le_of_ble_eq_true rfl, Nat.le_of_ble_eq_true rfl⟩ ⟨Nat.zero_le _, Nat.zero_le _⟩ rfl rfl (by decide +kernel) (k_rp rfl (by decide +kernel)) rfl rfl (Nat.le_of_ble_eq_true rfl) dX2_takesDaysTold_34 rfl (fun H locs hP hD hS => ?_)
      refine lv_pop hx hb dX2_takesDaysTold_37 rfl ?_
      refine lv_iconst (v := 1) hx hb dX2_takesDaysTold_38 (by decide) ?_
      cases h
      exact hret _ _ _ _ (k_z01 (fun z => z (Or.inr rfl))) hP hS dX2_takesDaysTold_39
    · have h := k_neg c27 h
      refine lv_iconst (v := 0) hx hb dX2_takesDaysTold_30 (by decide) ?_
      cases h
      exact hret _ _ _ _ (k_z01 (fun z => z (Or.inl rfl))) hP hS dX2_takesDaysTold_31
theorem kdV_X2_takesLeanTold : yX2_takesLeanTold.cls = RX2 ∧ yX2_takesLeanTold.cls ≠ "java/lang/invoke/MethodHandle" ∧ yX2_takesLeanTold.cls ≠ "java/lang/invoke/VarHandle" ∧ (parseMethodDescriptor yX2_takesLeanTold.desc).map (fun d => d.parameters.length) = some 2 := by decide +kernel
theorem kdV_X2_takesManTold : yX2_takesManTold.cls = RX2 ∧ yX2_takesManTold.cls ≠ "java/lang/invoke/MethodHandle" ∧ yX2_takesManTold.cls ≠ "java/lang/invoke/VarHandle" ∧ (parseMethodDescriptor yX2_takesManTold.desc).map (fun d => d.parameters.length) = some 2 := by decide +kernel
theorem kdV_X2_takesPropTold : yX2_takesPropTold.cls = RX2 ∧ yX2_takesPropTold.cls ≠ "java/lang/invoke/MethodHandle" ∧ yX2_takesPropTold.cls ≠ "java/lang/invoke/VarHandle" ∧ (parseMethodDescriptor yX2_takesPropTold.desc).map (fun d => d.parameters.length) = some 2 := by decide +kernel
theorem kdV_X2_takesLeadTold : yX2_takesLeadTold.cls = RX2 ∧ yX2_takesLeadTold.cls ≠ "java/lang/invoke/MethodHandle" ∧ yX2_takesLeadTold.cls ≠ "java/lang/invoke/VarHandle" ∧ (parseMethodDescriptor yX2_takesLeadTold.desc).map (fun d => d.parameters.length) = some 2 := by decide +kernel
theorem kdV_X2_takesDaysTold : yX2_takesDaysTold.cls = RX2 ∧ yX2_takesDaysTold.cls ≠ "java/lang/invoke/MethodHandle" ∧ yX2_takesDaysTold.cls ≠ "java/lang/invoke/VarHandle" ∧ (parseMethodDescriptor yX2_takesDaysTold.desc).map (fun d => d.parameters.length) = some 2 := by decide +kernel
abbrev rm_X2_takesStatement : Room := { frames := 6, cells := 0, slots := 0, locals := 151 }
set_option maxHeartbeats 4000000 in
set_option maxRecDepth 100000 in
theorem c_City_takesStatement (l : Launch) (D : va_G) (cI cM cS cJ : ClassId) (aC : Nat → Nat) (aD : Nat → Nat) (aK : Nat → Nat) (sz : Nat) (x2 : Int32) (c_men : Int32) (c_propped : Int32) (c_place : Int32) (c_swings : Int32) (c_crashes : Int32) (c_day : Int32) (c_crashedToday : Int32) (c_kind : Nat → Int32) (c_figure : Nat → Int32) (c_lean : Nat → Int32) (d_kind : Int32) (d_figure : Int32) (d_sort : Int32) (d_size : Int32) (d_held : Int32) (d_el : Nat → Int32) {o : (Int32) × (Int32) × (Int32) × (Int32) × (Int32) × (Int32) × (Int32) × (Int32) × (Nat → Int32) × (Nat → Int32) × (Nat → Int32)} (hsem : S_City_takesStatement x2 c_men c_propped c_place c_swings c_crashes c_day c_crashedToday c_kind c_figure c_lean d_size d_el = some o) : kMet l yX2_takesStatement wsX2_takesStatement rm_X2_takesStatement [.ref (aC 0), .ref (aD 0), .int x2] D (kT cI cM cS cJ) (Wd13 cI cM aC aD aK c_men c_propped c_place c_swings c_crashes c_day c_crashedToday c_kind c_figure c_lean d_kind d_figure d_sort d_size d_held d_el) sz (some (.int o.1)) (Wd13 cI cM aC aD aK o.2.1 o.2.2.1 o.2.2.2.1 o.2.2.2.2.1 o.2.2.2.2.2.1 o.2.2.2.2.2.2.1 o.2.2.2.2.2.2.2.1 o.2.2.2.2.2.2.2.2.1 o.2.2.2.2.2.2.2.2.2.1 o.2.2.2.2.2.2.2.2.2.2 d_kind d_figure d_sort d_size d_held d_el) := by
  refine k_metZ (by decide) rfl rfl (Nat.le_of_ble_eq_true rfl) ?_
  intro p e s m below meth c ls Q A hx hb hml hts hown hK hN hA hP hD hS hl hsz hnm hret
  have hown : s.vm.findClass RX2 = some m.cls := hown
  have hf53 := hts (.fieldLink RX2 53 "PlumbLine$Shelf" "elements" "[I") (List.mem_of_getElem? (i := 1) rfl)
  have hiX9 : ∀ w ∈ u_ws RX9 TX9 7, w ∈ wsX2_takesStatement := fun w h => List.mem_cons_of_mem _ (List.mem_append_left _ (List.mem_append_right _ h))
  replace hl : lv_has ls 3 [(0, .ref (aC 0)), (1, .ref (aD 0)), (2, .int x2)] := hl
  have h := hsem
  clear hsem
  rw [S_City_takesStatement] at h
  refine lv_aload_n hx hb dX2_takesStatement_0 rfl (lv_at hl 1 rfl) ?_
  refine va_get (D := D) (ci := 9) (v := .ref (aD 1)) (C := RX9) (T := TX9) (N := 7) hx hb hts hiX9 hown hK hP 4 rfl rfl 0 (by decide) hf53 (fun _ z => z) rfl dX2_takesStatement_1 ?_
  refine lv_iload_n hx hb dX2_takesStatement_4 rfl (lv_at hl 2 rfl) ?_
  obtain ⟨g5, h⟩ := k_guard h
  refine va_iald hx hb hK hP 5 0 rfl rfl g5 dX2_takesStatement_5 ?_
  by_cases s6_108 : (d_el x2.toNatClampNeg) = 108
  · refine k_lkI (tgt := 55) (v := 108) hx hb dX2_takesStatement_6 s6_108 rfl rfl (by decide) ?_
    have h := k_pos s6_108 h
    refine lv_aload_n hx hb dX2_takesStatement_55 rfl (lv_at hl 0 rfl) ?_
    refine lv_aload_n hx hb dX2_takesStatement_56 rfl (lv_at hl 1 rfl) ?_
    refine lv_iload_n hx hb dX2_takesStatement_57 rfl (lv_at hl 2 rfl) ?_
    obtain ⟨r58, g58, h⟩ := k_bind h
    refine k_callV (As := [.ref (aD 0), .int x2]) (rest := []) (st1 := [.int r58.1]) (ws2 := (Wd13 cI cM aC aD aK c_men c_propped c_place c_swings c_crashes c_day c_crashedToday c_kind c_figure r58.2 d_kind d_figure d_sort d_size d_held d_el)) hx hb hml hown hts hK hN hA hP hD hS hl (c_City_takesLeanTold l D cI cM cS cJ aC aD aK s.heap.size x2 c_men c_propped c_place c_swings c_crashes c_day c_crashedToday c_lean d_kind d_figure d_sort d_size d_held d_el g58) gX2_takesStatement_X2_takesLeanTold rfl kdV_X2_takesLeanTold 0 2 rfl rfl rfl [0, 3, 4, 5] ⟨rfl, rfl⟩ ⟨Nat.le_of_ble_eq_true rfl, Nat.le_of_ble_eq_true rfl⟩ ⟨Nat.zero_le _, Nat.zero_le _⟩ rfl rfl (by decide +kernel) (k_rp rfl (by decide +kernel)) rfl rfl (Nat.le_of_ble_eq_true rfl) dX2_takesStatement_58 rfl (fun H locs hP hD hS => ?_)
    obtain ⟨g61, h⟩ := k_guard h
    cases h
    exact hret _ _ _ _ (k_z01 g61) hP hS dX2_takesStatement_61
  · have h := k_neg s6_108 h
    by_cases s6_109 : (d_el x2.toNatClampNeg) = 109
    · refine k_lkI (tgt := 48) (v := 109) hx hb dX2_takesStatement_6 s6_109 rfl rfl (by decide) ?_
      have h := k_pos s6_109 h
      refine lv_aload_n hx hb dX2_takesStatement_48 rfl (lv_at hl 0 rfl) ?_
      refine lv_aload_n hx hb dX2_takesStatement_49 rfl (lv_at hl 1 rfl) ?_
      refine lv_iload_n hx hb dX2_takesStatement_50 rfl (lv_at hl 2 rfl) ?_
      obtain ⟨r51, g51, h⟩ := k_bind h
      refine k_callV (As := [.ref (aD 0), .int x2]) (rest := []) (st1 := [.int r51.1]) (ws2 := (Wd13 cI cM aC aD aK r51.2.1 c_propped c_place c_swings c_crashes c_day c_crashedToday r51.2.2.1 r51.2.2.2.1 r51.2.2.2.2 d_kind d_figure d_sort d_size d_held d_el)) hx hb hml hown hts hK hN hA hP hD hS hl (c_City_takesManTold l D cI cM cS cJ aC aD aK s.heap.size x2 c_men c_propped c_place c_swings c_crashes c_day c_crashedToday c_kind c_figure c_lean d_kind d_figure d_sort d_size d_held d_el g51) gX2_takesStatement_X2_takesManTold rfl kdV_X2_takesManTold 0 2 rfl rfl rfl [0, 1, 2, 3, 4, 5] ⟨rfl, rfl⟩ ⟨Nat.le_of_ble_eq_true rfl, Nat.le_of_ble_eq_true rfl⟩ ⟨Nat.zero_le _, Nat.zero_le _⟩ rfl rfl (by decide +kernel) (k_rp rfl (by decide +kernel)) rfl rfl (Nat.le_of_ble_eq_true rfl) dX2_takesStatement_51 rfl (fun H locs hP hD hS => ?_)
      obtain ⟨g54, h⟩ := k_guard h
      cases h
      exact hret _ _ _ _ (k_z01 g54) hP hS dX2_takesStatement_54
    · have h := k_neg s6_109 h
      by_cases s6_114 : (d_el x2.toNatClampNeg) = 114
      · refine k_lkI (tgt := 62) (v := 114) hx hb dX2_takesStatement_6 s6_114 rfl rfl (by decide) ?_
        have h := k_pos s6_114 h
        refine lv_aload_n hx hb dX2_takesStatement_62 rfl (lv_at hl 0 rfl) ?_
        refine lv_aload_n hx hb dX2_takesStatement_63 rfl (lv_at hl 1 rfl) ?_
        refine lv_iload_n hx hb dX2_takesStatement_64 rfl (lv_at hl 2 rfl) ?_
        obtain ⟨r65, g65, h⟩ := k_bind h
        refine k_callV (As := [.ref (aD 0), .int x2]) (rest := []) (st1 := [.int r65.1]) (ws2 := (Wd13 cI cM aC aD aK c_men r65.2 c_place c_swings c_crashes c_day c_crashedToday c_kind c_figure c_lean d_kind d_figure d_sort d_size d_held d_el)) hx hb hml hown hts hK hN hA hP hD hS hl (c_City_takesPropTold l D cI cM cS cJ aC aD aK s.heap.size x2 c_men c_propped c_place c_swings c_crashes c_day c_crashedToday d_kind d_figure d_sort d_size d_held d_el g65) gX2_takesStatement_X2_takesPropTold rfl kdV_X2_takesPropTold 0 2 rfl rfl rfl [0, 4, 5] ⟨rfl, rfl⟩ ⟨Nat.le_of_ble_eq_true rfl, Nat.le_of_ble_eq_true rfl⟩ ⟨Nat.zero_le _, Nat.zero_le _⟩ rfl rfl (by decide +kernel) (k_rp rfl (by decide +kernel)) rfl rfl (Nat.le_of_ble_eq_true rfl) dX2_takesStatement_65 rfl (fun H locs hP hD hS => ?_)
        obtain ⟨g68, h⟩ := k_guard h
        cases h
        exact hret _ _ _ _ (k_z01 g68) hP hS dX2_takesStatement_68
      · have h := k_neg s6_114 h
        by_cases s6_119 : (d_el x2.toNatClampNeg) = 119
        · refine k_lkI (tgt := 69) (v := 119) hx hb dX2_takesStatement_6 s6_119 rfl rfl (by decide) ?_
          have h := k_pos s6_119 h
          refine lv_aload_n hx hb dX2_takesStatement_69 rfl (lv_at hl 0 rfl) ?_
          refine lv_aload_n hx hb dX2_takesStatement_70 rfl (lv_at hl 1 rfl) ?_
          refine lv_iload_n hx hb dX2_takesStatement_71 rfl (lv_at hl 2 rfl) ?_
          obtain ⟨r72, g72, h⟩ := k_bind h
          refine k_callV (As := [.ref (aD 0), .int x2]) (rest := []) (st1 := [.int r72.1]) (ws2 := (Wd13 cI cM aC aD aK c_men c_propped r72.2.1 r72.2.2 c_crashes c_day c_crashedToday c_kind c_figure c_lean d_kind d_figure d_sort d_size d_held d_el)) hx hb hml hown hts hK hN hA hP hD hS hl (c_City_takesLeadTold l D cI cM cS cJ aC aD aK s.heap.size x2 c_men c_propped c_place c_swings c_crashes c_day c_crashedToday d_kind d_figure d_sort d_size d_held d_el g72) gX2_takesStatement_X2_takesLeadTold rfl kdV_X2_takesLeadTold 0 2 rfl rfl rfl [0, 4, 5] ⟨rfl, rfl⟩ ⟨Nat.le_of_ble_eq_true rfl, Nat.le_of_ble_eq_true rfl⟩ ⟨Nat.zero_le _, Nat.zero_le _⟩ rfl rfl (by decide +kernel) (k_rp rfl (by decide +kernel)) rfl rfl (Nat.le_of_ble_eq_true rfl) dX2_takesStatement_72 rfl (fun H locs hP hD hS => ?_)
          obtain ⟨g75, h⟩ := k_guard h
          cases h
          exact hret _ _ _ _ (k_z01 g75) hP hS dX2_takesStatement_75
        · have h := k_neg s6_119 h
          refine lv_lookup (tgt := 76) hx hb dX2_takesStatement_6 rfl (k_lkN _ _ _ (List.forall_mem_cons.mpr ⟨k_ne s6_108 rfl, (List.forall_mem_cons.mpr ⟨k_ne s6_109 rfl, (List.forall_mem_cons.mpr ⟨k_ne s6_114 rfl, (List.forall_mem_cons.mpr ⟨k_ne s6_119 rfl, (fun _ z => absurd z List.not_mem_nil)⟩)⟩)⟩)⟩)) (by decide) ?_
          refine lv_aload_n hx hb dX2_takesStatement_76 rfl (lv_at hl 0 rfl) ?_
          refine lv_aload_n hx hb dX2_takesStatement_77 rfl (lv_at hl 1 rfl) ?_
          refine lv_iload_n hx hb dX2_takesStatement_78 rfl (lv_at hl 2 rfl) ?_
          obtain ⟨r79, g79, h⟩ := k_bind h
          refine k_callV (As := [.ref (aD 0), .int x2]) (rest := []) (st1 := [.int r79.1]) (ws2 := (Wd13 cI cM aC aD aK c_men c_propped r79.2.1 r79.2.2.1 r79.2.2.2.1 r79.2.2.2.2.1 r79.2.2.2.2.2.1 c_kind c_figure r79.2.2.2.2.2.2 d_kind d_figure d_sort d_size d_held d_el)) hx hb hml hown hts hK hN hA hP hD hS hl (c_City_takesDaysTold l D cI cM cS cJ aC aD aK s.heap.size x2 c_men c_propped c_place c_swings c_crashes c_day c_crashedToday c_kind c_figure c_lean d_kind d_figure d_sort d_size d_held d_el g79) gX2_takesStatement_X2_takesDaysTold rfl kdV_X2_takesDaysTold 0 2 rfl rfl rfl [0, 1, 2, 3, 4, 5, 6, 7, 8, 9, 10, 11, 12, 13, 14] ⟨rfl, rfl⟩ ⟨Nat.le_of_ble_eq_true rfl, Nat.le_of_ble_eq_true rfl⟩ ⟨Nat.zero_le _, Nat.zero_le _⟩ rfl rfl (by decide +kernel) (k_rp rfl (by decide +kernel)) rfl rfl (Nat.le_of_ble_eq_true rfl) dX2_takesStatement_79 rfl (fun H locs hP hD hS => ?_)
          obtain ⟨g82, h⟩ := k_guard h
          cases h
          exact hret _ _ _ _ (k_z01 g82) hP hS dX2_takesStatement_82
