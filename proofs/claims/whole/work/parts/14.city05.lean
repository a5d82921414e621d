theorem kdV_X2_side : yX2_side.cls = RX2 ∧ yX2_side.cls ≠ "java/lang/invoke/MethodHandle" ∧ yX2_side.cls ≠ "java/lang/invoke/VarHandle" ∧ (parseMethodDescriptor yX2_side.desc).map (fun d => d.parameters.length) = some 1 := by decide +kernel
abbrev rm_X2_trusts : Room := { frames := 2, cells := 0, slots := 0, locals := 61 }
set_option maxHeartbeats 4000000 in
set_option maxRecDepth 100000 in
theorem c_City_trusts (l : Launch) (D : va_G) (cI cM cS cJ : ClassId) (aC : Nat → Nat) (aK : Nat → Nat) (sz : Nat) (x1 : Int32) (x2 : Int32) (c_men : Int32) (c_propped : Int32) (c_place : Int32) (c_swings : Int32) (c_crashes : Int32) (c_day : Int32) (c_crashedToday : Int32) (c_lean : Nat → Int32) {o : (Int32)} (hsem : S_City_trusts x1 x2 c_lean = some o) : kMet l yX2_trusts wsX2_trusts rm_X2_trusts [.ref (aC 0), .int x1, .int x2] D (kT cI cM cS cJ) (Wd11 cI aC aK c_men c_propped c_place c_swings c_crashes c_day c_crashedToday c_lean) sz (some (.int o)) (Wd11 cI aC aK c_men c_propped c_place c_swings c_crashes c_day c_crashedToday c_lean) := by
  refine k_metZ (by decide) rfl rfl (Nat.le_of_ble_eq_true rfl) ?_
  intro p e s m below meth c ls Q A hx hb hml hts hown hK hN hA hP hD hS hl hsz hnm hret
  have hown : s.vm.findClass RX2 = some m.cls := hown
  replace hl : lv_has ls 3 [(0, .ref (aC 0)), (1, .int x1), (2, .int x2)] := hl
  have h := hsem
  clear hsem
  rw [S_City_trusts] at h
  refine lv_iload_n hx hb dX2_trusts_0 rfl (lv_at hl 1 rfl) ?_
  refine lv_iload_n hx hb dX2_trusts_1 rfl (lv_at hl 2 rfl) ?_
  refine lv_icmp_eq (tgt := 38) hx hb dX2_trusts_2 (by decide) (fun c2 => ?_) (fun c2 => ?_)
  · have h := k_pos c2 h
    refine lv_iconst (v := 0) hx hb dX2_trusts_38 (by decide) ?_
    cases h
    exact hret _ _ _ _ rfl hP hS dX2_trusts_39
  · have h := k_neg c2 h
    refine lv_aload_n hx hb dX2_trusts_5 rfl (lv_at hl 0 rfl) ?_
    refine lv_iload_n hx hb dX2_trusts_6 rfl (lv_at hl 1 rfl) ?_
    obtain ⟨r7, g7, h⟩ := k_bind h
    refine k_callV (As := [.int x1]) (rest := []) (st1 := [.int r7]) (ws2 := (Wd11 cI aC aK c_men c_propped c_place c_swings c_crashes c_day c_crashedToday c_lean)) hx hb hml hown hts hK hN hA hP hD hS hl (c_City_side l D cI cM cS cJ aC aK s.heap.size x1 c_men c_propped c_place c_swings c_crashes c_day c_crashedToday c_lean g7) gX2_trusts_X2_side rfl kdV_X2_side 0 2 rfl rfl rfl [0, 1] ⟨rfl, rfl⟩ ⟨Nat.le_of_ble_eq_true rfl, Nat.le_of_ble_eq_true rfl⟩ ⟨Nat.zero_le _, Nat.zero_le _⟩ rfl rfl (by decide +kernel) (k_rp rfl (by decide +kernel)) rfl rfl (Nat.le_of_ble_eq_true rfl) dX2_trusts_7 rfl (fun H locs hP hD hS => ?_)
    refine lv_aload_n hx hb dX2_trusts_10 rfl (lv_at hl 0 rfl) ?_
    refine lv_iload_n hx hb dX2_trusts_11 rfl (lv_at hl 2 rfl) ?_
    obtain ⟨r12, g12, h⟩ := k_bind h
    refine k_callV (As := [.int x2]) (rest := [.int r7]) (st1 := [.int r12, .int r7]) (ws2 := (Wd11 cI aC aK c_men c_propped c_place c_swings c_crashes c_day c_crashedToday c_lean)) hx hb hml hown hts hK hN hA hP hD hS hl (c_City_side l D cI cM cS cJ aC aK H.size x2 c_men c_propped c_place c_swings c_crashes c_day c_crashedToday c_lean g12) gX2_trusts_X2_side rfl kdV_X2_side 0 2 rfl rfl rfl [0, 1] ⟨rfl, rfl⟩ ⟨Nat.le_of_ble_eq_true rfl, Nat.le_of_ble_eq_true rfl⟩ ⟨Nat.zero_le _, Nat.zero_le _⟩ rfl rfl (by decide +kernel) (k_rp rfl (by decide +kernel)) rfl rfl (Nat.le_of_ble_eq_true rfl) dX2_trusts_12 rfl (fun H locs hP hD hS => ?_)
    refine lv_icmp_ne (tgt := 38) hx hb dX2_trusts_15 (by decide) (fun c15 => ?_) (fun c15 => ?_)
    · have h := k_neg c15 h
      refine lv_iconst (v := 0) hx hb dX2_trusts_38 (by decide) ?_
      cases h
      exact hret _ _ _ _ rfl hP hS dX2_trusts_39
    · have h := k_pos c15 h
      refine lv_aload_n hx hb dX2_trusts_18 rfl (lv_at hl 0 rfl) ?_
      refine lv_iload_n hx hb dX2_trusts_19 rfl (lv_at hl 2 rfl) ?_
      obtain ⟨r20, g20, h⟩ := k_bind h
      refine k_callV (As := [.int x2]) (rest := []) (st1 := [.int r20]) (ws2 := (Wd11 cI aC aK c_men c_propped c_place c_swings c_crashes c_day c_crashedToday c_lean)) hx hb hml hown hts hK hN hA hP hD hS hl (c_City_far l D cI cM cS cJ aC aK H.size x2 c_men c_propped c_place c_swings c_crashes c_day c_crashedToday c_lean g20) gX2_trusts_X2_far rfl kdV_X2_far 0 2 rfl rfl rfl [0, 1] ⟨rfl, rfl⟩ ⟨Nat.le_of_ble_eq_true rfl, Nat.le_of_ble_eq_true rfl⟩ ⟨Nat.zero_le _, Nat.zero_le _⟩ rfl rfl (by decide +kernel) (k_rp rfl (by decide +kernel)) rfl rfl (Nat.le_of_ble_eq_true rfl) dX2_trusts_20 rfl (fun H locs hP hD hS => ?_)
      refine lv_aload_n hx hb dX2_trusts_23 rfl (lv_at hl 0 rfl) ?_
      refine lv_iload_n hx hb dX2_trusts_24 rfl (lv_at hl 1 rfl) ?_
      obtain ⟨r25, g25, h⟩ := k_bind h
      refine k_callV (As := [.int x1]) (rest := [.int r20]) (st1 := [.int r25, .int r20]) (ws2 := (Wd11 cI aC aK c_men c_propped c_place c_swings c_crashes c_day c_crashedToday c_lean)) hx hb hml hown hts hK hN hA hP hD hS hl (c_City_far l D cI cM cS cJ aC aK H.size x1 c_men c_propped c_place c_swings c_crashes c_day c_crashedToday c_lean g25) gX2_trusts_X2_far rfl kdV_X2_far 0 2 rfl rfl rfl [0, 1] ⟨rfl, rfl⟩ ⟨Nat.le_of_ble_eq_true rfl, Nat.le_of_ble_eq_true rfl⟩ ⟨Nat.zero_le _, Nat.zero_le _⟩ rfl rfl (by decide +kernel) (k_rp rfl (by decide +kernel)) rfl rfl (Nat.le_of_ble_eq_true rfl) dX2_trusts_25 rfl (fun H locs hP hD hS => ?_)
      refine lv_bipush (v := 10) hx hb dX2_trusts_28 (by decide) ?_
      refine lv_iadd hx hb dX2_trusts_30 ?_
      refine lv_icmp_gt (tgt := 38) hx hb dX2_trusts_31 (by decide) (fun c31 => ?_) (fun c31 => ?_)
      · have h := k_pos c31 h
        refine lv_iconst (v := 0) hx hb dX2_trusts_38 (by decide) ?_
        cases h
        exact hret _ _ _ _ rfl hP hS dX2_trusts_39
      · have h := k_neg c31 h
        refine lv_iconst (v := 1) hx hb dX2_trusts_34 (by decide) ?_
        refine lv_goto (tgt := 39) hx hb dX2_trusts_35 (by decide) ?_
        cases h
        exact hret _ _ _ _ rfl hP hS dX2_trusts_39
theorem kdV_X2_trusts : yX2_trusts.cls = RX2 ∧ yX2_trusts.cls ≠ "java/lang/invoke/MethodHandle" ∧ yX2_trusts.cls ≠ "java/lang/invoke/VarHandle" ∧ (parseMethodDescriptor yX2_trusts.desc).map (fun d => d.parameters.length) = some 2 := by decide +kernel
abbrev rm_X2_trustedBy : Room := { frames := 3, cells := 0, slots := 0, locals := 83 }
set_option maxHeartbeats 4000000 in
set_option maxRecDepth 100000 in
theorem c_City_trustedBy (l : Launch) (D : va_G) (cI cM cS cJ : ClassId) (aC : Nat → Nat) (aK : Nat → Nat) (sz : Nat) (x1 : Int32) (c_men : Int32) (c_propped : Int32) (c_place : Int32) (c_swings : Int32) (c_crashes : Int32) (c_day : Int32) (c_crashedToday : Int32) (c_lean : Nat → Int32) {o : (Int32)} (hsem : S_City_trustedBy x1 c_men c_lean = some o) : kMet l yX2_trustedBy wsX2_trustedBy rm_X2_trustedBy [.ref (aC 0), .int x1] D (kT cI cM cS cJ) (Wd11 cI aC aK c_men c_propped c_place c_swings c_crashes c_day c_crashedToday c_lean) sz (some (.int o)) (Wd11 cI aC aK c_men c_propped c_place c_swings c_crashes c_day c_crashedToday c_lean) := by
  refine k_metI (by decide) rfl rfl (Nat.le_of_ble_eq_true rfl) ?_
  intro p e s m below meth c ls Q A hx hb hml hts hown hK hN hA hP hD hS hl hsz hnm hret
  have hown : s.vm.findClass RX2 = some m.cls := hown
  have hf34 := hts (.fieldLink RX2 34 "PlumbLine$City" "men" "I") (List.mem_of_getElem? (i := 1) rfl)
  have hiX2 : ∀ w ∈ u_ws RX2 TX2 12, w ∈ wsX2_trustedBy := fun w h => List.mem_cons_of_mem _ (List.mem_append_right _ h)
  replace hl : lv_has ls 4 [(0, .ref (aC 0)), (1, .int x1)] := hl
  have h := hsem
  clear hsem
  rw [S_City_trustedBy] at h
  refine lv_iconst (v := 0) hx hb dX2_trustedBy_0 (by decide) ?_
  refine lv_istore_n (lv' := [(2, .int 0), (0, .ref (aC 0)), (1, .int x1)]) hx hb dX2_trustedBy_1 rfl hl (by decide) rfl (fun ls hl => ?_)
  refine lv_iconst (v := 0) hx hb dX2_trustedBy_2 (by decide) ?_
  have B4 : ∀ (n4 : Nat) (y2 : Int32) (y3 : Int32) (H : Heap) (locs : List Loc) (ls : Array Slot), va_P D vwCl (Wd11 cI aC aK c_men c_propped c_place c_swings c_crashes c_day c_crashedToday c_lean) H → va_D A (Wd11 cI aC aK c_men c_propped c_place c_swings c_crashes c_day c_crashedToday c_lean) → va_S A s.heap H locs → lv_has ls 4 [(0, .ref (aC 0)), (1, .int x1), (2, .int y2), (3, .int y3)] → S_City_trustedBy_L4 x1 c_men c_lean n4 y2 y3 = some o → W p l e rm_X2_trustedBy s m ([.ref (aC 0), .int x1] : List Value).toArray below meth c H locs 0 0 Q (F0 m 4 ls []) := by
    intro n4
    induction n4 with
    | zero => intro y2 y3 H locs ls hP hD hS hl h; exact absurd h (by simp [S_City_trustedBy_L4])
    | succ n4 ih4 =>
      intro y2 y3 H locs ls hP hD hS hl h
      rw [S_City_trustedBy_L4] at h
      refine lv_iload_n hx hb dX2_trustedBy_4 rfl (lv_at hl 3 rfl) ?_
      refine lv_aload_n hx hb dX2_trustedBy_5 rfl (lv_at hl 0 rfl) ?_
      refine va_get (D := D) (ci := 2) (v := .int c_men) (C := RX2) (T := TX2) (N := 12) hx hb hts hiX2 hown hK hP 0 rfl rfl 3 (by decide) hf34 (fun _ z => z) rfl dX2_trustedBy_6 ?_
      refine lv_icmp_ge (tgt := 33) hx hb dX2_trustedBy_9 (by decide) (fun c9 => ?_) (fun c9 => ?_)
      · have h := k_pos c9 h
        refine lv_iload_n hx hb dX2_trustedBy_33 rfl (lv_at hl 2 rfl) ?_
        cases h
        exact hret _ _ _ _ hP hS dX2_trustedBy_34
      · have h := k_neg c9 h
        refine lv_aload_n hx hb dX2_trustedBy_12 rfl (lv_at hl 0 rfl) ?_
        refine lv_iload_n hx hb dX2_trustedBy_13 rfl (lv_at hl 3 rfl) ?_
        refine lv_iload_n hx hb dX2_trustedBy_14 rfl (lv_at hl 1 rfl) ?_
        obtain ⟨r15, g15, h⟩ := k_bind h
        refine k_callV (As := [.int y3, .int x1]) (rest := []) (st1 := [.int r15]) (ws2 := (Wd11 cI aC aK c_men c_propped c_place c_swings c_crashes c_day c_crashedToday c_lean)) hx hb hml hown hts hK hN hA hP hD hS hl (c_City_trusts l D cI cM cS cJ aC aK H.size y3 x1 c_men c_propped c_place c_swings c_crashes c_day c_crashedToday c_lean g15) gX2_trustedBy_X2_trusts rfl kdV_X2_trusts 0 2 rfl rfl rfl [0, 1] ⟨rfl, rfl⟩ ⟨Nat.le_of_ble_eq_true rfl, Nat.le_of_ble_eq_true rfl⟩ ⟨Nat.zero_le _, Nat.zero_le _⟩ rfl rfl (by decide +kernel) (k_rp rfl (by decide +kernel)) rfl rfl (Nat.le_of_ble_eq_true rfl) dX2_trustedBy_15 rfl (fun H locs hP hD hS => ?_)
        refine lv_if_eq (tgt := 27) hx hb dX2_trustedBy_18 (by decide) (fun c18 => ?_) (fun c18 => ?_)
        · have h := k_pos c18 h
          refine lv_iinc (v := (y3 + 1)) (lv' := [(3, .int (y3 + 1)), (0, .ref (aC 0)), (1, .int x1), (2, .int y2)]) hx hb dX2_trustedBy_27 hl (k := 3) rfl (by first | rfl | decide) (by decide) rfl (fun ls hl => ?_)
          refine lv_goto (tgt := 4) hx hb dX2_trustedBy_30 (by decide) ?_
          exact ih4 y2 (y3 + 1) H locs ls hP hD hS (lv_sub hl [1, 2, 3, 0] rfl) h
        · have h := k_neg c18 h
          refine lv_iload_n hx hb dX2_trustedBy_21 rfl (lv_at hl 2 rfl) ?_
          refine lv_iconst (v := 1) hx hb dX2_trustedBy_22 (by decide) ?_
          refine lv_iload_n hx hb dX2_trustedBy_23 rfl (lv_at hl 3 rfl) ?_
          refine lv_ishl hx hb dX2_trustedBy_24 ?_
          refine lv_ior hx hb dX2_trustedBy_25 ?_
          refine lv_istore_n (lv' := [(2, .int (y2 ||| ((1 : Int32) <<< (y3 &&& 31)))), (0, .ref (aC 0)), (1, .int x1), (3, .int y3)]) hx hb dX2_trustedBy_26 rfl hl (by decide) rfl (fun ls hl => ?_)
          refine lv_iinc (v := (y3 + 1)) (lv' := [(3, .int (y3 + 1)), (2, .int (y2 ||| ((1 : Int32) <<< (y3 &&& 31)))), (0, .ref (aC 0)), (1, .int x1)]) hx hb dX2_trustedBy_27 hl (k := 3) rfl (by first | rfl | decide) (by decide) rfl (fun ls hl => ?_)
          refine lv_goto (tgt := 4) hx hb dX2_trustedBy_30 (by decide) ?_
          exact ih4 (y2 ||| ((1 : Int32) <<< (y3 &&& 31))) (y3 + 1) H locs ls hP hD hS (lv_sub hl [2, 3, 1, 0] rfl) h
  refine lv_istore_n (lv' := [(3, .int 0), (2, .int 0), (0, .ref (aC 0)), (1, .int x1)]) hx hb dX2_trustedBy_3 rfl hl (by decide) rfl (fun ls hl => ?_)
  exact B4 lfu 0 0 s.heap [] ls hP hD hS (lv_sub hl [2, 3, 1, 0] rfl) h
theorem kdV_X2_trustedBy : yX2_trustedBy.cls = RX2 ∧ yX2_trustedBy.cls ≠ "java/lang/invoke/MethodHandle" ∧ yX2_trustedBy.cls ≠ "java/lang/invoke/VarHandle" ∧ (parseMethodDescriptor yX2_trustedBy.desc).map (fun d => d.parameters.length) = some 1 := by decide +kernel
abbrev rm_X2_mostTrusted : Room := { frames := 4, cells := 0, slots := 0, locals := 106 }
set_option maxHeartbeats 4000000 in
set_option maxRecDepth 100000 in
theorem c_City_mostTrusted (l : Launch) (D : va_G) (cI cM cS cJ : ClassId) (aC : Nat → Nat) (aK : Nat → Nat) (sz : Nat) (c_men : Int32) (c_propped : Int32) (c_place : Int32) (c_swings : Int32) (c_crashes : Int32) (c_day : Int32) (c_crashedToday : Int32) (c_lean : Nat → Int32) {o : (Int32)} (hsem : S_City_mostTrusted c_men c_lean = some o) : kMet l yX2_mostTrusted wsX2_mostTrusted rm_X2_mostTrusted [.ref (aC 0)] D (kT cI cM cS cJ) (Wd11 cI aC aK c_men c_propped c_place c_swings c_crashes c_day c_crashedToday c_lean) sz (some (.int o)) (Wd11 cI aC aK c_men c_propped c_place c_swings c_crashes c_day c_crashedToday c_lean) := by
  refine k_metI (by decide) rfl rfl (Nat.le_of_ble_eq_true rfl) ?_
  intro p e s m below meth c ls Q A hx hb hml hts hown hK hN hA hP hD hS hl hsz hnm hret
  have hown : s.vm.findClass RX2 = some m.cls := hown
  have hf34 := hts (.fieldLink RX2 34 "PlumbLine$City" "men" "I") (List.mem_of_getElem? (i := 1) rfl)
  have hiX2 : ∀ w ∈ u_ws RX2 TX2 12, w ∈ wsX2_mostTrusted := fun w h => List.mem_cons_of_mem _ (List.mem_append_right _ h)
  replace hl : lv_has ls 5 [(0, .ref (aC 0))] := hl
  have h := hsem
  clear hsem
  rw [S_City_mostTrusted] at h
  refine lv_bipush (v := (-4)) hx hb dX2_mostTrusted_0 (by decide) ?_
  refine lv_istore_n (lv' := [(1, .int (-4)), (0, .ref (aC 0))]) hx hb dX2_mostTrusted_2 rfl hl (by decide) rfl (fun ls hl => ?_)
  refine lv_iconst (v := (-1)) hx hb dX2_mostTrusted_3 (by decide) ?_
  refine lv_istore_n (lv' := [(2, .int (-1)), (1, .int (-4)), (0, .ref (aC 0))]) hx hb dX2_mostTrusted_4 rfl hl (by decide) rfl (fun ls hl => ?_)
  refine lv_iconst (v := 0) hx hb dX2_mostTrusted_5 (by decide) ?_
  have B7 : ∀ (n7 : Nat) (y1 : Int32) (y2 : Int32) (y3 : Int32) (H : Heap) (locs : List Loc) (ls : Array Slot), va_P D vwCl (Wd11 cI aC aK c_men c_propped c_place c_swings c_crashes c_day c_crashedToday c_lean) H → va_D A (Wd11 cI aC aK c_men c_propped c_place c_swings c_crashes c_day c_crashedToday c_lean) → va_S A s.heap H locs → lv_has ls 5 [(0, .ref (aC 0)), (1, .int y1), (2, .int y2), (3, .int y3)] → S_City_mostTrusted_L7 c_men c_lean n7 y1 y2 y3 = some o → W p l e rm_X2_mostTrusted s m ([.ref (aC 0)] : List Value).toArray below meth c H locs 0 0 Q (F0 m 7 ls []) := by
    intro n7
    induction n7 with
    | zero => intro y1 y2 y3 H locs ls hP hD hS hl h; exact absurd h (by simp [S_City_mostTrusted_L7])
    | succ n7 ih7 =>
      intro y1 y2 y3 H locs ls hP hD hS hl h
      rw [S_City_mostTrusted_L7] at h
      refine lv_iload_n hx hb dX2_mostTrusted_7 rfl (lv_at hl 3 rfl) ?_
      refine lv_aload_n hx hb dX2_mostTrusted_8 rfl (lv_at hl 0 rfl) ?_
      refine va_get (D := D) (ci := 2) (v := .int c_men) (C := RX2) (T := TX2) (N := 12) hx hb hts hiX2 hown hK hP 0 rfl rfl 3 (by decide) hf34 (fun _ z => z) rfl dX2_mostTrusted_9 ?_
      refine lv_icmp_ge (tgt := 42) hx hb dX2_mostTrusted_12 (by decide) (fun c12 => ?_) (fun c12 => ?_)
      · have h := k_pos c12 h
        refine lv_iload_n hx hb dX2_mostTrusted_42 rfl (lv_at hl 1 rfl) ?_
        cases h
        exact hret _ _ _ _ hP hS dX2_mostTrusted_43
      · have h := k_neg c12 h
        refine lv_aload_n hx hb dX2_mostTrusted_15 rfl (lv_at hl 0 rfl) ?_
        refine lv_iload_n hx hb dX2_mostTrusted_16 rfl (lv_at hl 3 rfl) ?_
        obtain ⟨r17, g17, h⟩ := k_bind h
        refine k_callV (As := [.int y3]) (rest := []) (st1 := [.int r17]) (ws2 := (Wd11 cI aC aK c_men c_propped c_place c_swings c_crashes c_day c_crashedToday c_lean)) hx hb hml hown hts hK hN hA hP hD hS hl (c_City_trustedBy l D cI cM cS cJ aC aK H.size y3 c_men c_propped c_place c_swings c_crashes c_day c_crashedToday c_lean g17) gX2_mostTrusted_X2_trustedBy rfl kdV_X2_trustedBy 0 2 rfl rfl rfl [0, 1] ⟨rfl, rfl⟩ ⟨Nat.le_of_ble_eq_true rfl, Nat.le_of_ble_eq_true rfl⟩ ⟨Nat.zero_le _, Nat.zero_le _⟩ rfl rfl (by decide +kernel) (k_rp rfl (by decide +kernel)) rfl rfl (Nat.le_of_ble_eq_true rfl) dX2_mostTrusted_17 rfl (fun H locs hP hD hS => ?_)
        refine k_callS (As := [.int r17]) (rest := []) (st1 := [.int (S_J_bitCount r17)]) (ws2 := (Wd11 cI aC aK c_men c_propped c_place c_swings c_crashes c_day c_crashedToday c_lean)) hx hb hml hown hts hK hN hA hP hD hS hl (c_J_bitCount l D cI cM cS cJ H.size r17 rfl) gX2_mostTrusted_J6_bitCount_0f7a4 rfl kdS_J6_bitCount_0f7a4 [] ⟨rfl, rfl⟩ ⟨Nat.le_of_ble_eq_true rfl, Nat.le_of_ble_eq_true rfl⟩ ⟨Nat.zero_le _, Nat.zero_le _⟩ rfl rfl (by decide +kernel) (k_rp rfl (by decide +kernel)) rfl rfl (Nat.le_of_ble_eq_true rfl) dX2_mostTrusted_20 rfl (fun H locs hP hD hS => ?_)
        refine lv_istore (lv' := [(4, .int (S_J_bitCount r17)), (0, .ref (aC 0)), (1, .int y1), (2, .int y2), (3, .int y3)]) hx hb dX2_mostTrusted_23 hl (by decide) rfl (fun ls hl => ?_)
        refine lv_iload hx hb dX2_mostTrusted_25 (lv_at hl 0 rfl) ?_
        refine lv_iload_n hx hb dX2_mostTrusted_27 rfl (lv_at hl 3 rfl) ?_
        refine lv_icmp_le (tgt := 36) hx hb dX2_mostTrusted_28 (by decide) (fun c28 => ?_) (fun c28 => ?_)
        · have h := k_pos c28 h
          refine lv_iinc (v := (y3 + 1)) (lv' := [(3, .int (y3 + 1)), (4, .int (S_J_bitCount r17)), (0, .ref (aC 0)), (1, .int y1), (2, .int y2)]) hx hb dX2_mostTrusted_36 hl (k := 4) rfl (by first | rfl | decide) (by decide) rfl (fun ls hl => ?_)
          refine lv_goto (tgt := 7) hx hb dX2_mostTrusted_39 (by decide) ?_
          exact ih7 y1 y2 (y3 + 1) H locs ls hP hD hS (lv_sub hl [2, 3, 4, 0] rfl) h
        · have h := k_neg c28 h
          refine lv_iload hx hb dX2_mostTrusted_31 (lv_at hl 0 rfl) ?_
          refine lv_istore_n (lv' := [(2, .int (S_J_bitCount r17)), (4, .int (S_J_bitCount r17)), (0, .ref (aC 0)), (1, .int y1), (3, .int y3)]) hx hb dX2_mostTrusted_33 rfl hl (by decide) rfl (fun ls hl => ?_)
          refine lv_iload_n hx hb dX2_mostTrusted_34 rfl (lv_at hl 4 rfl) ?_
          refine lv_istore_n (lv' := [(1, .int y3), (2, .int (S_J_bitCount r17)), (4, .int (S_J_bitCount r17)), (0, .ref (aC 0)), (3, .int y3)]) hx hb dX2_mostTrusted_35 rfl hl (by decide) rfl (fun ls hl => ?_)
          refine lv_iinc (v := (y3 + 1)) (lv' := [(3, .int (y3 + 1)), (1, .int y3), (2, .int (S_J_bitCount r17)), (4, .int (S_J_bitCount r17)), (0, .ref (aC 0))]) hx hb dX2_mostTrusted_36 hl (k := 4) rfl (by first | rfl | decide) (by decide) rfl (fun ls hl => ?_)
          refine lv_goto (tgt := 7) hx hb dX2_mostTrusted_39 (by decide) ?_
          exact ih7 y3 (S_J_bitCount r17) (y3 + 1) H locs ls hP hD hS (lv_sub hl [4, 1, 2, 0] rfl) h
  refine lv_istore_n (lv' := [(3, .int 0), (2, .int (-1)), (1, .int (-4)), (0, .ref (aC 0))]) hx hb dX2_mostTrusted_6 rfl hl (by decide) rfl (fun ls hl => ?_)
  exact B7 lfu (-4) (-1) 0 s.heap [] ls hP hD hS (lv_sub hl [3, 2, 1, 0] rfl) h
abbrev rm_X2_rivals : Room := { frames := 3, cells := 0, slots := 0, locals := 83 }
set_option maxHeartbeats 4000000 in
set_option maxRecDepth 100000 in
theorem c_City_rivals (l : Launch) (D : va_G) (cI cM cS cJ : ClassId) (aC : Nat → Nat) (aK : Nat → Nat) (sz : Nat) (c_men : Int32) (c_propped : Int32) (c_place : Int32) (c_swings : Int32) (c_crashes : Int32) (c_day : Int32) (c_crashedToday : Int32) (c_lean : Nat → Int32) {o : (Int32)} (hsem : S_City_rivals c_men c_lean = some o) : kMet l yX2_rivals wsX2_rivals rm_X2_rivals [.ref (aC 0)] D (kT cI cM cS cJ) (Wd11 cI aC aK c_men c_propped c_place c_swings c_crashes c_day c_crashedToday c_lean) sz (some (.int o)) (Wd11 cI aC aK c_men c_propped c_place c_swings c_crashes c_day c_crashedToday c_lean) := by
  refine k_metI (by decide) rfl rfl (Nat.le_of_ble_eq_true rfl) ?_
  intro p e s m below meth c ls Q A hx hb hml hts hown hK hN hA hP hD hS hl hsz hnm hret
  have hown : s.vm.findClass RX2 = some m.cls := hown
  have hf34 := hts (.fieldLink RX2 34 "PlumbLine$City" "men" "I") (List.mem_of_getElem? (i := 1) rfl)
  have hiX2 : ∀ w ∈ u_ws RX2 TX2 12, w ∈ wsX2_rivals := fun w h => List.mem_cons_of_mem _ (List.mem_append_right _ h)
  replace hl : lv_has ls 4 [(0, .ref (aC 0))] := hl
  have h := hsem
  clear hsem
  rw [S_City_rivals] at h
  refine lv_iconst (v := 0) hx hb dX2_rivals_0 (by decide) ?_
  refine lv_istore_n (lv' := [(1, .int 0), (0, .ref (aC 0))]) hx hb dX2_rivals_1 rfl hl (by decide) rfl (fun ls hl => ?_)
  refine lv_iconst (v := 0) hx hb dX2_rivals_2 (by decide) ?_
  have B4 : ∀ (n4 : Nat) (y1 : Int32) (y2 : Int32) (H : Heap) (locs : List Loc) (ls : Array Slot), va_P D vwCl (Wd11 cI aC aK c_men c_propped c_place c_swings c_crashes c_day c_crashedToday c_lean) H → va_D A (Wd11 cI aC aK c_men c_propped c_place c_swings c_crashes c_day c_crashedToday c_lean) → va_S A s.heap H locs → lv_has ls 4 [(0, .ref (aC 0)), (1, .int y1), (2, .int y2)] → S_City_rivals_L4 c_men c_lean n4 y1 y2 = some o → W p l e rm_X2_rivals s m ([.ref (aC 0)] : List Value).toArray below meth c H locs 0 0 Q (F0 m 4 ls []) := by
    intro n4
    induction n4 with
    | zero => intro y1 y2 H locs ls hP hD hS hl h; exact absurd h (by simp [S_City_rivals_L4])
    | succ n4 ih4 =>
      intro y1 y2 H locs ls hP hD hS hl h
      rw [S_City_rivals_L4] at h
      refine lv_iload_n hx hb dX2_rivals_4 rfl (lv_at hl 2 rfl) ?_
      refine lv_aload_n hx hb dX2_rivals_5 rfl (lv_at hl 0 rfl) ?_
      refine va_get (D := D) (ci := 2) (v := .int c_men) (C := RX2) (T := TX2) (N := 12) hx hb hts hiX2 hown hK hP 0 rfl rfl 3 (by decide) hf34 (fun _ z => z) rfl dX2_rivals_6 ?_
      refine lv_icmp_ge (tgt := 52) hx hb dX2_rivals_9 (by decide) (fun c9 => ?_) (fun c9 => ?_)
      · have h := k_pos c9 h
        refine lv_iload_n hx hb dX2_rivals_52 rfl (lv_at hl 1 rfl) ?_
        cases h
        exact hret _ _ _ _ hP hS dX2_rivals_53
      · have h := k_neg c9 h
        refine lv_iconst (v := 0) hx hb dX2_rivals_12 (by decide) ?_
        have B14 : ∀ (y2 : Int32) (n14 : Nat) (y1 : Int32) (y3 : Int32) (H : Heap) (locs : List Loc) (ls : Array Slot), va_P D vwCl (Wd11 cI aC aK c_men c_propped c_place c_swings c_crashes c_day c_crashedToday c_lean) H → va_D A (Wd11 cI aC aK c_men c_propped c_place c_swings c_crashes c_day c_crashedToday c_lean) → va_S A s.heap H locs → lv_has ls 4 [(0, .ref (aC 0)), (1, .int y1), (2, .int y2), (3, .int y3)] → S_City_rivals_L14 (S_City_rivals_L4 c_men c_lean n4) y2 c_lean n14 y1 y3 = some o → W p l e rm_X2_rivals s m ([.ref (aC 0)] : List Value).toArray below meth c H locs 0 0 Q (F0 m 14 ls []) := by
          intro y2
          intro n14
          induction n14 with
          | zero => intro y1 y3 H locs ls hP hD hS hl h; exact absurd h (by simp [S_City_rivals_L14])
          | succ n14 ih14 =>
            intro y1 y3 H locs ls hP hD hS hl h
            rw [S_City_rivals_L14] at h
            refine lv_iload_n hx hb dX2_rivals_14 rfl (lv_at hl 3 rfl) ?_
            refine lv_iload_n hx hb dX2_rivals_15 rfl (lv_at hl 2 rfl) ?_
            refine lv_icmp_ge (tgt := 46) hx hb dX2_rivals_16 (by decide) (fun c16 => ?_) (fun c16 => ?_)
            · have h := k_pos c16 h
              refine lv_iinc (v := (y2 + 1)) (lv' := [(2, .int (y2 + 1)), (0, .ref (aC 0)), (1, .int y1), (3, .int y3)]) hx hb dX2_rivals_46 hl (k := 2) rfl (by first | rfl | decide) (by decide) rfl (fun ls hl => ?_)
              refine lv_goto (tgt := 4) hx hb dX2_rivals_49 (by decide) ?_
              exact ih4 y1 (y2 + 1) H locs ls hP hD hS (lv_sub hl [1, 2, 0] rfl) h
            · have h := k_neg c16 h
              refine lv_aload_n hx hb dX2_rivals_19 rfl (lv_at hl 0 rfl) ?_
              refine lv_iload_n hx hb dX2_rivals_20 rfl (lv_at hl 2 rfl) ?_
              refine lv_iload_n hx hb dX2_rivals_21 rfl (lv_at hl 3 rfl) ?_
              obtain ⟨r22, g22, h⟩ := k_bind h
              refine k_callV (As := [.int y2, .int y3]) (rest := []) (st1 := [.int r22]) (ws2 := (Wd11 cI aC aK c_men c_propped c_place c_swings c_crashes c_day c_crashedToday c_lean)) hx hb hml hown hts hK hN hA hP hD hS hl (c_City_trusts l D cI cM cS cJ aC aK H.size y2 y3 c_men c_propped c_place c_swings c_crashes c_day c_crashedToday c_lean g22) gX2_rivals_X2_trusts rfl kdV_X2_trusts 0 2 rfl rfl rfl [0, 1] ⟨rfl, rfl⟩ ⟨Nat.le_of_ble_eq_true rfl, Nat.le_of_ble_eq_true rfl⟩ ⟨Nat.zero_le _, Nat.zero_le _⟩ rfl rfl (by decide +kernel) (k_rp rfl (by decide +kernel)) rfl rfl (Nat.le_of_ble_eq_true rfl) dX2_rivals_22 rfl (fun H locs hP hD hS => ?_)
              refine lv_if_ne (tgt := 40) hx hb dX2_rivals_25 (by decide) (fun c25 => ?_) (fun c25 => ?_)
              · have h := k_neg c25 h
                refine lv_iinc (v := (y3 + 1)) (lv' := [(3, .int (y3 + 1)), (0, .ref (aC 0)), (1, .int y1), (2, .int y2)]) hx hb dX2_rivals_40 hl (k := 3) rfl (by first | rfl | decide) (by decide) rfl (fun ls hl => ?_)
                refine lv_goto (tgt := 14) hx hb dX2_rivals_43 (by decide) ?_
                exact ih14 y1 (y3 + 1) H locs ls hP hD hS (lv_sub hl [1, 2, 3, 0] rfl) h
              · have h := k_pos c25 h
                refine lv_aload_n hx hb dX2_rivals_28 rfl (lv_at hl 0 rfl) ?_
                refine lv_iload_n hx hb dX2_rivals_29 rfl (lv_at hl 3 rfl) ?_
                refine lv_iload_n hx hb dX2_rivals_30 rfl (lv_at hl 2 rfl) ?_
                obtain ⟨r31, g31, h⟩ := k_bind h
                refine k_callV (As := [.int y3, .int y2]) (rest := []) (st1 := [.int r31]) (ws2 := (Wd11 cI aC aK c_men c_propped c_place c_swings c_crashes c_day c_crashedToday c_lean)) hx hb hml hown hts hK hN hA hP hD hS hl (c_City_trusts l D cI cM cS cJ aC aK H.size y3 y2 c_men c_propped c_place c_swings c_crashes c_day c_crashedToday c_lean g31) gX2_rivals_X2_trusts rfl kdV_X2_trusts 0 2 rfl rfl rfl [0, 1] ⟨rfl, rfl⟩ ⟨Nat.le_of_ble_eq_true rfl, Nat.le_of_ble_eq_true rfl⟩ ⟨Nat.zero_le _, Nat.zero_le _⟩ rfl rfl (by decide +kernel) (k_rp rfl (by decide +kernel)) rfl rfl (Nat.le_of_ble_eq_true rfl) dX2_rivals_31 rfl (fun H locs hP hD hS => ?_)
                refine lv_if_ne (tgt := 40) hx hb dX2_rivals_34 (by decide) (fun c34 => ?_) (fun c34 => ?_)
                · have h := k_neg c34 h
                  refine lv_iinc (v := (y3 + 1)) (lv' := [(3, .int (y3 + 1)), (0, .ref (aC 0)), (1, .int y1), (2, .int y2)]) hx hb dX2_rivals_40 hl (k := 3) rfl (by first | rfl | decide) (by decide) rfl (fun ls hl => ?_)
                  refine lv_goto (tgt := 14) hx hb dX2_rivals_43 (by decide) ?_
                  exact ih14 y1 (y3 + 1) H locs ls hP hD hS (lv_sub hl [1, 2, 3, 0] rfl) h
                · have h := k_pos c34 h
                  refine lv_iinc (v := (y1 + 1)) (lv' := [(1, .int (y1 + 1)), (0, .ref (aC 0)), (2, .int y2), (3, .int y3)]) hx hb dX2_rivals_37 hl (k := 1) rfl (by first | rfl | decide) (by decide) rfl (fun ls hl => ?_)
                  refine lv_iinc (v := (y3 + 1)) (lv' := [(3, .int (y3 + 1)), (1, .int (y1 + 1)), (0, .ref (aC 0)), (2, .int y2)]) hx hb dX2_rivals_40 hl (k := 3) rfl (by first | rfl | decide) (by decide) rfl (fun ls hl => ?_)
                  refine lv_goto (tgt := 14) hx hb dX2_rivals_43 (by decide) ?_
                  exact ih14 (y1 + 1) (y3 + 1) H locs ls hP hD hS (lv_sub hl [2, 1, 3, 0] rfl) h
        refine lv_istore_n (lv' := [(3, .int 0), (0, .ref (aC 0)), (1, .int y1), (2, .int y2)]) hx hb dX2_rivals_13 rfl hl (by decide) rfl (fun ls hl => ?_)
        exact B14 y2 lfu y1 0 H locs ls hP hD hS (lv_sub hl [1, 2, 3, 0] rfl) h
  refine lv_istore_n (lv' := [(2, .int 0), (1, .int 0), (0, .ref (aC 0))]) hx hb dX2_rivals_3 rfl hl (by decide) rfl (fun ls hl => ?_)
  exact B4 lfu 0 0 s.heap [] ls hP hD hS (lv_sub hl [2, 1, 0] rfl) h
abbrev rm_X2_tellers : Room := { frames := 4, cells := 0, slots := 0, locals := 106 }
set_option maxHeartbeats 4000000 in
set_option maxRecDepth 100000 in
theorem c_City_tellers (l : Launch) (D : va_G) (cI cM cS cJ : ClassId) (aC : Nat → Nat) (aK : Nat → Nat) (sz : Nat) (x1 : Int32) (c_men : Int32) (c_propped : Int32) (c_place : Int32) (c_swings : Int32) (c_crashes : Int32) (c_day : Int32) (c_crashedToday : Int32) (c_lean : Nat → Int32) {o : (Int32)} (hsem : S_City_tellers x1 c_men c_lean = some o) : kMet l yX2_tellers wsX2_tellers rm_X2_tellers [.ref (aC 0), .int x1] D (kT cI cM cS cJ) (Wd11 cI aC aK c_men c_propped c_place c_swings c_crashes c_day c_crashedToday c_lean) sz (some (.int o)) (Wd11 cI aC aK c_men c_propped c_place c_swings c_crashes c_day c_crashedToday c_lean) := by
  refine k_metI (by decide) rfl rfl (Nat.le_of_ble_eq_true rfl) ?_
  intro p e s m below meth c ls Q A hx hb hml hts hown hK hN hA hP hD hS hl hsz hnm hret
  have hown : s.vm.findClass RX2 = some m.cls := hown
  have hf34 := hts (.fieldLink RX2 34 "PlumbLine$City" "men" "I") (List.mem_of_getElem? (i := 1) rfl)
  have hiX2 : ∀ w ∈ u_ws RX2 TX2 12, w ∈ wsX2_tellers := fun w h => List.mem_cons_of_mem _ (List.mem_append_right _ h)
  replace hl : lv_has ls 6 [(0, .ref (aC 0)), (1, .int x1)] := hl
  have h := hsem
  clear hsem
  rw [S_City_tellers] at h
  refine lv_aload_n hx hb dX2_tellers_0 rfl (lv_at hl 0 rfl) ?_
  refine lv_iload_n hx hb dX2_tellers_1 rfl (lv_at hl 1 rfl) ?_
  obtain ⟨r2, g2, h⟩ := k_bind h
  refine k_callV (As := [.int x1]) (rest := []) (st1 := [.int r2]) (ws2 := (Wd11 cI aC aK c_men c_propped c_place c_swings c_crashes c_day c_crashedToday c_lean)) hx hb hml hown hts hK hN hA hP hD hS hl (c_City_trustedBy l D cI cM cS cJ aC aK s.heap.size x1 c_men c_propped c_place c_swings c_crashes c_day c_crashedToday c_lean g2) gX2_tellers_X2_trustedBy rfl kdV_X2_trustedBy 0 2 rfl rfl rfl [0, 1] ⟨rfl, rfl⟩ ⟨Nat.le_of_ble_eq_true rfl, Nat.le_of_ble_eq_true rfl⟩ ⟨Nat.zero_le _, Nat.zero_le _⟩ rfl rfl (by decide +kernel) (k_rp rfl (by decide +kernel)) rfl rfl (Nat.le_of_ble_eq_true rfl) dX2_tellers_2 rfl (fun H locs hP hD hS => ?_)
  refine lv_istore_n (lv' := [(2, .int r2), (0, .ref (aC 0)), (1, .int x1)]) hx hb dX2_tellers_5 rfl hl (by decide) rfl (fun ls hl => ?_)
  refine lv_iconst (v := 0) hx hb dX2_tellers_6 (by decide) ?_
  have B8 : ∀ (n8 : Nat) (y2 : Int32) (y3 : Int32) (H : Heap) (locs : List Loc) (ls : Array Slot), va_P D vwCl (Wd11 cI aC aK c_men c_propped c_place c_swings c_crashes c_day c_crashedToday c_lean) H → va_D A (Wd11 cI aC aK c_men c_propped c_place c_swings c_crashes c_day c_crashedToday c_lean) → va_S A s.heap H locs → lv_has ls 6 [(0, .ref (aC 0)), (2, .int y2), (3, .int y3)] → S_City_tellers_L8 c_men c_lean n8 y2 y3 = some o → W p l e rm_X2_tellers s m ([.ref (aC 0), .int x1] : List Value).toArray below meth c H locs 0 0 Q (F0 m 8 ls []) := by
    intro n8
    induction n8 with
    | zero => intro y2 y3 H locs ls hP hD hS hl h; exact absurd h (by simp [S_City_tellers_L8])
    | succ n8 ih8 =>
      intro y2 y3 H locs ls hP hD hS hl h
      rw [S_City_tellers_L8] at h
      refine lv_iload_n hx hb dX2_tellers_8 rfl (lv_at hl 2 rfl) ?_
      refine lv_aload_n hx hb dX2_tellers_9 rfl (lv_at hl 0 rfl) ?_
      refine va_get (D := D) (ci := 2) (v := .int c_men) (C := RX2) (T := TX2) (N := 12) hx hb hts hiX2 hown hK hP 0 rfl rfl 3 (by decide) hf34 (fun _ z => z) rfl dX2_tellers_10 ?_
      refine lv_icmp_ge (tgt := 66) hx hb dX2_tellers_13 (by decide) (fun c13 => ?_) (fun c13 => ?_)
      · have h := k_pos c13 h
        refine lv_iload_n hx hb dX2_tellers_66 rfl (lv_at hl 1 rfl) ?_
        cases h
        exact hret _ _ _ _ hP hS dX2_tellers_67
      · have h := k_neg c13 h
        refine lv_iload_n hx hb dX2_tellers_16 rfl (lv_at hl 1 rfl) ?_
        refine lv_istore (lv' := [(4, .int y2), (0, .ref (aC 0)), (2, .int y2), (3, .int y3)]) hx hb dX2_tellers_17 hl (by decide) rfl (fun ls hl => ?_)
        refine lv_iconst (v := 0) hx hb dX2_tellers_19 (by decide) ?_
        have B22 : ∀ (y2 : Int32) (y3 : Int32) (n22 : Nat) (y4 : Int32) (y5 : Int32) (H : Heap) (locs : List Loc) (ls : Array Slot), va_P D vwCl (Wd11 cI aC aK c_men c_propped c_place c_swings c_crashes c_day c_crashedToday c_lean) H → va_D A (Wd11 cI aC aK c_men c_propped c_place c_swings c_crashes c_day c_crashedToday c_lean) → va_S A s.heap H locs → lv_has ls 6 [(0, .ref (aC 0)), (2, .int y2), (3, .int y3), (4, .int y4), (5, .int y5)] → S_City_tellers_L22 (S_City_tellers_L8 c_men c_lean n8) y2 y3 c_men c_lean n22 y4 y5 = some o → W p l e rm_X2_tellers s m ([.ref (aC 0), .int x1] : List Value).toArray below meth c H locs 0 0 Q (F0 m 22 ls []) := by
          intro y2 y3
          intro n22
          induction n22 with
          | zero => intro y4 y5 H locs ls hP hD hS hl h; exact absurd h (by simp [S_City_tellers_L22])
          | succ n22 ih22 =>
            intro y4 y5 H locs ls hP hD hS hl h
            rw [S_City_tellers_L22] at h
            refine lv_iload hx hb dX2_tellers_22 (lv_at hl 4 rfl) ?_
            refine lv_aload_n hx hb dX2_tellers_24 rfl (lv_at hl 0 rfl) ?_
            refine va_get (D := D) (ci := 2) (v := .int c_men) (C := RX2) (T := TX2) (N := 12) hx hb hts hiX2 hown hK hP 0 rfl rfl 3 (by decide) hf34 (fun _ z => z) rfl dX2_tellers_25 ?_
            refine lv_icmp_ge (tgt := 57) hx hb dX2_tellers_28 (by decide) (fun c28 => ?_) (fun c28 => ?_)
            · have h := k_pos c28 h
              refine lv_iload hx hb dX2_tellers_57 (lv_at hl 3 rfl) ?_
              refine lv_istore_n (lv' := [(2, .int y4), (0, .ref (aC 0)), (3, .int y3), (4, .int y4), (5, .int y5)]) hx hb dX2_tellers_59 rfl hl (by decide) rfl (fun ls hl => ?_)
              refine lv_iinc (v := (y3 + 1)) (lv' := [(3, .int (y3 + 1)), (2, .int y4), (0, .ref (aC 0)), (4, .int y4), (5, .int y5)]) hx hb dX2_tellers_60 hl (k := 2) rfl (by first | rfl | decide) (by decide) rfl (fun ls hl => ?_)
              refine lv_goto (tgt := 8) hx hb dX2_tellers_63 (by decide) ?_
              exact ih8 y4 (y3 + 1) H locs ls hP hD hS (lv_sub hl [2, 1, 0] rfl) h
            · have h := k_neg c28 h
              refine lv_iload_n hx hb dX2_tellers_31 rfl (lv_at hl 1 rfl) ?_
              refine lv_iconst (v := 1) hx hb dX2_tellers_32 (by decide) ?_
              refine lv_iload hx hb dX2_tellers_33 (lv_at hl 4 rfl) ?_
              refine lv_ishl hx hb dX2_tellers_35 ?_
              refine lv_iand hx hb dX2_tellers_36 ?_
              refine lv_if_eq (tgt := 51) hx hb dX2_tellers_37 (by decide) (fun c37 => ?_) (fun c37 => ?_)
              · have h := k_pos c37 h
                refine lv_iinc (v := (y5 + 1)) (lv' := [(5, .int (y5 + 1)), (0, .ref (aC 0)), (2, .int y2), (3, .int y3), (4, .int y4)]) hx hb dX2_tellers_51 hl (k := 4) rfl (by first | rfl | decide) (by decide) rfl (fun ls hl => ?_)
                refine lv_goto (tgt := 22) hx hb dX2_tellers_54 (by decide) ?_
                exact ih22 y4 (y5 + 1) H locs ls hP hD hS (lv_sub hl [1, 2, 3, 4, 0] rfl) h
              · have h := k_neg c37 h
                refine lv_iload hx hb dX2_tellers_40 (lv_at hl 3 rfl) ?_
                refine lv_aload_n hx hb dX2_tellers_42 rfl (lv_at hl 0 rfl) ?_
                refine lv_iload hx hb dX2_tellers_43 (lv_at hl 4 rfl) ?_
                obtain ⟨r45, g45, h⟩ := k_bind h
                refine k_callV (As := [.int y5]) (rest := [.int y4]) (st1 := [.int r45, .int y4]) (ws2 := (Wd11 cI aC aK c_men c_propped c_place c_swings c_crashes c_day c_crashedToday c_lean)) hx hb hml hown hts hK hN hA hP hD hS hl (c_City_trustedBy l D cI cM cS cJ aC aK H.size y5 c_men c_propped c_place c_swings c_crashes c_day c_crashedToday c_lean g45) gX2_tellers_X2_trustedBy rfl kdV_X2_trustedBy 0 2 rfl rfl rfl [0, 1] ⟨rfl, rfl⟩ ⟨Nat.le_of_ble_eq_true rfl, Nat.le_of_ble_eq_true rfl⟩ ⟨Nat.zero_le _, Nat.zero_le _⟩ rfl rfl (by decide +kernel) (k_rp rfl (by decide +kernel)) rfl rfl (Nat.le_of_ble_eq_true rfl) dX2_tellers_45 rfl (fun H locs hP hD hS => ?_)
                refine lv_ior hx hb dX2_tellers_48 ?_
                refine lv_istore (lv' := [(4, .int (y4 ||| r45)), (0, .ref (aC 0)), (2, .int y2), (3, .int y3), (5, .int y5)]) hx hb dX2_tellers_49 hl (by decide) rfl (fun ls hl => ?_)
                refine lv_iinc (v := (y5 + 1)) (lv' := [(5, .int (y5 + 1)), (4, .int (y4 ||| r45)), (0, .ref (aC 0)), (2, .int y2), (3, .int y3)]) hx hb dX2_tellers_51 hl (k := 4) rfl (by first | rfl | decide) (by decide) rfl (fun ls hl => ?_)
                refine lv_goto (tgt := 22) hx hb dX2_tellers_54 (by decide) ?_
                exact ih22 (y4 ||| r45) (y5 + 1) H locs ls hP hD hS (lv_sub hl [2, 3, 4, 1, 0] rfl) h
        refine lv_istore (lv' := [(5, .int 0), (4, .int y2), (0, .ref (aC 0)), (2, .int y2), (3, .int y3)]) hx hb dX2_tellers_20 hl (by decide) rfl (fun ls hl => ?_)
        exact B22 y2 y3 lfu y2 0 H locs ls hP hD hS (lv_sub hl [2, 3, 4, 1, 0] rfl) h
  refine lv_istore_n (lv' := [(3, .int 0), (2, .int r2), (0, .ref (aC 0)), (1, .int x1)]) hx hb dX2_tellers_7 rfl hl (by decide) rfl (fun ls hl => ?_)
  exact B8 lfu r2 0 H locs ls hP hD hS (lv_sub hl [2, 1, 0] rfl) h
