abbrev rm_X2_uprightFrom : Room := { frames := 3, cells := 0, slots := 0, locals := 64 }
set_option maxHeartbeats 4000000 in
set_option maxRecDepth 100000 in
theorem c_City_uprightFrom (l : Launch) (D : va_G) (cI cM cS cJ : ClassId) (aC : Nat → Nat) (aK : Nat → Nat) (sz : Nat) (x1 : Int32) (c_men : Int32) (c_propped : Int32) (c_place : Int32) (c_swings : Int32) (c_crashes : Int32) (c_day : Int32) (c_crashedToday : Int32) (c_kind : Nat → Int32) (c_figure : Nat → Int32) (c_lean : Nat → Int32) {o : (Int32)} (hsem : S_City_uprightFrom x1 c_men c_kind c_figure c_lean = some o) : kMet l yX2_uprightFrom wsX2_uprightFrom rm_X2_uprightFrom [.ref (aC 0), .int x1] D (kT cI cM cS cJ) (Wd12 cI cM aC aK c_men c_propped c_place c_swings c_crashes c_day c_crashedToday c_kind c_figure c_lean) sz (some (.int o)) (Wd12 cI cM aC aK c_men c_propped c_place c_swings c_crashes c_day c_crashedToday c_kind c_figure c_lean) := by
  refine k_metI (by decide) rfl rfl (Nat.le_of_ble_eq_true rfl) ?_
  intro p e s m below meth c ls Q A hx hb hml hts hown hK hN hA hP hD hS hl hsz hnm hret
  have hown : s.vm.findClass RX2 = some m.cls := hown
  have hf34 := hts (.fieldLink RX2 34 "PlumbLine$City" "men" "I") (List.mem_of_getElem? (i := 1) rfl)
  have hf18 := hts (.fieldLink RX2 18 "PlumbLine$City" "lean" "[I") (List.mem_of_getElem? (i := 2) rfl)
  have hiX2 : ∀ w ∈ u_ws RX2 TX2 12, w ∈ wsX2_uprightFrom := fun w h => List.mem_cons_of_mem _ (List.mem_append_right _ h)
  replace hl : lv_has ls 4 [(0, .ref (aC 0)), (1, .int x1)] := hl
  have h := hsem
  clear hsem
  rw [S_City_uprightFrom] at h
  refine lv_iconst (v := 0) hx hb dX2_uprightFrom_0 (by decide) ?_
  refine lv_istore_n (lv' := [(2, .int 0), (0, .ref (aC 0)), (1, .int x1)]) hx hb dX2_uprightFrom_1 rfl hl (by decide) rfl (fun ls hl => ?_)
  refine lv_iconst (v := 0) hx hb dX2_uprightFrom_2 (by decide) ?_
  have B4 : ∀ (n4 : Nat) (y2 : Int32) (y3 : Int32) (H : Heap) (locs : List Loc) (ls : Array Slot), va_P D vwCl (Wd12 cI cM aC aK c_men c_propped c_place c_swings c_crashes c_day c_crashedToday c_kind c_figure c_lean) H → va_D A (Wd12 cI cM aC aK c_men c_propped c_place c_swings c_crashes c_day c_crashedToday c_kind c_figure c_lean) → va_S A s.heap H locs → lv_has ls 4 [(0, .ref (aC 0)), (1, .int x1), (2, .int y2), (3, .int y3)] → S_City_uprightFrom_L4 x1 c_men c_kind c_figure c_lean n4 y2 y3 = some o → W p l e rm_X2_uprightFrom s m ([.ref (aC 0), .int x1] : List Value).toArray below meth c H locs 0 0 Q (F0 m 4 ls []) := by
    intro n4
    induction n4 with
    | zero => intro y2 y3 H locs ls hP hD hS hl h; exact absurd h (by simp [S_City_uprightFrom_L4])
    | succ n4 ih4 =>
      intro y2 y3 H locs ls hP hD hS hl h
      rw [S_City_uprightFrom_L4] at h
      refine lv_iload_n hx hb dX2_uprightFrom_4 rfl (lv_at hl 3 rfl) ?_
      refine lv_aload_n hx hb dX2_uprightFrom_5 rfl (lv_at hl 0 rfl) ?_
      refine va_get (D := D) (ci := 2) (v := .int c_men) (C := RX2) (T := TX2) (N := 12) hx hb hts hiX2 hown hK hP 0 rfl rfl 3 (by decide) hf34 (fun _ z => z) rfl dX2_uprightFrom_6 ?_
      refine lv_icmp_ge (tgt := 50) hx hb dX2_uprightFrom_9 (by decide) (fun c9 => ?_) (fun c9 => ?_)
      · have h := k_pos c9 h
        refine lv_iload_n hx hb dX2_uprightFrom_50 rfl (lv_at hl 2 rfl) ?_
        cases h
        exact hret _ _ _ _ hP hS dX2_uprightFrom_51
      · have h := k_neg c9 h
        refine lv_iload_n hx hb dX2_uprightFrom_12 rfl (lv_at hl 3 rfl) ?_
        refine lv_iload_n hx hb dX2_uprightFrom_13 rfl (lv_at hl 1 rfl) ?_
        refine lv_icmp_eq (tgt := 44) hx hb dX2_uprightFrom_14 (by decide) (fun c14 => ?_) (fun c14 => ?_)
        · have h := k_pos c14 h
          refine lv_iinc (v := (y3 + 1)) (lv' := [(3, .int (y3 + 1)), (0, .ref (aC 0)), (1, .int x1), (2, .int y2)]) hx hb dX2_uprightFrom_44 hl (k := 3) rfl (by first | rfl | decide) (by decide) rfl (fun ls hl => ?_)
          refine lv_goto (tgt := 4) hx hb dX2_uprightFrom_47 (by decide) ?_
          exact ih4 y2 (y3 + 1) H locs ls hP hD hS (lv_sub hl [1, 2, 3, 0] rfl) h
        · have h := k_neg c14 h
          refine lv_aload_n hx hb dX2_uprightFrom_17 rfl (lv_at hl 0 rfl) ?_
          refine lv_iload_n hx hb dX2_uprightFrom_18 rfl (lv_at hl 3 rfl) ?_
          refine lv_aload_n hx hb dX2_uprightFrom_19 rfl (lv_at hl 0 rfl) ?_
          refine va_get (D := D) (ci := 2) (v := .ref (aC 3)) (C := RX2) (T := TX2) (N := 12) hx hb hts hiX2 hown hK hP 0 rfl rfl 2 (by decide) hf18 (fun _ z => z) rfl dX2_uprightFrom_20 ?_
          refine lv_iload_n hx hb dX2_uprightFrom_23 rfl (lv_at hl 3 rfl) ?_
          obtain ⟨g24, h⟩ := k_guard h
          refine va_iald hx hb hK hP 3 0 rfl rfl g24 dX2_uprightFrom_24 ?_
          refine lv_aload_n hx hb dX2_uprightFrom_25 rfl (lv_at hl 0 rfl) ?_
          refine va_get (D := D) (ci := 2) (v := .ref (aC 3)) (C := RX2) (T := TX2) (N := 12) hx hb hts hiX2 hown hK hP 0 rfl rfl 2 (by decide) hf18 (fun _ z => z) rfl dX2_uprightFrom_26 ?_
          refine lv_iload_n hx hb dX2_uprightFrom_29 rfl (lv_at hl 1 rfl) ?_
          obtain ⟨g30, h⟩ := k_guard h
          refine va_iald hx hb hK hP 3 0 rfl rfl g30 dX2_uprightFrom_30 ?_
          refine lv_isub hx hb dX2_uprightFrom_31 ?_
          refine k_mabs (own := RX2) (index := 149) hx hb (hml.trans hl.1.symm) hown (hts _ (List.mem_of_getElem? (i := 3) rfl)) (hts _ (List.mem_of_getElem? (i := 4) rfl)) (hts _ (List.mem_of_getElem? (i := 5) rfl)) (hts _ (List.mem_of_getElem? (i := 6) rfl)) (Nat.le_of_ble_eq_true rfl) (Nat.le_of_ble_eq_true rfl) (Nat.zero_le _) (Nat.zero_le _) dX2_uprightFrom_32 ?_
          obtain ⟨r35, g35, h⟩ := k_bind h
          refine k_callV (As := [.int y3, .int (jabs ((c_lean y3.toNatClampNeg) - (c_lean x1.toNatClampNeg)))]) (rest := []) (st1 := [.int r35]) (ws2 := (Wd12 cI cM aC aK c_men c_propped c_place c_swings c_crashes c_day c_crashedToday c_kind c_figure c_lean)) hx hb hml hown hts hK hN hA hP hD hS hl (c_City_isUprightAt l D cI cM cS cJ aC aK H.size y3 (jabs ((c_lean y3.toNatClampNeg) - (c_lean x1.toNatClampNeg))) c_men c_propped c_place c_swings c_crashes c_day c_crashedToday c_kind c_figure g35) gX2_uprightFrom_X2_isUprightAt rfl kdV_X2_isUprightAt 0 2 rfl rfl rfl [0, 1, 2, 4, 5, 6, 7, 8, 9, 10, 11, 12] ⟨rfl, rfl⟩ ⟨Nat.le_of_ble_eq_true rfl, Nat.le_of_ble_eq_true rfl⟩ ⟨Nat.zero_le _, Nat.zero_le _⟩ rfl rfl (by decide +kernel) (k_rp rfl (by decide +kernel)) rfl rfl (Nat.le_of_ble_eq_true rfl) dX2_uprightFrom_35 rfl (fun H locs hP hD hS => ?_)
          refine lv_if_eq (tgt := 44) hx hb dX2_uprightFrom_38 (by decide) (fun c38 => ?_) (fun c38 => ?_)
          · have h := k_pos c38 h
            refine lv_iinc (v := (y3 + 1)) (lv' := [(3, .int (y3 + 1)), (0, .ref (aC 0)), (1, .int x1), (2, .int y2)]) hx hb dX2_uprightFrom_44 hl (k := 3) rfl (by first | rfl | decide) (by decide) rfl (fun ls hl => ?_)
            refine lv_goto (tgt := 4) hx hb dX2_uprightFrom_47 (by decide) ?_
            exact ih4 y2 (y3 + 1) H locs ls hP hD hS (lv_sub hl [1, 2, 3, 0] rfl) h
          · have h := k_neg c38 h
            refine lv_iinc (v := (y2 + 1)) (lv' := [(2, .int (y2 + 1)), (0, .ref (aC 0)), (1, .int x1), (3, .int y3)]) hx hb dX2_uprightFrom_41 hl (k := 2) rfl (by first | rfl | decide) (by decide) rfl (fun ls hl => ?_)
            refine lv_iinc (v := (y3 + 1)) (lv' := [(3, .int (y3 + 1)), (2, .int (y2 + 1)), (0, .ref (aC 0)), (1, .int x1)]) hx hb dX2_uprightFrom_44 hl (k := 3) rfl (by first | rfl | decide) (by decide) rfl (fun ls hl => ?_)
            refine lv_goto (tgt := 4) hx hb dX2_uprightFrom_47 (by decide) ?_
            exact ih4 (y2 + 1) (y3 + 1) H locs ls hP hD hS (lv_sub hl [2, 3, 1, 0] rfl) h
  refine lv_istore_n (lv' := [(3, .int 0), (2, .int 0), (0, .ref (aC 0)), (1, .int x1)]) hx hb dX2_uprightFrom_3 rfl hl (by decide) rfl (fun ls hl => ?_)
  exact B4 lfu 0 0 s.heap [] ls hP hD hS (lv_sub hl [2, 3, 1, 0] rfl) h
theorem kdV_X2_uprightFrom : yX2_uprightFrom.cls = RX2 ∧ yX2_uprightFrom.cls ≠ "java/lang/invoke/MethodHandle" ∧ yX2_uprightFrom.cls ≠ "java/lang/invoke/VarHandle" ∧ (parseMethodDescriptor yX2_uprightFrom.desc).map (fun d => d.parameters.length) = some 1 := by decide +kernel
abbrev rm_X2_rightOne : Room := { frames := 4, cells := 0, slots := 0, locals := 87 }
set_option maxHeartbeats 4000000 in
set_option maxRecDepth 100000 in
theorem c_City_rightOne (l : Launch) (D : va_G) (cI cM cS cJ : ClassId) (aC : Nat → Nat) (aK : Nat → Nat) (sz : Nat) (c_men : Int32) (c_propped : Int32) (c_place : Int32) (c_swings : Int32) (c_crashes : Int32) (c_day : Int32) (c_crashedToday : Int32) (c_kind : Nat → Int32) (c_figure : Nat → Int32) (c_lean : Nat → Int32) {o : (Int32)} (hsem : S_City_rightOne c_men c_kind c_figure c_lean = some o) : kMet l yX2_rightOne wsX2_rightOne rm_X2_rightOne [.ref (aC 0)] D (kT cI cM cS cJ) (Wd12 cI cM aC aK c_men c_propped c_place c_swings c_crashes c_day c_crashedToday c_kind c_figure c_lean) sz (some (.int o)) (Wd12 cI cM aC aK c_men c_propped c_place c_swings c_crashes c_day c_crashedToday c_kind c_figure c_lean) := by
  refine k_metI (by decide) rfl rfl (Nat.le_of_ble_eq_true rfl) ?_
  intro p e s m below meth c ls Q A hx hb hml hts hown hK hN hA hP hD hS hl hsz hnm hret
  have hown : s.vm.findClass RX2 = some m.cls := hown
  have hf34 := hts (.fieldLink RX2 34 "PlumbLine$City" "men" "I") (List.mem_of_getElem? (i := 1) rfl)
  have hiX2 : ∀ w ∈ u_ws RX2 TX2 12, w ∈ wsX2_rightOne := fun w h => List.mem_cons_of_mem _ (List.mem_append_right _ h)
  replace hl : lv_has ls 5 [(0, .ref (aC 0))] := hl
  have h := hsem
  clear hsem
  rw [S_City_rightOne] at h
  refine lv_bipush (v := (-4)) hx hb dX2_rightOne_0 (by decide) ?_
  refine lv_istore_n (lv' := [(1, .int (-4)), (0, .ref (aC 0))]) hx hb dX2_rightOne_2 rfl hl (by decide) rfl (fun ls hl => ?_)
  refine lv_iconst (v := (-1)) hx hb dX2_rightOne_3 (by decide) ?_
  refine lv_istore_n (lv' := [(2, .int (-1)), (1, .int (-4)), (0, .ref (aC 0))]) hx hb dX2_rightOne_4 rfl hl (by decide) rfl (fun ls hl => ?_)
  refine lv_iconst (v := 0) hx hb dX2_rightOne_5 (by decide) ?_
  have B7 : ∀ (n7 : Nat) (y1 : Int32) (y2 : Int32) (y3 : Int32) (H : Heap) (locs : List Loc) (ls : Array Slot), va_P D vwCl (Wd12 cI cM aC aK c_men c_propped c_place c_swings c_crashes c_day c_crashedToday c_kind c_figure c_lean) H → va_D A (Wd12 cI cM aC aK c_men c_propped c_place c_swings c_crashes c_day c_crashedToday c_kind c_figure c_lean) → va_S A s.heap H locs → lv_has ls 5 [(0, .ref (aC 0)), (1, .int y1), (2, .int y2), (3, .int y3)] → S_City_rightOne_L7 c_men c_kind c_figure c_lean n7 y1 y2 y3 = some o → W p l e rm_X2_rightOne s m ([.ref (aC 0)] : List Value).toArray below meth c H locs 0 0 Q (F0 m 7 ls []) := by
    intro n7
    induction n7 with
    | zero => intro y1 y2 y3 H locs ls hP hD hS hl h; exact absurd h (by simp [S_City_rightOne_L7])
    | succ n7 ih7 =>
      intro y1 y2 y3 H locs ls hP hD hS hl h
      rw [S_City_rightOne_L7] at h
      refine lv_iload_n hx hb dX2_rightOne_7 rfl (lv_at hl 3 rfl) ?_
      refine lv_aload_n hx hb dX2_rightOne_8 rfl (lv_at hl 0 rfl) ?_
      refine va_get (D := D) (ci := 2) (v := .int c_men) (C := RX2) (T := TX2) (N := 12) hx hb hts hiX2 hown hK hP 0 rfl rfl 3 (by decide) hf34 (fun _ z => z) rfl dX2_rightOne_9 ?_
      refine lv_icmp_ge (tgt := 39) hx hb dX2_rightOne_12 (by decide) (fun c12 => ?_) (fun c12 => ?_)
      · have h := k_pos c12 h
        refine lv_iload_n hx hb dX2_rightOne_39 rfl (lv_at hl 1 rfl) ?_
        cases h
        exact hret _ _ _ _ hP hS dX2_rightOne_40
      · have h := k_neg c12 h
        refine lv_aload_n hx hb dX2_rightOne_15 rfl (lv_at hl 0 rfl) ?_
        refine lv_iload_n hx hb dX2_rightOne_16 rfl (lv_at hl 3 rfl) ?_
        obtain ⟨r17, g17, h⟩ := k_bind h
        refine k_callV (As := [.int y3]) (rest := []) (st1 := [.int r17]) (ws2 := (Wd12 cI cM aC aK c_men c_propped c_place c_swings c_crashes c_day c_crashedToday c_kind c_figure c_lean)) hx hb hml hown hts hK hN hA hP hD hS hl (c_City_uprightFrom l D cI cM cS cJ aC aK H.size y3 c_men c_propped c_place c_swings c_crashes c_day c_crashedToday c_kind c_figure c_lean g17) gX2_rightOne_X2_uprightFrom rfl kdV_X2_uprightFrom 0 2 rfl rfl rfl [0, 1, 2, 3, 4, 5, 6, 7, 8, 9, 10, 11, 12] ⟨rfl, rfl⟩ ⟨Nat.le_of_ble_eq_true rfl, Nat.le_of_ble_eq_true rfl⟩ ⟨Nat.zero_le _, Nat.zero_le _⟩ rfl rfl (by decide +kernel) (k_rp rfl (by decide +kernel)) rfl rfl (Nat.le_of_ble_eq_true rfl) dX2_rightOne_17 rfl (fun H locs hP hD hS => ?_)
        refine lv_istore (lv' := [(4, .int r17), (0, .ref (aC 0)), (1, .int y1), (2, .int y2), (3, .int y3)]) hx hb dX2_rightOne_20 hl (by decide) rfl (fun ls hl => ?_)
        refine lv_iload hx hb dX2_rightOne_22 (lv_at hl 0 rfl) ?_
        refine lv_iload_n hx hb dX2_rightOne_24 rfl (lv_at hl 3 rfl) ?_
        refine lv_icmp_le (tgt := 33) hx hb dX2_rightOne_25 (by decide) (fun c25 => ?_) (fun c25 => ?_)
        · have h := k_pos c25 h
          refine lv_iinc (v := (y3 + 1)) (lv' := [(3, .int (y3 + 1)), (4, .int r17), (0, .ref (aC 0)), (1, .int y1), (2, .int y2)]) hx hb dX2_rightOne_33 hl (k := 4) rfl (by first | rfl | decide) (by decide) rfl (fun ls hl => ?_)
          refine lv_goto (tgt := 7) hx hb dX2_rightOne_36 (by decide) ?_
          exact ih7 y1 y2 (y3 + 1) H locs ls hP hD hS (lv_sub hl [2, 3, 4, 0] rfl) h
        · have h := k_neg c25 h
          refine lv_iload hx hb dX2_rightOne_28 (lv_at hl 0 rfl) ?_
          refine lv_istore_n (lv' := [(2, .int r17), (4, .int r17), (0, .ref (aC 0)), (1, .int y1), (3, .int y3)]) hx hb dX2_rightOne_30 rfl hl (by decide) rfl (fun ls hl => ?_)
          refine lv_iload_n hx hb dX2_rightOne_31 rfl (lv_at hl 4 rfl) ?_
          refine lv_istore_n (lv' := [(1, .int y3), (2, .int r17), (4, .int r17), (0, .ref (aC 0)), (3, .int y3)]) hx hb dX2_rightOne_32 rfl hl (by decide) rfl (fun ls hl => ?_)
          refine lv_iinc (v := (y3 + 1)) (lv' := [(3, .int (y3 + 1)), (1, .int y3), (2, .int r17), (4, .int r17), (0, .ref (aC 0))]) hx hb dX2_rightOne_33 hl (k := 4) rfl (by first | rfl | decide) (by decide) rfl (fun ls hl => ?_)
          refine lv_goto (tgt := 7) hx hb dX2_rightOne_36 (by decide) ?_
          exact ih7 y3 r17 (y3 + 1) H locs ls hP hD hS (lv_sub hl [4, 1, 2, 0] rfl) h
  refine lv_istore_n (lv' := [(3, .int 0), (2, .int (-1)), (1, .int (-4)), (0, .ref (aC 0))]) hx hb dX2_rightOne_6 rfl hl (by decide) rfl (fun ls hl => ?_)
  exact B7 lfu (-4) (-1) 0 s.heap [] ls hP hD hS (lv_sub hl [3, 2, 1, 0] rfl) h
abbrev Wd15 (cI : ClassId) (aC : Nat → Nat) (aK : Nat → Nat) (c_men : Int32) (c_propped : Int32) (c_place : Int32) (c_swings : Int32) (c_crashes : Int32) (c_day : Int32) (c_crashedToday : Int32) (c_lean : Nat → Int32) (c_seated : Nat → Int32) : va_W := [((aC 0), .inr (2, [.ref (aC 1), .ref (aC 2), .ref (aC 3), .int c_men, .int c_propped, .int c_place, .int c_swings, .int c_crashes, .int c_day, .int c_crashedToday, .ref (aK 8), .ref (aC 4)])), ((aC 3), .inl (cI, 8, .inl c_lean)), ((aC 4), .inl (cI, 8, .inl c_seated))]
abbrev rm_X2_walls : Room := { frames := 1, cells := 0, slots := 0, locals := 40 }
set_option maxHeartbeats 4000000 in
set_option maxRecDepth 100000 in
theorem c_City_walls (l : Launch) (D : va_G) (cI cM cS cJ : ClassId) (aC : Nat → Nat) (aK : Nat → Nat) (sz : Nat) (c_men : Int32) (c_propped : Int32) (c_place : Int32) (c_swings : Int32) (c_crashes : Int32) (c_day : Int32) (c_crashedToday : Int32) (c_lean : Nat → Int32) (c_seated : Nat → Int32) {o : (Int32) × (Nat → Int32)} (hsem : S_City_walls c_men c_lean c_seated = some o) : kMet l yX2_walls wsX2_walls rm_X2_walls [.ref (aC 0)] D (kT cI cM cS cJ) (Wd15 cI aC aK c_men c_propped c_place c_swings c_crashes c_day c_crashedToday c_lean c_seated) sz (some (.int o.1)) (Wd15 cI aC aK c_men c_propped c_place c_swings c_crashes c_day c_crashedToday c_lean o.2) := by
  refine k_metI (by decide) rfl rfl (Nat.le_of_ble_eq_true rfl) ?_
  intro p e s m below meth c ls Q A hx hb hml hts hown hK hN hA hP hD hS hl hsz hnm hret
  have hown : s.vm.findClass RX2 = some m.cls := hown
  have hf34 := hts (.fieldLink RX2 34 "PlumbLine$City" "men" "I") (List.mem_of_getElem? (i := 1) rfl)
  have hf21 := hts (.fieldLink RX2 21 "PlumbLine$City" "seated" "[I") (List.mem_of_getElem? (i := 2) rfl)
  have hf18 := hts (.fieldLink RX2 18 "PlumbLine$City" "lean" "[I") (List.mem_of_getElem? (i := 3) rfl)
  have hiX2 : ∀ w ∈ u_ws RX2 TX2 12, w ∈ wsX2_walls := fun w h => List.mem_cons_of_mem _ (List.mem_append_right _ h)
  replace hl : lv_has ls 4 [(0, .ref (aC 0))] := hl
  have h := hsem
  clear hsem
  rw [S_City_walls] at h
  refine lv_bipush (v := (-4)) hx hb dX2_walls_0 (by decide) ?_
  refine lv_istore_n (lv' := [(1, .int (-4)), (0, .ref (aC 0))]) hx hb dX2_walls_2 rfl hl (by decide) rfl (fun ls hl => ?_)
  refine lv_iconst (v := 0) hx hb dX2_walls_3 (by decide) ?_
  have B5 : ∀ (n5 : Nat) (y1 : Int32) (y2 : Int32) (c_seated : Nat → Int32) (H : Heap) (locs : List Loc) (ls : Array Slot), va_P D vwCl (Wd15 cI aC aK c_men c_propped c_place c_swings c_crashes c_day c_crashedToday c_lean c_seated) H → va_D A (Wd15 cI aC aK c_men c_propped c_place c_swings c_crashes c_day c_crashedToday c_lean c_seated) → va_S A s.heap H locs → lv_has ls 4 [(0, .ref (aC 0)), (1, .int y1), (2, .int y2)] → S_City_walls_L5 c_men c_lean n5 y1 y2 c_seated = some o → W p l e rm_X2_walls s m ([.ref (aC 0)] : List Value).toArray below meth c H locs 0 0 Q (F0 m 5 ls []) := by
    intro n5
    induction n5 with
    | zero => intro y1 y2 c_seated H locs ls hP hD hS hl h; exact absurd h (by simp [S_City_walls_L5])
    | succ n5 ih5 =>
      intro y1 y2 c_seated H locs ls hP hD hS hl h
      rw [S_City_walls_L5] at h
      refine lv_iload_n hx hb dX2_walls_5 rfl (lv_at hl 2 rfl) ?_
      refine lv_aload_n hx hb dX2_walls_6 rfl (lv_at hl 0 rfl) ?_
      refine va_get (D := D) (ci := 2) (v := .int c_men) (C := RX2) (T := TX2) (N := 12) hx hb hts hiX2 hown hK hP 0 rfl rfl 3 (by decide) hf34 (fun _ z => z) rfl dX2_walls_7 ?_
      refine lv_icmp_ge (tgt := 88) hx hb dX2_walls_10 (by decide) (fun c10 => ?_) (fun c10 => ?_)
      · have h := k_pos c10 h
        refine lv_iload_n hx hb dX2_walls_88 rfl (lv_at hl 1 rfl) ?_
        cases h
        exact hret _ _ _ _ hP hS dX2_walls_89
      · have h := k_neg c10 h
        refine lv_aload_n hx hb dX2_walls_13 rfl (lv_at hl 0 rfl) ?_
        refine va_get (D := D) (ci := 2) (v := .ref (aC 4)) (C := RX2) (T := TX2) (N := 12) hx hb hts hiX2 hown hK hP 0 rfl rfl 11 (by decide) hf21 (fun _ z => z) rfl dX2_walls_14 ?_
        refine lv_iload_n hx hb dX2_walls_17 rfl (lv_at hl 2 rfl) ?_
        refine lv_iconst (v := 1) hx hb dX2_walls_18 (by decide) ?_
        obtain ⟨g19, h⟩ := k_guard h
        refine va_iast hx hb hK hP hD hS 2 0 rfl rfl g19 dX2_walls_19 (fun H locs hP hD hS => ?_)
        replace hP : va_P D vwCl (Wd15 cI aC aK c_men c_propped c_place c_swings c_crashes c_day c_crashedToday c_lean (upd c_seated y2.toNatClampNeg 1)) H := hP
        replace hD : va_D A (Wd15 cI aC aK c_men c_propped c_place c_swings c_crashes c_day c_crashedToday c_lean (upd c_seated y2.toNatClampNeg 1)) := hD
        refine lv_iconst (v := 0) hx hb dX2_walls_20 (by decide) ?_
        have B22 : ∀ (y1 : Int32) (y2 : Int32) (n22 : Nat) (y3 : Int32) (c_seated : Nat → Int32) (H : Heap) (locs : List Loc) (ls : Array Slot), va_P D vwCl (Wd15 cI aC aK c_men c_propped c_place c_swings c_crashes c_day c_crashedToday c_lean c_seated) H → va_D A (Wd15 cI aC aK c_men c_propped c_place c_swings c_crashes c_day c_crashedToday c_lean c_seated) → va_S A s.heap H locs → lv_has ls 4 [(0, .ref (aC 0)), (1, .int y1), (2, .int y2), (3, .int y3)] → S_City_walls_L22 (S_City_walls_L5 c_men c_lean n5) y1 y2 c_lean n22 y3 c_seated = some o → W p l e rm_X2_walls s m ([.ref (aC 0)] : List Value).toArray below meth c H locs 0 0 Q (F0 m 22 ls []) := by
          intro y1 y2
          intro n22
          induction n22 with
          | zero => intro y3 c_seated H locs ls hP hD hS hl h; exact absurd h (by simp [S_City_walls_L22])
          | succ n22 ih22 =>
            intro y3 c_seated H locs ls hP hD hS hl h
            rw [S_City_walls_L22] at h
            refine lv_iload_n hx hb dX2_walls_22 rfl (lv_at hl 3 rfl) ?_
            refine lv_iload_n hx hb dX2_walls_23 rfl (lv_at hl 2 rfl) ?_
            refine lv_icmp_ge (tgt := 71) hx hb dX2_walls_24 (by decide) (fun c24 => ?_) (fun c24 => ?_)
            · have h := k_pos c24 h
              refine lv_iload_n hx hb dX2_walls_71 rfl (lv_at hl 1 rfl) ?_
              refine lv_aload_n hx hb dX2_walls_72 rfl (lv_at hl 0 rfl) ?_
              refine va_get (D := D) (ci := 2) (v := .ref (aC 4)) (C := RX2) (T := TX2) (N := 12) hx hb hts hiX2 hown hK hP 0 rfl rfl 11 (by decide) hf21 (fun _ z => z) rfl dX2_walls_73 ?_
              refine lv_iload_n hx hb dX2_walls_76 rfl (lv_at hl 2 rfl) ?_
              obtain ⟨g77, h⟩ := k_guard h
              refine va_iald hx hb hK hP 2 0 rfl rfl g77 dX2_walls_77 ?_
              refine k_mmax (own := RX2) (index := 125) hx hb (hml.trans hl.1.symm) hown (hts _ (List.mem_of_getElem? (i := 4) rfl)) (hts _ (List.mem_of_getElem? (i := 5) rfl)) (hts _ (List.mem_of_getElem? (i := 6) rfl)) (hts _ (List.mem_of_getElem? (i := 7) rfl)) (Nat.le_of_ble_eq_true rfl) (Nat.le_of_ble_eq_true rfl) (Nat.zero_le _) (Nat.zero_le _) dX2_walls_78 ?_
              refine lv_istore_n (lv' := [(1, .int (jmax y1 (c_seated y2.toNatClampNeg))), (0, .ref (aC 0)), (2, .int y2), (3, .int y3)]) hx hb dX2_walls_81 rfl hl (by decide) rfl (fun ls hl => ?_)
              refine lv_iinc (v := (y2 + 1)) (lv' := [(2, .int (y2 + 1)), (1, .int (jmax y1 (c_seated y2.toNatClampNeg))), (0, .ref (aC 0)), (3, .int y3)]) hx hb dX2_walls_82 hl (k := 2) rfl (by first | rfl | decide) (by decide) rfl (fun ls hl => ?_)
              refine lv_goto (tgt := 5) hx hb dX2_walls_85 (by decide) ?_
              exact ih5 (jmax y1 (c_seated y2.toNatClampNeg)) (y2 + 1) c_seated H locs ls hP hD hS (lv_sub hl [2, 1, 0] rfl) h
            · have h := k_neg c24 h
              refine lv_aload_n hx hb dX2_walls_27 rfl (lv_at hl 0 rfl) ?_
              refine va_get (D := D) (ci := 2) (v := .ref (aC 3)) (C := RX2) (T := TX2) (N := 12) hx hb hts hiX2 hown hK hP 0 rfl rfl 2 (by decide) hf18 (fun _ z => z) rfl dX2_walls_28 ?_
              refine lv_iload_n hx hb dX2_walls_31 rfl (lv_at hl 3 rfl) ?_
              obtain ⟨g32, h⟩ := k_guard h
              refine va_iald hx hb hK hP 1 0 rfl rfl g32 dX2_walls_32 ?_
              refine lv_aload_n hx hb dX2_walls_33 rfl (lv_at hl 0 rfl) ?_
              refine va_get (D := D) (ci := 2) (v := .ref (aC 3)) (C := RX2) (T := TX2) (N := 12) hx hb hts hiX2 hown hK hP 0 rfl rfl 2 (by decide) hf18 (fun _ z => z) rfl dX2_walls_34 ?_
              refine lv_iload_n hx hb dX2_walls_37 rfl (lv_at hl 2 rfl) ?_
              obtain ⟨g38, h⟩ := k_guard h
              refine va_iald hx hb hK hP 1 0 rfl rfl g38 dX2_walls_38 ?_
              refine lv_icmp_gt (tgt := 65) hx hb dX2_walls_39 (by decide) (fun c39 => ?_) (fun c39 => ?_)
              · have h := k_pos c39 h
                refine lv_iinc (v := (y3 + 1)) (lv' := [(3, .int (y3 + 1)), (0, .ref (aC 0)), (1, .int y1), (2, .int y2)]) hx hb dX2_walls_65 hl (k := 3) rfl (by first | rfl | decide) (by decide) rfl (fun ls hl => ?_)
                refine lv_goto (tgt := 22) hx hb dX2_walls_68 (by decide) ?_
                exact ih22 (y3 + 1) c_seated H locs ls hP hD hS (lv_sub hl [1, 2, 3, 0] rfl) h
              · have h := k_neg c39 h
                refine lv_aload_n hx hb dX2_walls_42 rfl (lv_at hl 0 rfl) ?_
                refine va_get (D := D) (ci := 2) (v := .ref (aC 4)) (C := RX2) (T := TX2) (N := 12) hx hb hts hiX2 hown hK hP 0 rfl rfl 11 (by decide) hf21 (fun _ z => z) rfl dX2_walls_43 ?_
                refine lv_iload_n hx hb dX2_walls_46 rfl (lv_at hl 2 rfl) ?_
                refine lv_aload_n hx hb dX2_walls_47 rfl (lv_at hl 0 rfl) ?_
                refine va_get (D := D) (ci := 2) (v := .ref (aC 4)) (C := RX2) (T := TX2) (N := 12) hx hb hts hiX2 hown hK hP 0 rfl rfl 11 (by decide) hf21 (fun _ z => z) rfl dX2_walls_48 ?_
                refine lv_iload_n hx hb dX2_walls_51 rfl (lv_at hl 2 rfl) ?_
                refine va_iald hx hb hK hP 2 0 rfl rfl g38 dX2_walls_52 ?_
                refine lv_aload_n hx hb dX2_walls_53 rfl (lv_at hl 0 rfl) ?_
                refine va_get (D := D) (ci := 2) (v := .ref (aC 4)) (C := RX2) (T := TX2) (N := 12) hx hb hts hiX2 hown hK hP 0 rfl rfl 11 (by decide) hf21 (fun _ z => z) rfl dX2_walls_54 ?_
                refine lv_iload_n hx hb dX2_walls_57 rfl (lv_at hl 3 rfl) ?_
                refine va_iald hx hb hK hP 2 0 rfl rfl g32 dX2_walls_58 ?_
                refine lv_iconst (v := 1) hx hb dX2_walls_59 (by decide) ?_
                refine lv_iadd hx hb dX2_walls_60 ?_
                refine k_mmax (own := RX2) (index := 125) hx hb (hml.trans hl.1.symm) hown (hts _ (List.mem_of_getElem? (i := 4) rfl)) (hts _ (List.mem_of_getElem? (i := 5) rfl)) (hts _ (List.mem_of_getElem? (i := 6) rfl)) (hts _ (List.mem_of_getElem? (i := 7) rfl)) (Nat.le_of_ble_eq_true rfl) (Nat.le_of_ble_eq_true rfl) (Nat.zero_le _) (Nat.zero_le _) dX2_walls_61 ?_
                refine va_iast hx hb hK hP hD hS 2 0 rfl rfl g38 dX2_walls_64 (fun H locs hP hD hS => ?_)
                replace hP : va_P D vwCl (Wd15 cI aC aK c_men c_propped c_place c_swings c_crashes c_day c_crashedToday c_lean (upd c_seated y2.toNatClampNeg (jmax (c_seated y2.toNatClampNeg) ((c_seated y3.toNatClampNeg) + 1)))) H := hP
                replace hD : va_D A (Wd15 cI aC aK c_men c_propped c_place c_swings c_crashes c_day c_crashedToday c_lean (upd c_seated y2.toNatClampNeg (jmax (c_seated y2.toNatClampNeg) ((c_seated y3.toNatClampNeg) + 1)))) := hD
                refine lv_iinc (v := (y3 + 1)) (lv' := [(3, .int (y3 + 1)), (0, .ref (aC 0)), (1, .int y1), (2, .int y2)]) hx hb dX2_walls_65 hl (k := 3) rfl (by first | rfl | decide) (by decide) rfl (fun ls hl => ?_)
                refine lv_goto (tgt := 22) hx hb dX2_walls_68 (by decide) ?_
                exact ih22 (y3 + 1) (upd c_seated y2.toNatClampNeg (jmax (c_seated y2.toNatClampNeg) ((c_seated y3.toNatClampNeg) + 1))) H locs ls hP hD hS (lv_sub hl [1, 2, 3, 0] rfl) h
        refine lv_istore_n (lv' := [(3, .int 0), (0, .ref (aC 0)), (1, .int y1), (2, .int y2)]) hx hb dX2_walls_21 rfl hl (by decide) rfl (fun ls hl => ?_)
        exact B22 y1 y2 lfu 0 (upd c_seated y2.toNatClampNeg 1) H locs ls hP hD hS (lv_sub hl [1, 2, 3, 0] rfl) h
  refine lv_istore_n (lv' := [(2, .int 0), (1, .int (-4)), (0, .ref (aC 0))]) hx hb dX2_walls_4 rfl hl (by decide) rfl (fun ls hl => ?_)
  exact B5 lfu (-4) 0 c_seated s.heap [] ls hP hD hS (lv_sub hl [2, 1, 0] rfl) h
abbrev rm_X2_sumOf : Room := { frames := 0, cells := 0, slots := 0, locals := 0 }
set_option maxHeartbeats 4000000 in
set_option maxRecDepth 100000 in
theorem c_City_sumOf (l : Launch) (D : va_G) (cI cM cS cJ : ClassId) (aC : Nat → Nat) (aK : Nat → Nat) (sz : Nat) (x1 : Int32) (c_men : Int32) (c_propped : Int32) (c_place : Int32) (c_swings : Int32) (c_crashes : Int32) (c_day : Int32) (c_crashedToday : Int32) (c_lean : Nat → Int32) {o : (Int32)} (hsem : S_City_sumOf x1 c_men c_lean = some o) : kMet l yX2_sumOf wsX2_sumOf rm_X2_sumOf [.ref (aC 0), .int x1] D (kT cI cM cS cJ) (Wd11 cI aC aK c_men c_propped c_place c_swings c_crashes c_day c_crashedToday c_lean) sz (some (.int o)) (Wd11 cI aC aK c_men c_propped c_place c_swings c_crashes c_day c_crashedToday c_lean) := by
  refine k_metI (by decide) rfl rfl (Nat.le_of_ble_eq_true rfl) ?_
  intro p e s m below meth c ls Q A hx hb hml hts hown hK hN hA hP hD hS hl hsz hnm hret
  have hown : s.vm.findClass RX2 = some m.cls := hown
  have hf34 := hts (.fieldLink RX2 34 "PlumbLine$City" "men" "I") (List.mem_of_getElem? (i := 1) rfl)
  have hf18 := hts (.fieldLink RX2 18 "PlumbLine$City" "lean" "[I") (List.mem_of_getElem? (i := 2) rfl)
  have hiX2 : ∀ w ∈ u_ws RX2 TX2 12, w ∈ wsX2_sumOf := fun w h => List.mem_cons_of_mem _ (List.mem_append_right _ h)
  replace hl : lv_has ls 4 [(0, .ref (aC 0)), (1, .int x1)] := hl
  have h := hsem
  clear hsem
  rw [S_City_sumOf] at h
  refine lv_iconst (v := 0) hx hb dX2_sumOf_0 (by decide) ?_
  refine lv_istore_n (lv' := [(2, .int 0), (0, .ref (aC 0)), (1, .int x1)]) hx hb dX2_sumOf_1 rfl hl (by decide) rfl (fun ls hl => ?_)
  refine lv_iconst (v := 0) hx hb dX2_sumOf_2 (by decide) ?_
  have B4 : ∀ (n4 : Nat) (y2 : Int32) (y3 : Int32) (H : Heap) (locs : List Loc) (ls : Array Slot), va_P D vwCl (Wd11 cI aC aK c_men c_propped c_place c_swings c_crashes c_day c_crashedToday c_lean) H → va_D A (Wd11 cI aC aK c_men c_propped c_place c_swings c_crashes c_day c_crashedToday c_lean) → va_S A s.heap H locs → lv_has ls 4 [(0, .ref (aC 0)), (1, .int x1), (2, .int y2), (3, .int y3)] → S_City_sumOf_L4 x1 c_men c_lean n4 y2 y3 = some o → W p l e rm_X2_sumOf s m ([.ref (aC 0), .int x1] : List Value).toArray below meth c H locs 0 0 Q (F0 m 4 ls []) := by
    intro n4
    induction n4 with
    | zero => intro y2 y3 H locs ls hP hD hS hl h; exact absurd h (by simp [S_City_sumOf_L4])
    | succ n4 ih4 =>
      intro y2 y3 H locs ls hP hD hS hl h
      rw [S_City_sumOf_L4] at h
      refine lv_iload_n hx hb dX2_sumOf_4 rfl (lv_at hl 3 rfl) ?_
      refine lv_aload_n hx hb dX2_sumOf_5 rfl (lv_at hl 0 rfl) ?_
      refine va_get (D := D) (ci := 2) (v := .int c_men) (C := RX2) (T := TX2) (N := 12) hx hb hts hiX2 hown hK hP 0 rfl rfl 3 (by decide) hf34 (fun _ z => z) rfl dX2_sumOf_6 ?_
      refine lv_icmp_ge (tgt := 35) hx hb dX2_sumOf_9 (by decide) (fun c9 => ?_) (fun c9 => ?_)
      · have h := k_pos c9 h
        refine lv_iload_n hx hb dX2_sumOf_35 rfl (lv_at hl 2 rfl) ?_
        cases h
        exact hret _ _ _ _ hP hS dX2_sumOf_36
      · have h := k_neg c9 h
        refine lv_iload_n hx hb dX2_sumOf_12 rfl (lv_at hl 1 rfl) ?_
        refine lv_iconst (v := 1) hx hb dX2_sumOf_13 (by decide) ?_
        refine lv_iload_n hx hb dX2_sumOf_14 rfl (lv_at hl 3 rfl) ?_
        refine lv_ishl hx hb dX2_sumOf_15 ?_
        refine lv_iand hx hb dX2_sumOf_16 ?_
        refine lv_if_eq (tgt := 29) hx hb dX2_sumOf_17 (by decide) (fun c17 => ?_) (fun c17 => ?_)
        · have h := k_pos c17 h
          refine lv_iinc (v := (y3 + 1)) (lv' := [(3, .int (y3 + 1)), (0, .ref (aC 0)), (1, .int x1), (2, .int y2)]) hx hb dX2_sumOf_29 hl (k := 3) rfl (by first | rfl | decide) (by decide) rfl (fun ls hl => ?_)
          refine lv_goto (tgt := 4) hx hb dX2_sumOf_32 (by decide) ?_
          exact ih4 y2 (y3 + 1) H locs ls hP hD hS (lv_sub hl [1, 2, 3, 0] rfl) h
        · have h := k_neg c17 h
          refine lv_iload_n hx hb dX2_sumOf_20 rfl (lv_at hl 2 rfl) ?_
          refine lv_aload_n hx hb dX2_sumOf_21 rfl (lv_at hl 0 rfl) ?_
          refine va_get (D := D) (ci := 2) (v := .ref (aC 3)) (C := RX2) (T := TX2) (N := 12) hx hb hts hiX2 hown hK hP 0 rfl rfl 2 (by decide) hf18 (fun _ z => z) rfl dX2_sumOf_22 ?_
          refine lv_iload_n hx hb dX2_sumOf_25 rfl (lv_at hl 3 rfl) ?_
          obtain ⟨g26, h⟩ := k_guard h
          refine va_iald hx hb hK hP 1 0 rfl rfl g26 dX2_sumOf_26 ?_
          refine lv_iadd hx hb dX2_sumOf_27 ?_
          refine lv_istore_n (lv' := [(2, .int (y2 + (c_lean y3.toNatClampNeg))), (0, .ref (aC 0)), (1, .int x1), (3, .int y3)]) hx hb dX2_sumOf_28 rfl hl (by decide) rfl (fun ls hl => ?_)
          refine lv_iinc (v := (y3 + 1)) (lv' := [(3, .int (y3 + 1)), (2, .int (y2 + (c_lean y3.toNatClampNeg))), (0, .ref (aC 0)), (1, .int x1)]) hx hb dX2_sumOf_29 hl (k := 3) rfl (by first | rfl | decide) (by decide) rfl (fun ls hl => ?_)
          refine lv_goto (tgt := 4) hx hb dX2_sumOf_32 (by decide) ?_
          exact ih4 (y2 + (c_lean y3.toNatClampNeg)) (y3 + 1) H locs ls hP hD hS (lv_sub hl [2, 3, 1, 0] rfl) h
  refine lv_istore_n (lv' := [(3, .int 0), (2, .int 0), (0, .ref (aC 0)), (1, .int x1)]) hx hb dX2_sumOf_3 rfl hl (by decide) rfl (fun ls hl => ?_)
  exact B4 lfu 0 0 s.heap [] ls hP hD hS (lv_sub hl [2, 3, 1, 0] rfl) h
theorem kdV_X2_sumOf : yX2_sumOf.cls = RX2 ∧ yX2_sumOf.cls ≠ "java/lang/invoke/MethodHandle" ∧ yX2_sumOf.cls ≠ "java/lang/invoke/VarHandle" ∧ (parseMethodDescriptor yX2_sumOf.desc).map (fun d => d.parameters.length) = some 1 := by decide +kernel
abbrev rm_X2_balance : Room := { frames := 1, cells := 0, slots := 0, locals := 23 }
set_option maxHeartbeats 4000000 in
set_option maxRecDepth 100000 in
theorem c_City_balance (l : Launch) (D : va_G) (cI cM cS cJ : ClassId) (aC : Nat → Nat) (aK : Nat → Nat) (sz : Nat) (c_men : Int32) (c_propped : Int32) (c_place : Int32) (c_swings : Int32) (c_crashes : Int32) (c_day : Int32) (c_crashedToday : Int32) (c_lean : Nat → Int32) {o : (Int32)} (hsem : S_City_balance c_men c_lean = some o) : kMet l yX2_balance wsX2_balance rm_X2_balance [.ref (aC 0)] D (kT cI cM cS cJ) (Wd11 cI aC aK c_men c_propped c_place c_swings c_crashes c_day c_crashedToday c_lean) sz (some (.int o)) (Wd11 cI aC aK c_men c_propped c_place c_swings c_crashes c_day c_crashedToday c_lean) := by
  refine k_metI (by decide) rfl rfl (Nat.le_of_ble_eq_true rfl) ?_
  intro p e s m below meth c ls Q A hx hb hml hts hown hK hN hA hP hD hS hl hsz hnm hret
  have hown : s.vm.findClass RX2 = some m.cls := hown
  have hf34 := hts (.fieldLink RX2 34 "PlumbLine$City" "men" "I") (List.mem_of_getElem? (i := 1) rfl)
  have hiX2 : ∀ w ∈ u_ws RX2 TX2 12, w ∈ wsX2_balance := fun w h => List.mem_cons_of_mem _ (List.mem_append_right _ h)
  replace hl : lv_has ls 3 [(0, .ref (aC 0))] := hl
  have h := hsem
  clear hsem
  rw [S_City_balance] at h
  refine lv_iconst (v := 0) hx hb dX2_balance_0 (by decide) ?_
  refine lv_istore_n (lv' := [(1, .int 0), (0, .ref (aC 0))]) hx hb dX2_balance_1 rfl hl (by decide) rfl (fun ls hl => ?_)
  refine lv_iconst (v := 1) hx hb dX2_balance_2 (by decide) ?_
  have B4 : ∀ (n4 : Nat) (y1 : Int32) (y2 : Int32) (H : Heap) (locs : List Loc) (ls : Array Slot), va_P D vwCl (Wd11 cI aC aK c_men c_propped c_place c_swings c_crashes c_day c_crashedToday c_lean) H → va_D A (Wd11 cI aC aK c_men c_propped c_place c_swings c_crashes c_day c_crashedToday c_lean) → va_S A s.heap H locs → lv_has ls 3 [(0, .ref (aC 0)), (1, .int y1), (2, .int y2)] → S_City_balance_L4 c_men c_lean n4 y1 y2 = some o → W p l e rm_X2_balance s m ([.ref (aC 0)] : List Value).toArray below meth c H locs 0 0 Q (F0 m 4 ls []) := by
    intro n4
    induction n4 with
    | zero => intro y1 y2 H locs ls hP hD hS hl h; exact absurd h (by simp [S_City_balance_L4])
    | succ n4 ih4 =>
      intro y1 y2 H locs ls hP hD hS hl h
      rw [S_City_balance_L4] at h
      refine lv_iload_n hx hb dX2_balance_4 rfl (lv_at hl 2 rfl) ?_
      refine lv_iconst (v := 1) hx hb dX2_balance_5 (by decide) ?_
      refine lv_aload_n hx hb dX2_balance_6 rfl (lv_at hl 0 rfl) ?_
      refine va_get (D := D) (ci := 2) (v := .int c_men) (C := RX2) (T := TX2) (N := 12) hx hb hts hiX2 hown hK hP 0 rfl rfl 3 (by decide) hf34 (fun _ z => z) rfl dX2_balance_7 ?_
      refine lv_ishl hx hb dX2_balance_10 ?_
      refine lv_icmp_ge (tgt := 41) hx hb dX2_balance_11 (by decide) (fun c11 => ?_) (fun c11 => ?_)
      · have h := k_pos c11 h
        refine lv_iload_n hx hb dX2_balance_41 rfl (lv_at hl 1 rfl) ?_
        cases h
        exact hret _ _ _ _ hP hS dX2_balance_42
      · have h := k_neg c11 h
        refine lv_iload_n hx hb dX2_balance_14 rfl (lv_at hl 2 rfl) ?_
        refine k_callS (As := [.int y2]) (rest := []) (st1 := [.int (S_J_bitCount y2)]) (ws2 := (Wd11 cI aC aK c_men c_propped c_place c_swings c_crashes c_day c_crashedToday c_lean)) hx hb hml hown hts hK hN hA hP hD hS hl (c_J_bitCount l D cI cM cS cJ H.size y2 rfl) gX2_balance_J6_bitCount_0f7a4 rfl kdS_J6_bitCount_0f7a4 [] ⟨rfl, rfl⟩ ⟨Nat.le_of_ble_eq_true rfl, Nat.le_of_ble_eq_true rfl⟩ ⟨Nat.zero_le _, Nat.zero_le _⟩ rfl rfl (by decide +kernel) (k_rp rfl (by decide +kernel)) rfl rfl (Nat.le_of_ble_eq_true rfl) dX2_balance_15 rfl (fun H locs hP hD hS => ?_)
        refine lv_iload_n hx hb dX2_balance_18 rfl (lv_at hl 1 rfl) ?_
        refine k_callS (As := [.int y1]) (rest := [.int (S_J_bitCount y2)]) (st1 := [.int (S_J_bitCount y1), .int (S_J_bitCount y2)]) (ws2 := (Wd11 cI aC aK c_men c_propped c_place c_swings c_crashes c_day c_crashedToday c_lean)) hx hb hml hown hts hK hN hA hP hD hS hl (c_J_bitCount l D cI cM cS cJ H.size y1 rfl) gX2_balance_J6_bitCount_0f7a4 rfl kdS_J6_bitCount_0f7a4 [] ⟨rfl, rfl⟩ ⟨Nat.le_of_ble_eq_true rfl, Nat.le_of_ble_eq_true rfl⟩ ⟨Nat.zero_le _, Nat.zero_le _⟩ rfl rfl (by decide +kernel) (k_rp rfl (by decide +kernel)) rfl rfl (Nat.le_of_ble_eq_true rfl) dX2_balance_19 rfl (fun H locs hP hD hS => ?_)
        refine lv_icmp_le (tgt := 35) hx hb dX2_balance_22 (by decide) (fun c22 => ?_) (fun c22 => ?_)
        · have h := k_pos c22 h
          refine lv_iinc (v := (y2 + 1)) (lv' := [(2, .int (y2 + 1)), (0, .ref (aC 0)), (1, .int y1)]) hx hb dX2_balance_35 hl (k := 2) rfl (by first | rfl | decide) (by decide) rfl (fun ls hl => ?_)
          refine lv_goto (tgt := 4) hx hb dX2_balance_38 (by decide) ?_
          exact ih4 y1 (y2 + 1) H locs ls hP hD hS (lv_sub hl [1, 2, 0] rfl) h
        · have h := k_neg c22 h
          refine lv_aload_n hx hb dX2_balance_25 rfl (lv_at hl 0 rfl) ?_
          refine lv_iload_n hx hb dX2_balance_26 rfl (lv_at hl 2 rfl) ?_
          obtain ⟨r27, g27, h⟩ := k_bind h
          refine k_callV (As := [.int y2]) (rest := []) (st1 := [.int r27]) (ws2 := (Wd11 cI aC aK c_men c_propped c_place c_swings c_crashes c_day c_crashedToday c_lean)) hx hb hml hown hts hK hN hA hP hD hS hl (c_City_sumOf l D cI cM cS cJ aC aK H.size y2 c_men c_propped c_place c_swings c_crashes c_day c_crashedToday c_lean g27) gX2_balance_X2_sumOf rfl kdV_X2_sumOf 0 2 rfl rfl rfl [0, 1] ⟨rfl, rfl⟩ ⟨Nat.le_of_ble_eq_true rfl, Nat.le_of_ble_eq_true rfl⟩ ⟨Nat.zero_le _, Nat.zero_le _⟩ rfl rfl (by decide +kernel) (k_rp rfl (by decide +kernel)) rfl rfl (Nat.le_of_ble_eq_true rfl) dX2_balance_27 rfl (fun H locs hP hD hS => ?_)
          refine lv_if_ne (tgt := 35) hx hb dX2_balance_30 (by decide) (fun c30 => ?_) (fun c30 => ?_)
          · have h := k_neg c30 h
            refine lv_iinc (v := (y2 + 1)) (lv' := [(2, .int (y2 + 1)), (0, .ref (aC 0)), (1, .int y1)]) hx hb dX2_balance_35 hl (k := 2) rfl (by first | rfl | decide) (by decide) rfl (fun ls hl => ?_)
            refine lv_goto (tgt := 4) hx hb dX2_balance_38 (by decide) ?_
            exact ih4 y1 (y2 + 1) H locs ls hP hD hS (lv_sub hl [1, 2, 0] rfl) h
          · have h := k_pos c30 h
            refine lv_iload_n hx hb dX2_balance_33 rfl (lv_at hl 2 rfl) ?_
            refine lv_istore_n (lv' := [(1, .int y2), (0, .ref (aC 0)), (2, .int y2)]) hx hb dX2_balance_34 rfl hl (by decide) rfl (fun ls hl => ?_)
            refine lv_iinc (v := (y2 + 1)) (lv' := [(2, .int (y2 + 1)), (1, .int y2), (0, .ref (aC 0))]) hx hb dX2_balance_35 hl (k := 2) rfl (by first | rfl | decide) (by decide) rfl (fun ls hl => ?_)
            refine lv_goto (tgt := 4) hx hb dX2_balance_38 (by decide) ?_
            exact ih4 y2 (y2 + 1) H locs ls hP hD hS (lv_sub hl [2, 1, 0] rfl) h
  refine lv_istore_n (lv' := [(2, .int 1), (1, .int 0), (0, .ref (aC 0))]) hx hb dX2_balance_3 rfl hl (by decide) rfl (fun ls hl => ?_)
  exact B4 lfu 0 1 s.heap [] ls hP hD hS (lv_sub hl [2, 1, 0] rfl) h
abbrev rm_X2_side : Room := { frames := 0, cells := 0, slots := 0, locals := 0 }
set_option maxHeartbeats 4000000 in
set_option maxRecDepth 100000 in
theorem c_City_side (l : Launch) (D : va_G) (cI cM cS cJ : ClassId) (aC : Nat → Nat) (aK : Nat → Nat) (sz : Nat) (x1 : Int32) (c_men : Int32) (c_propped : Int32) (c_place : Int32) (c_swings : Int32) (c_crashes : Int32) (c_day : Int32) (c_crashedToday : Int32) (c_lean : Nat → Int32) {o : (Int32)} (hsem : S_City_side x1 c_lean = some o) : kMet l yX2_side wsX2_side rm_X2_side [.ref (aC 0), .int x1] D (kT cI cM cS cJ) (Wd11 cI aC aK c_men c_propped c_place c_swings c_crashes c_day c_crashedToday c_lean) sz (some (.int o)) (Wd11 cI aC aK c_men c_propped c_place c_swings c_crashes c_day c_crashedToday c_lean) := by
  refine k_metI (by decide) rfl rfl (Nat.le_of_ble_eq_true rfl) ?_
  intro p e s m below meth c ls Q A hx hb hml hts hown hK hN hA hP hD hS hl hsz hnm hret
  have hown : s.vm.findClass RX2 = some m.cls := hown
  have hf18 := hts (.fieldLink RX2 18 "PlumbLine$City" "lean" "[I") (List.mem_of_getElem? (i := 1) rfl)
  have hiX2 : ∀ w ∈ u_ws RX2 TX2 12, w ∈ wsX2_side := fun w h => List.mem_cons_of_mem _ (List.mem_append_right _ h)
  replace hl : lv_has ls 2 [(0, .ref (aC 0)), (1, .int x1)] := hl
  have h := hsem
  clear hsem
  rw [S_City_side] at h
  refine lv_aload_n hx hb dX2_side_0 rfl (lv_at hl 0 rfl) ?_
  refine va_get (D := D) (ci := 2) (v := .ref (aC 3)) (C := RX2) (T := TX2) (N := 12) hx hb hts hiX2 hown hK hP 0 rfl rfl 2 (by decide) hf18 (fun _ z => z) rfl dX2_side_1 ?_
  refine lv_iload_n hx hb dX2_side_4 rfl (lv_at hl 1 rfl) ?_
  obtain ⟨g5, h⟩ := k_guard h
  refine va_iald hx hb hK hP 1 0 rfl rfl g5 dX2_side_5 ?_
  refine lv_if_ne (tgt := 11) hx hb dX2_side_6 (by decide) (fun c6 => ?_) (fun c6 => ?_)
  · have h := k_neg c6 h
    refine lv_aload_n hx hb dX2_side_11 rfl (lv_at hl 0 rfl) ?_
    refine va_get (D := D) (ci := 2) (v := .ref (aC 3)) (C := RX2) (T := TX2) (N := 12) hx hb hts hiX2 hown hK hP 0 rfl rfl 2 (by decide) hf18 (fun _ z => z) rfl dX2_side_12 ?_
    refine lv_iload_n hx hb dX2_side_15 rfl (lv_at hl 1 rfl) ?_
    refine va_iald hx hb hK hP 1 0 rfl rfl g5 dX2_side_16 ?_
    refine lv_if_ge (tgt := 24) hx hb dX2_side_17 (by decide) (fun c17 => ?_) (fun c17 => ?_)
    · have h := k_pos c17 h
      refine lv_iconst (v := 1) hx hb dX2_side_24 (by decide) ?_
      cases h
      exact hret _ _ _ _ hP hS dX2_side_25
    · have h := k_neg c17 h
      refine lv_iconst (v := (-1)) hx hb dX2_side_20 (by decide) ?_
      refine lv_goto (tgt := 25) hx hb dX2_side_21 (by decide) ?_
      cases h
      exact hret _ _ _ _ hP hS dX2_side_25
  · have h := k_pos c6 h
    refine lv_iconst (v := 0) hx hb dX2_side_9 (by decide) ?_
    cases h
    exact hret _ _ _ _ hP hS dX2_side_10
