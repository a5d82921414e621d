abbrev Wd9 (cI : ClassId) (aC : Nat → Nat) (aD : Nat → Nat) (aK : Nat → Nat) (c_men : Int32) (c_propped : Int32) (c_place : Int32) (c_swings : Int32) (c_crashes : Int32) (c_day : Int32) (c_crashedToday : Int32) (c_lean : Nat → Int32) (d_kind : Int32) (d_figure : Int32) (d_sort : Int32) (d_size : Int32) (d_held : Int32) (d_el : Nat → Int32) : va_W := [((aC 0), .inr (2, [.ref (aC 1), .ref (aC 2), .ref (aC 3), .int c_men, .int c_propped, .int c_place, .int c_swings, .int c_crashes, .int c_day, .int c_crashedToday, .ref (aK 8), .ref (aC 4)])), ((aC 3), .inl (cI, 8, .inl c_lean)), ((aD 0), .inr (9, [.ref (aD 1), .int d_kind, .int d_figure, .int d_sort, .int d_size, .int d_held, .ref (aK 8)])), ((aD 1), .inl (cI, 100, .inl d_el))]
theorem kdV_X2_has : yX2_has.cls = RX2 ∧ yX2_has.cls ≠ "java/lang/invoke/MethodHandle" ∧ yX2_has.cls ≠ "java/lang/invoke/VarHandle" ∧ (parseMethodDescriptor yX2_has.desc).map (fun d => d.parameters.length) = some 1 := by decide +kernel
abbrev rm_X2_takesLeanTold : Room := { frames := 3, cells := 0, slots := 0, locals := 63 }
set_option maxHeartbeats 4000000 in
set_option maxRecDepth 100000 in
theorem c_City_takesLeanTold (l : Launch) (D : va_G) (cI cM cS cJ : ClassId) (aC : Nat → Nat) (aD : Nat → Nat) (aK : Nat → Nat) (sz : Nat) (x2 : Int32) (c_men : Int32) (c_propped : Int32) (c_place : Int32) (c_swings : Int32) (c_crashes : Int32) (c_day : Int32) (c_crashedToday : Int32) (c_lean : Nat → Int32) (d_kind : Int32) (d_figure : Int32) (d_sort : Int32) (d_size : Int32) (d_held : Int32) (d_el : Nat → Int32) {o : (Int32) × (Nat → Int32)} (hsem : S_City_takesLeanTold x2 c_men c_lean d_size d_el = some o) : kMet l yX2_takesLeanTold wsX2_takesLeanTold rm_X2_takesLeanTold [.ref (aC 0), .ref (aD 0), .int x2] D (kT cI cM cS cJ) (Wd9 cI aC aD aK c_men c_propped c_place c_swings c_crashes c_day c_crashedToday c_lean d_kind d_figure d_sort d_size d_held d_el) sz (some (.int o.1)) (Wd9 cI aC aD aK c_men c_propped c_place c_swings c_crashes c_day c_crashedToday o.2 d_kind d_figure d_sort d_size d_held d_el) := by
  refine k_metZ (by decide) rfl rfl (Nat.le_of_ble_eq_true rfl) ?_
  intro p e s m below meth c ls Q A hx hb hml hts hown hK hN hA hP hD hS hl hsz hnm hret
  have hown : s.vm.findClass RX2 = some m.cls := hown
  have hf18 := hts (.fieldLink RX2 18 "PlumbLine$City" "lean" "[I") (List.mem_of_getElem? (i := 1) rfl)
  have hiX2 : ∀ w ∈ u_ws RX2 TX2 12, w ∈ wsX2_takesLeanTold := fun w h => List.mem_cons_of_mem _ (List.mem_append_left _ (List.mem_append_right _ h))
  replace hl : lv_has ls 5 [(0, .ref (aC 0)), (1, .ref (aD 0)), (2, .int x2)] := hl
  have h := hsem
  clear hsem
  rw [S_City_takesLeanTold] at h
  refine lv_aload_n hx hb dX2_takesLeanTold_0 rfl (lv_at hl 1 rfl) ?_
  refine lv_iload_n hx hb dX2_takesLeanTold_1 rfl (lv_at hl 2 rfl) ?_
  refine lv_iconst (v := 1) hx hb dX2_takesLeanTold_2 (by decide) ?_
  refine lv_iadd hx hb dX2_takesLeanTold_3 ?_
  obtain ⟨r4, g4, h⟩ := k_bind h
  refine k_callV (As := [.int (x2 + 1)]) (rest := []) (st1 := [.int r4]) (ws2 := (Wd9 cI aC aD aK c_men c_propped c_place c_swings c_crashes c_day c_crashedToday c_lean d_kind d_figure d_sort d_size d_held d_el)) hx hb hml hown hts hK hN hA hP hD hS hl (c_Shelf_digit l D cI cM cS cJ aD aK s.heap.size (x2 + 1) d_kind d_figure d_sort d_size d_held d_el g4) gX2_takesLeanTold_X9_digit rfl kdV_X9_digit 0 9 rfl rfl rfl [2, 3] ⟨rfl, rfl⟩ ⟨Nat.le_of_ble_eq_true rfl, Nat.le_of_ble_eq_true rfl⟩ ⟨Nat.zero_le _, Nat.zero_le _⟩ rfl rfl (by decide +kernel) (k_rp rfl (by decide +kernel)) rfl rfl (Nat.le_of_ble_eq_true rfl) dX2_takesLeanTold_4 rfl (fun H locs hP hD hS => ?_)
  refine lv_istore_n (lv' := [(3, .int r4), (0, .ref (aC 0)), (1, .ref (aD 0)), (2, .int x2)]) hx hb dX2_takesLeanTold_7 rfl hl (by decide) rfl (fun ls hl => ?_)
  refine lv_aload_n hx hb dX2_takesLeanTold_8 rfl (lv_at hl 2 rfl) ?_
  refine lv_iload_n hx hb dX2_takesLeanTold_9 rfl (lv_at hl 3 rfl) ?_
  refine lv_iconst (v := 2) hx hb dX2_takesLeanTold_10 (by decide) ?_
  refine lv_iadd hx hb dX2_takesLeanTold_11 ?_
  obtain ⟨r12, g12, h⟩ := k_bind h
  refine k_callV (As := [.int (x2 + 2)]) (rest := []) (st1 := [.int r12]) (ws2 := (Wd9 cI aC aD aK c_men c_propped c_place c_swings c_crashes c_day c_crashedToday c_lean d_kind d_figure d_sort d_size d_held d_el)) hx hb hml hown hts hK hN hA hP hD hS hl (c_Shelf_twoDigits l D cI cM cS cJ aD aK H.size (x2 + 2) d_kind d_figure d_sort d_size d_held d_el g12) gX2_takesLeanTold_X9_twoDigits rfl kdV_X9_twoDigits 0 9 rfl rfl rfl [2, 3] ⟨rfl, rfl⟩ ⟨Nat.le_of_ble_eq_true rfl, Nat.le_of_ble_eq_true rfl⟩ ⟨Nat.zero_le _, Nat.zero_le _⟩ rfl rfl (by decide +kernel) (k_rp rfl (by decide +kernel)) rfl rfl (Nat.le_of_ble_eq_true rfl) dX2_takesLeanTold_12 rfl (fun H locs hP hD hS => ?_)
  refine lv_bipush (v := 45) hx hb dX2_takesLeanTold_15 (by decide) ?_
  refine lv_isub hx hb dX2_takesLeanTold_17 ?_
  refine lv_istore (lv' := [(4, .int (r12 - 45)), (3, .int r4), (0, .ref (aC 0)), (1, .ref (aD 0)), (2, .int x2)]) hx hb dX2_takesLeanTold_18 hl (by decide) rfl (fun ls hl => ?_)
  refine lv_aload_n hx hb dX2_takesLeanTold_20 rfl (lv_at hl 2 rfl) ?_
  refine lv_iload_n hx hb dX2_takesLeanTold_21 rfl (lv_at hl 1 rfl) ?_
  refine k_callV (As := [.int r4]) (rest := []) (st1 := [.int (S_City_has r4 c_men)]) (ws2 := (Wd9 cI aC aD aK c_men c_propped c_place c_swings c_crashes c_day c_crashedToday c_lean d_kind d_figure d_sort d_size d_held d_el)) hx hb hml hown hts hK hN hA hP hD hS hl (c_City_has l D cI cM cS cJ aC aK H.size r4 c_men c_propped c_place c_swings c_crashes c_day c_crashedToday rfl) gX2_takesLeanTold_X2_has rfl kdV_X2_has 0 2 rfl rfl rfl [0] ⟨rfl, rfl⟩ ⟨Nat.le_of_ble_eq_true rfl, Nat.le_of_ble_eq_true rfl⟩ ⟨Nat.zero_le _, Nat.zero_le _⟩ rfl rfl (by decide +kernel) (k_rp rfl (by decide +kernel)) rfl rfl (Nat.le_of_ble_eq_true rfl) dX2_takesLeanTold_22 rfl (fun H locs hP hD hS => ?_)
  refine lv_if_eq (tgt := 35) hx hb dX2_takesLeanTold_25 (by decide) (fun c25 => ?_) (fun c25 => ?_)
  · have h := k_pos c25 h
    refine lv_iconst (v := 0) hx hb dX2_takesLeanTold_35 (by decide) ?_
    cases h
    exact hret _ _ _ _ (k_z01 (fun z => z (Or.inl rfl))) hP hS dX2_takesLeanTold_36
  · have h := k_neg c25 h
    refine lv_iload hx hb dX2_takesLeanTold_28 (lv_at hl 0 rfl) ?_
    refine lv_bipush (v := 45) hx hb dX2_takesLeanTold_30 (by decide) ?_
    refine lv_icmp_le (tgt := 37) hx hb dX2_takesLeanTold_32 (by decide) (fun c32 => ?_) (fun c32 => ?_)
    · have h := k_pos c32 h
      refine lv_aload_n hx hb dX2_takesLeanTold_37 rfl (lv_at hl 2 rfl) ?_
      refine va_get (D := D) (ci := 2) (v := .ref (aC 3)) (C := RX2) (T := TX2) (N := 12) hx hb hts hiX2 hown hK hP 0 rfl rfl 2 (by decide) hf18 (fun _ z => z) rfl dX2_takesLeanTold_38 ?_
      refine lv_iload_n hx hb dX2_takesLeanTold_41 rfl (lv_at hl 1 rfl) ?_
      refine lv_iload hx hb dX2_takesLeanTold_42 (lv_at hl 0 rfl) ?_
      obtain ⟨g44, h⟩ := k_guard h
      refine va_iast hx hb hK hP hD hS 1 0 rfl rfl g44 dX2_takesLeanTold_44 (fun H locs hP hD hS => ?_)
      replace hP : va_P D vwCl (Wd9 cI aC aD aK c_men c_propped c_place c_swings c_crashes c_day c_crashedToday (upd c_lean r4.toNatClampNeg (r12 - 45)) d_kind d_figure d_sort d_size d_held d_el) H := hP
      replace hD : va_D A (Wd9 cI aC aD aK c_men c_propped c_place c_swings c_crashes c_day c_crashedToday (upd c_lean r4.toNatClampNeg (r12 - 45)) d_kind d_figure d_sort d_size d_held d_el) := hD
      refine lv_iconst (v := 1) hx hb dX2_takesLeanTold_45 (by decide) ?_
      cases h
      exact hret _ _ _ _ (k_z01 (fun z => z (Or.inr rfl))) hP hS dX2_takesLeanTold_46
    · have h := k_neg c32 h
      refine lv_iconst (v := 0) hx hb dX2_takesLeanTold_35 (by decide) ?_
      cases h
      exact hret _ _ _ _ (k_z01 (fun z => z (Or.inl rfl))) hP hS dX2_takesLeanTold_36
abbrev Wd10 (cI : ClassId) (aC : Nat → Nat) (aD : Nat → Nat) (aK : Nat → Nat) (c_men : Int32) (c_propped : Int32) (c_place : Int32) (c_swings : Int32) (c_crashes : Int32) (c_day : Int32) (c_crashedToday : Int32) (d_kind : Int32) (d_figure : Int32) (d_sort : Int32) (d_size : Int32) (d_held : Int32) (d_el : Nat → Int32) : va_W := [((aC 0), .inr (2, [.ref (aC 1), .ref (aC 2), .ref (aC 3), .int c_men, .int c_propped, .int c_place, .int c_swings, .int c_crashes, .int c_day, .int c_crashedToday, .ref (aK 8), .ref (aC 4)])), ((aD 0), .inr (9, [.ref (aD 1), .int d_kind, .int d_figure, .int d_sort, .int d_size, .int d_held, .ref (aK 8)])), ((aD 1), .inl (cI, 100, .inl d_el))]
theorem kdV_X2_turnProp : yX2_turnProp.cls = RX2 ∧ yX2_turnProp.cls ≠ "java/lang/invoke/MethodHandle" ∧ yX2_turnProp.cls ≠ "java/lang/invoke/VarHandle" ∧ (parseMethodDescriptor yX2_turnProp.desc).map (fun d => d.parameters.length) = some 1 := by decide +kernel
abbrev rm_X2_takesPropTold : Room := { frames := 2, cells := 0, slots := 0, locals := 42 }
set_option maxHeartbeats 4000000 in
set_option maxRecDepth 100000 in
theorem c_City_takesPropTold (l : Launch) (D : va_G) (cI cM cS cJ : ClassId) (aC : Nat → Nat) (aD : Nat → Nat) (aK : Nat → Nat) (sz : Nat) (x2 : Int32) (c_men : Int32) (c_propped : Int32) (c_place : Int32) (c_swings : Int32) (c_crashes : Int32) (c_day : Int32) (c_crashedToday : Int32) (d_kind : Int32) (d_figure : Int32) (d_sort : Int32) (d_size : Int32) (d_held : Int32) (d_el : Nat → Int32) {o : (Int32) × (Int32)} (hsem : S_City_takesPropTold x2 c_men c_propped d_size d_el = some o) : kMet l yX2_takesPropTold wsX2_takesPropTold rm_X2_takesPropTold [.ref (aC 0), .ref (aD 0), .int x2] D (kT cI cM cS cJ) (Wd10 cI aC aD aK c_men c_propped c_place c_swings c_crashes c_day c_crashedToday d_kind d_figure d_sort d_size d_held d_el) sz (some (.int o.1)) (Wd10 cI aC aD aK c_men o.2 c_place c_swings c_crashes c_day c_crashedToday d_kind d_figure d_sort d_size d_held d_el) := by
  refine k_metZ (by decide) rfl rfl (Nat.le_of_ble_eq_true rfl) ?_
  intro p e s m below meth c ls Q A hx hb hml hts hown hK hN hA hP hD hS hl hsz hnm hret
  have hown : s.vm.findClass RX2 = some m.cls := hown
  replace hl : lv_has ls 4 [(0, .ref (aC 0)), (1, .ref (aD 0)), (2, .int x2)] := hl
  have h := hsem
  clear hsem
  rw [S_City_takesPropTold] at h
  refine lv_aload_n hx hb dX2_takesPropTold_0 rfl (lv_at hl 1 rfl) ?_
  refine lv_iload_n hx hb dX2_takesPropTold_1 rfl (lv_at hl 2 rfl) ?_
  refine lv_iconst (v := 1) hx hb dX2_takesPropTold_2 (by decide) ?_
  refine lv_iadd hx hb dX2_takesPropTold_3 ?_
  obtain ⟨r4, g4, h⟩ := k_bind h
  refine k_callV (As := [.int (x2 + 1)]) (rest := []) (st1 := [.int r4]) (ws2 := (Wd10 cI aC aD aK c_men c_propped c_place c_swings c_crashes c_day c_crashedToday d_kind d_figure d_sort d_size d_held d_el)) hx hb hml hown hts hK hN hA hP hD hS hl (c_Shelf_digit l D cI cM cS cJ aD aK s.heap.size (x2 + 1) d_kind d_figure d_sort d_size d_held d_el g4) gX2_takesPropTold_X9_digit rfl kdV_X9_digit 0 9 rfl rfl rfl [1, 2] ⟨rfl, rfl⟩ ⟨Nat.le_of_ble_eq_true rfl, Nat.le_of_ble_eq_true rfl⟩ ⟨Nat.zero_le _, Nat.zero_le _⟩ rfl rfl (by decide +kernel) (k_rp rfl (by decide +kernel)) rfl rfl (Nat.le_of_ble_eq_true rfl) dX2_takesPropTold_4 rfl (fun H locs hP hD hS => ?_)
  refine lv_istore_n (lv' := [(3, .int r4), (0, .ref (aC 0)), (1, .ref (aD 0)), (2, .int x2)]) hx hb dX2_takesPropTold_7 rfl hl (by decide) rfl (fun ls hl => ?_)
  refine lv_aload_n hx hb dX2_takesPropTold_8 rfl (lv_at hl 1 rfl) ?_
  refine lv_iload_n hx hb dX2_takesPropTold_9 rfl (lv_at hl 0 rfl) ?_
  refine k_callV (As := [.int r4]) (rest := []) (st1 := [.int (S_City_has r4 c_men)]) (ws2 := (Wd10 cI aC aD aK c_men c_propped c_place c_swings c_crashes c_day c_crashedToday d_kind d_figure d_sort d_size d_held d_el)) hx hb hml hown hts hK hN hA hP hD hS hl (c_City_has l D cI cM cS cJ aC aK H.size r4 c_men c_propped c_place c_swings c_crashes c_day c_crashedToday rfl) gX2_takesPropTold_X2_has rfl kdV_X2_has 0 2 rfl rfl rfl [0] ⟨rfl, rfl⟩ ⟨Nat.le_of_ble_eq_true rfl, Nat.le_of_ble_eq_true rfl⟩ ⟨Nat.zero_le _, Nat.zero_le _⟩ rfl rfl (by decide +kernel) (k_rp rfl (by decide +kernel)) rfl rfl (Nat.le_of_ble_eq_true rfl) dX2_takesPropTold_10 rfl (fun H locs hP hD hS => ?_)
  refine lv_if_ne (tgt := 18) hx hb dX2_takesPropTold_13 (by decide) (fun c13 => ?_) (fun c13 => ?_)
  · have h := k_neg c13 h
    refine lv_aload_n hx hb dX2_takesPropTold_18 rfl (lv_at hl 1 rfl) ?_
    refine lv_iload_n hx hb dX2_takesPropTold_19 rfl (lv_at hl 0 rfl) ?_
    refine k_callV (As := [.int r4]) (rest := []) (st1 := []) (ws2 := (Wd10 cI aC aD aK c_men (S_City_turnProp r4 c_propped) c_place c_swings c_crashes c_day c_crashedToday d_kind d_figure d_sort d_size d_held d_el)) hx hb hml hown hts hK hN hA hP hD hS hl (c_City_turnProp l D cI cM cS cJ aC aK H.size r4 c_men c_propped c_place c_swings c_crashes c_day c_crashedToday rfl) gX2_takesPropTold_X2_turnProp rfl kdV_X2_turnProp 0 2 rfl rfl rfl [0] ⟨rfl, rfl⟩ ⟨Nat.le_of_ble_eq_true rfl, Nat.le_of_ble_eq_true rfl⟩ ⟨Nat.zero_le _, Nat.zero_le _⟩ rfl rfl (by decide +kernel) (k_rp rfl (by decide +kernel)) rfl rfl (Nat.le_of_ble_eq_true rfl) dX2_takesPropTold_20 rfl (fun H locs hP hD hS => ?_)
    refine lv_iconst (v := 1) hx hb dX2_takesPropTold_23 (by decide) ?_
    cases h
    exact hret _ _ _ _ (k_z01 (fun z => z (Or.inr rfl))) hP hS dX2_takesPropTold_24
  · have h := k_pos c13 h
    refine lv_iconst (v := 0) hx hb dX2_takesPropTold_16 (by decide) ?_
    cases h
    exact hret _ _ _ _ (k_z01 (fun z => z (Or.inl rfl))) hP hS dX2_takesPropTold_17
abbrev rm_X2_takesLeadTold : Room := { frames := 2, cells := 0, slots := 0, locals := 42 }
set_option maxHeartbeats 4000000 in
set_option maxRecDepth 100000 in
theorem c_City_takesLeadTold (l : Launch) (D : va_G) (cI cM cS cJ : ClassId) (aC : Nat → Nat) (aD : Nat → Nat) (aK : Nat → Nat) (sz : Nat) (x2 : Int32) (c_men : Int32) (c_propped : Int32) (c_place : Int32) (c_swings : Int32) (c_crashes : Int32) (c_day : Int32) (c_crashedToday : Int32) (d_kind : Int32) (d_figure : Int32) (d_sort : Int32) (d_size : Int32) (d_held : Int32) (d_el : Nat → Int32) {o : (Int32) × (Int32) × (Int32)} (hsem : S_City_takesLeadTold x2 c_place c_swings d_size d_el = some o) : kMet l yX2_takesLeadTold wsX2_takesLeadTold rm_X2_takesLeadTold [.ref (aC 0), .ref (aD 0), .int x2] D (kT cI cM cS cJ) (Wd10 cI aC aD aK c_men c_propped c_place c_swings c_crashes c_day c_crashedToday d_kind d_figure d_sort d_size d_held d_el) sz (some (.int o.1)) (Wd10 cI aC aD aK c_men c_propped o.2.1 o.2.2 c_crashes c_day c_crashedToday d_kind d_figure d_sort d_size d_held d_el) := by
  refine k_metZ (by decide) rfl rfl (Nat.le_of_ble_eq_true rfl) ?_
  intro p e s m below meth c ls Q A hx hb hml hts hown hK hN hA hP hD hS hl hsz hnm hret
  have hown : s.vm.findClass RX2 = some m.cls := hown
  have hf44 := hts (.fieldLink RX2 44 "PlumbLine$City" "swings" "I") (List.mem_of_getElem? (i := 1) rfl)
  have hf41 := hts (.fieldLink RX2 41 "PlumbLine$City" "place" "I") (List.mem_of_getElem? (i := 2) rfl)
  have hiX2 : ∀ w ∈ u_ws RX2 TX2 12, w ∈ wsX2_takesLeadTold := fun w h => List.mem_cons_of_mem _ (List.mem_append_left _ (List.mem_append_right _ h))
  replace hl : lv_has ls 4 [(0, .ref (aC 0)), (1, .ref (aD 0)), (2, .int x2)] := hl
  have h := hsem
  clear hsem
  rw [S_City_takesLeadTold] at h
  refine lv_aload_n hx hb dX2_takesLeadTold_0 rfl (lv_at hl 1 rfl) ?_
  refine lv_iload_n hx hb dX2_takesLeadTold_1 rfl (lv_at hl 2 rfl) ?_
  refine lv_iconst (v := 2) hx hb dX2_takesLeadTold_2 (by decide) ?_
  refine lv_iadd hx hb dX2_takesLeadTold_3 ?_
  obtain ⟨r4, g4, h⟩ := k_bind h
  refine k_callV (As := [.int (x2 + 2)]) (rest := []) (st1 := [.int r4]) (ws2 := (Wd10 cI aC aD aK c_men c_propped c_place c_swings c_crashes c_day c_crashedToday d_kind d_figure d_sort d_size d_held d_el)) hx hb hml hown hts hK hN hA hP hD hS hl (c_Shelf_digit l D cI cM cS cJ aD aK s.heap.size (x2 + 2) d_kind d_figure d_sort d_size d_held d_el g4) gX2_takesLeadTold_X9_digit rfl kdV_X9_digit 0 9 rfl rfl rfl [1, 2] ⟨rfl, rfl⟩ ⟨Nat.le_of_ble_eq_true rfl, Nat.le_of_ble_eq_true rfl⟩ ⟨Nat.zero_le _, Nat.zero_le _⟩ rfl rfl (by decide +kernel) (k_rp rfl (by decide +kernel)) rfl rfl (Nat.le_of_ble_eq_true rfl) dX2_takesLeadTold_4 rfl (fun H locs hP hD hS => ?_)
  refine lv_istore_n (lv' := [(3, .int r4), (0, .ref (aC 0)), (1, .ref (aD 0)), (2, .int x2)]) hx hb dX2_takesLeadTold_7 rfl hl (by decide) rfl (fun ls hl => ?_)
  refine lv_iload_n hx hb dX2_takesLeadTold_8 rfl (lv_at hl 0 rfl) ?_
  refine lv_bipush (v := 8) hx hb dX2_takesLeadTold_9 (by decide) ?_
  refine lv_icmp_lt (tgt := 16) hx hb dX2_takesLeadTold_11 (by decide) (fun c11 => ?_) (fun c11 => ?_)
  · have h := k_pos c11 h
    refine lv_aload_n hx hb dX2_takesLeadTold_16 rfl (lv_at hl 1 rfl) ?_
    refine lv_aload_n hx hb dX2_takesLeadTold_17 rfl (lv_at hl 2 rfl) ?_
    refine lv_iload_n hx hb dX2_takesLeadTold_18 rfl (lv_at hl 3 rfl) ?_
    refine lv_iconst (v := 1) hx hb dX2_takesLeadTold_19 (by decide) ?_
    refine lv_iadd hx hb dX2_takesLeadTold_20 ?_
    obtain ⟨r21, g21, h⟩ := k_bind h
    refine k_callV (As := [.int (x2 + 1)]) (rest := [.ref (aC 0)]) (st1 := [.int r21, .ref (aC 0)]) (ws2 := (Wd10 cI aC aD aK c_men c_propped c_place c_swings c_crashes c_day c_crashedToday d_kind d_figure d_sort d_size d_held d_el)) hx hb hml hown hts hK hN hA hP hD hS hl (c_Shelf_digit l D cI cM cS cJ aD aK H.size (x2 + 1) d_kind d_figure d_sort d_size d_held d_el g21) gX2_takesLeadTold_X9_digit rfl kdV_X9_digit 0 9 rfl rfl rfl [1, 2] ⟨rfl, rfl⟩ ⟨Nat.le_of_ble_eq_true rfl, Nat.le_of_ble_eq_true rfl⟩ ⟨Nat.zero_le _, Nat.zero_le _⟩ rfl rfl (by decide +kernel) (k_rp rfl (by decide +kernel)) rfl rfl (Nat.le_of_ble_eq_true rfl) dX2_takesLeadTold_21 rfl (fun H locs hP hD hS => ?_)
    refine va_put (D := D) (ci := 2) (v := .int r21) (ty := .int) (C := RX2) (T := TX2) (N := 12) hx hb hts hiX2 tyX2 tyX2_ok nmX2 hown hK hP hD hS 0 rfl rfl 6 (by decide) hf44 (fun _ z => z) rfl (by decide +kernel) rfl rfl (Nat.le_of_ble_eq_true rfl) dX2_takesLeadTold_24 (fun H locs hP hD hS => ?_)
    replace hP : va_P D vwCl (Wd10 cI aC aD aK c_men c_propped c_place r21 c_crashes c_day c_crashedToday d_kind d_figure d_sort d_size d_held d_el) H := hP
    replace hD : va_D A (Wd10 cI aC aD aK c_men c_propped c_place r21 c_crashes c_day c_crashedToday d_kind d_figure d_sort d_size d_held d_el) := hD
    refine lv_aload_n hx hb dX2_takesLeadTold_27 rfl (lv_at hl 1 rfl) ?_
    refine lv_iload_n hx hb dX2_takesLeadTold_28 rfl (lv_at hl 0 rfl) ?_
    refine va_put (D := D) (ci := 2) (v := .int r4) (ty := .int) (C := RX2) (T := TX2) (N := 12) hx hb hts hiX2 tyX2 tyX2_ok nmX2 hown hK hP hD hS 0 rfl rfl 5 (by decide) hf41 (fun _ z => z) rfl (by decide +kernel) rfl rfl (Nat.le_of_ble_eq_true rfl) dX2_takesLeadTold_29 (fun H locs hP hD hS => ?_)
    replace hP : va_P D vwCl (Wd10 cI aC aD aK c_men c_propped r4 r21 c_crashes c_day c_crashedToday d_kind d_figure d_sort d_size d_held d_el) H := hP
    replace hD : va_D A (Wd10 cI aC aD aK c_men c_propped r4 r21 c_crashes c_day c_crashedToday d_kind d_figure d_sort d_size d_held d_el) := hD
    refine lv_iconst (v := 1) hx hb dX2_takesLeadTold_32 (by decide) ?_
    cases h
    exact hret _ _ _ _ (k_z01 (fun z => z (Or.inr rfl))) hP hS dX2_takesLeadTold_33
  · have h := k_neg c11 h
    refine lv_iconst (v := 0) hx hb dX2_takesLeadTold_14 (by decide) ?_
    cases h
    exact hret _ _ _ _ (k_z01 (fun z => z (Or.inl rfl))) hP hS dX2_takesLeadTold_15
abbrev Wd11 (cI : ClassId) (aC : Nat → Nat) (aK : Nat → Nat) (c_men : Int32) (c_propped : Int32) (c_place : Int32) (c_swings : Int32) (c_crashes : Int32) (c_day : Int32) (c_crashedToday : Int32) (c_lean : Nat → Int32) : va_W := [((aC 0), .inr (2, [.ref (aC 1), .ref (aC 2), .ref (aC 3), .int c_men, .int c_propped, .int c_place, .int c_swings, .int c_crashes, .int c_day, .int c_crashedToday, .ref (aK 8), .ref (aC 4)])), ((aC 3), .inl (cI, 8, .inl c_lean))]
abbrev rm_X2_sumOfLeans : Room := { frames := 0, cells := 0, slots := 0, locals := 0 }
set_option maxHeartbeats 4000000 in
set_option maxRecDepth 100000 in
theorem c_City_sumOfLeans (l : Launch) (D : va_G) (cI cM cS cJ : ClassId) (aC : Nat → Nat) (aK : Nat → Nat) (sz : Nat) (c_men : Int32) (c_propped : Int32) (c_place : Int32) (c_swings : Int32) (c_crashes : Int32) (c_day : Int32) (c_crashedToday : Int32) (c_lean : Nat → Int32) {o : (Int32)} (hsem : S_City_sumOfLeans c_men c_lean = some o) : kMet l yX2_sumOfLeans wsX2_sumOfLeans rm_X2_sumOfLeans [.ref (aC 0)] D (kT cI cM cS cJ) (Wd11 cI aC aK c_men c_propped c_place c_swings c_crashes c_day c_crashedToday c_lean) sz (some (.int o)) (Wd11 cI aC aK c_men c_propped c_place c_swings c_crashes c_day c_crashedToday c_lean) := by
  refine k_metI (by decide) rfl rfl (Nat.le_of_ble_eq_true rfl) ?_
  intro p e s m below meth c ls Q A hx hb hml hts hown hK hN hA hP hD hS hl hsz hnm hret
  have hown : s.vm.findClass RX2 = some m.cls := hown
  have hf34 := hts (.fieldLink RX2 34 "PlumbLine$City" "men" "I") (List.mem_of_getElem? (i := 1) rfl)
  have hf18 := hts (.fieldLink RX2 18 "PlumbLine$City" "lean" "[I") (List.mem_of_getElem? (i := 2) rfl)
  have hiX2 : ∀ w ∈ u_ws RX2 TX2 12, w ∈ wsX2_sumOfLeans := fun w h => List.mem_cons_of_mem _ (List.mem_append_right _ h)
  replace hl : lv_has ls 3 [(0, .ref (aC 0))] := hl
  have h := hsem
  clear hsem
  rw [S_City_sumOfLeans] at h
  refine lv_iconst (v := 0) hx hb dX2_sumOfLeans_0 (by decide) ?_
  refine lv_istore_n (lv' := [(1, .int 0), (0, .ref (aC 0))]) hx hb dX2_sumOfLeans_1 rfl hl (by decide) rfl (fun ls hl => ?_)
  refine lv_iconst (v := 0) hx hb dX2_sumOfLeans_2 (by decide) ?_
  have B4 : ∀ (n4 : Nat) (y1 : Int32) (y2 : Int32) (H : Heap) (locs : List Loc) (ls : Array Slot), va_P D vwCl (Wd11 cI aC aK c_men c_propped c_place c_swings c_crashes c_day c_crashedToday c_lean) H → va_D A (Wd11 cI aC aK c_men c_propped c_place c_swings c_crashes c_day c_crashedToday c_lean) → va_S A s.heap H locs → lv_has ls 3 [(0, .ref (aC 0)), (1, .int y1), (2, .int y2)] → S_City_sumOfLeans_L4 c_men c_lean n4 y1 y2 = some o → W p l e rm_X2_sumOfLeans s m ([.ref (aC 0)] : List Value).toArray below meth c H locs 0 0 Q (F0 m 4 ls []) := by
    intro n4
    induction n4 with
    | zero => intro y1 y2 H locs ls hP hD hS hl h; exact absurd h (by simp [S_City_sumOfLeans_L4])
    | succ n4 ih4 =>
      intro y1 y2 H locs ls hP hD hS hl h
      rw [S_City_sumOfLeans_L4] at h
      refine lv_iload_n hx hb dX2_sumOfLeans_4 rfl (lv_at hl 2 rfl) ?_
      refine lv_aload_n hx hb dX2_sumOfLeans_5 rfl (lv_at hl 0 rfl) ?_
      refine va_get (D := D) (ci := 2) (v := .int c_men) (C := RX2) (T := TX2) (N := 12) hx hb hts hiX2 hown hK hP 0 rfl rfl 3 (by decide) hf34 (fun _ z => z) rfl dX2_sumOfLeans_6 ?_
      refine lv_icmp_ge (tgt := 27) hx hb dX2_sumOfLeans_9 (by decide) (fun c9 => ?_) (fun c9 => ?_)
      · have h := k_pos c9 h
        refine lv_iload_n hx hb dX2_sumOfLeans_27 rfl (lv_at hl 1 rfl) ?_
        cases h
        exact hret _ _ _ _ hP hS dX2_sumOfLeans_28
      · have h := k_neg c9 h
        refine lv_iload_n hx hb dX2_sumOfLeans_12 rfl (lv_at hl 1 rfl) ?_
        refine lv_aload_n hx hb dX2_sumOfLeans_13 rfl (lv_at hl 0 rfl) ?_
        refine va_get (D := D) (ci := 2) (v := .ref (aC 3)) (C := RX2) (T := TX2) (N := 12) hx hb hts hiX2 hown hK hP 0 rfl rfl 2 (by decide) hf18 (fun _ z => z) rfl dX2_sumOfLeans_14 ?_
        refine lv_iload_n hx hb dX2_sumOfLeans_17 rfl (lv_at hl 2 rfl) ?_
        obtain ⟨g18, h⟩ := k_guard h
        refine va_iald hx hb hK hP 1 0 rfl rfl g18 dX2_sumOfLeans_18 ?_
        refine lv_iadd hx hb dX2_sumOfLeans_19 ?_
        refine lv_istore_n (lv' := [(1, .int (y1 + (c_lean y2.toNatClampNeg))), (0, .ref (aC 0)), (2, .int y2)]) hx hb dX2_sumOfLeans_20 rfl hl (by decide) rfl (fun ls hl => ?_)
        refine lv_iinc (v := (y2 + 1)) (lv' := [(2, .int (y2 + 1)), (1, .int (y1 + (c_lean y2.toNatClampNeg))), (0, .ref (aC 0))]) hx hb dX2_sumOfLeans_21 hl (k := 2) rfl (by first | rfl | decide) (by decide) rfl (fun ls hl => ?_)
        refine lv_goto (tgt := 4) hx hb dX2_sumOfLeans_24 (by decide) ?_
        exact ih4 (y1 + (c_lean y2.toNatClampNeg)) (y2 + 1) H locs ls hP hD hS (lv_sub hl [2, 1, 0] rfl) h
  refine lv_istore_n (lv' := [(2, .int 0), (1, .int 0), (0, .ref (aC 0))]) hx hb dX2_sumOfLeans_3 rfl hl (by decide) rfl (fun ls hl => ?_)
  exact B4 lfu 0 0 s.heap [] ls hP hD hS (lv_sub hl [2, 1, 0] rfl) h
abbrev Wd12 (cI : ClassId) (cM : ClassId) (aC : Nat → Nat) (aK : Nat → Nat) (c_men : Int32) (c_propped : Int32) (c_place : Int32) (c_swings : Int32) (c_crashes : Int32) (c_day : Int32) (c_crashedToday : Int32) (c_kind : Nat → Int32) (c_figure : Nat → Int32) (c_lean : Nat → Int32) : va_W := [((aC 0), .inr (2, [.ref (aC 1), .ref (aC 2), .ref (aC 3), .int c_men, .int c_propped, .int c_place, .int c_swings, .int c_crashes, .int c_day, .int c_crashedToday, .ref (aK 8), .ref (aC 4)])), ((aC 1), .inl (cI, 8, .inl c_kind)), ((aC 2), .inl (cI, 8, .inl c_figure)), ((aC 3), .inl (cI, 8, .inl c_lean)), ((aK 8), .inl (cM, 8, .inr (.inr (.inr (.inr (fun k => some (aK k))))))), ((aK 0), .inr (4, [])), ((aK 1), .inr (0, [])), ((aK 2), .inr (7, [])), ((aK 3), .inr (3, [])), ((aK 4), .inr (1, [])), ((aK 5), .inr (8, [])), ((aK 6), .inr (10, [])), ((aK 7), .inr (6, []))]
theorem kdV_X4_uprightWithin : yX4_uprightWithin.cls = RX4 ∧ yX4_uprightWithin.cls ≠ "java/lang/invoke/MethodHandle" ∧ yX4_uprightWithin.cls ≠ "java/lang/invoke/VarHandle" ∧ (parseMethodDescriptor yX4_uprightWithin.desc).map (fun d => d.parameters.length) = some 1 := by decide +kernel
theorem kdM_uprightWithin : "PlumbLine$Man" ≠ "java/lang/invoke/MethodHandle" ∧ "PlumbLine$Man" ≠ "java/lang/invoke/VarHandle" ∧ (parseMethodDescriptor "(I)I").map (fun d => d.parameters.length) = some 1 := by decide +kernel
abbrev rm_X2_upright : Room := { frames := 2, cells := 0, slots := 0, locals := 42 }
set_option maxHeartbeats 4000000 in
set_option maxRecDepth 100000 in
theorem c_City_upright (l : Launch) (D : va_G) (cI cM cS cJ : ClassId) (aC : Nat → Nat) (aK : Nat → Nat) (sz : Nat) (c_men : Int32) (c_propped : Int32) (c_place : Int32) (c_swings : Int32) (c_crashes : Int32) (c_day : Int32) (c_crashedToday : Int32) (c_kind : Nat → Int32) (c_figure : Nat → Int32) (c_lean : Nat → Int32) {o : (Int32)} (hsem : S_City_upright c_men c_kind c_figure c_lean = some o) : kMet l yX2_upright wsX2_upright rm_X2_upright [.ref (aC 0)] D (kT cI cM cS cJ) (Wd12 cI cM aC aK c_men c_propped c_place c_swings c_crashes c_day c_crashedToday c_kind c_figure c_lean) sz (some (.int o)) (Wd12 cI cM aC aK c_men c_propped c_place c_swings c_crashes c_day c_crashedToday c_kind c_figure c_lean) := by
  refine k_metI (by decide) rfl rfl (Nat.le_of_ble_eq_true rfl) ?_
  intro p e s m below meth c ls Q A hx hb hml hts hown hK hN hA hP hD hS hl hsz hnm hret
  have hown : s.vm.findClass RX2 = some m.cls := hown
  have hf34 := hts (.fieldLink RX2 34 "PlumbLine$City" "men" "I") (List.mem_of_getElem? (i := 1) rfl)
  have hf18 := hts (.fieldLink RX2 18 "PlumbLine$City" "lean" "[I") (List.mem_of_getElem? (i := 2) rfl)
  have hf24 := hts (.fieldLink RX2 24 "PlumbLine$City" "kinds" "[LPlumbLine$Man;") (List.mem_of_getElem? (i := 7) rfl)
  have hf9 := hts (.fieldLink RX2 9 "PlumbLine$City" "kind" "[I") (List.mem_of_getElem? (i := 8) rfl)
  have hf15 := hts (.fieldLink RX2 15 "PlumbLine$City" "figure" "[I") (List.mem_of_getElem? (i := 9) rfl)
  have hiX2 : ∀ w ∈ u_ws RX2 TX2 12, w ∈ wsX2_upright := fun w h => List.mem_cons_of_mem _ (List.mem_append_right _ h)
  replace hl : lv_has ls 3 [(0, .ref (aC 0))] := hl
  have h := hsem
  clear hsem
  rw [S_City_upright] at h
  refine lv_iconst (v := 0) hx hb dX2_upright_0 (by decide) ?_
  refine lv_istore_n (lv' := [(1, .int 0), (0, .ref (aC 0))]) hx hb dX2_upright_1 rfl hl (by decide) rfl (fun ls hl => ?_)
  refine lv_iconst (v := 0) hx hb dX2_upright_2 (by decide) ?_
  have B4 : ∀ (n4 : Nat) (y1 : Int32) (y2 : Int32) (H : Heap) (locs : List Loc) (ls : Array Slot), va_P D vwCl (Wd12 cI cM aC aK c_men c_propped c_place c_swings c_crashes c_day c_crashedToday c_kind c_figure c_lean) H → va_D A (Wd12 cI cM aC aK c_men c_propped c_place c_swings c_crashes c_day c_crashedToday c_kind c_figure c_lean) → va_S A s.heap H locs → lv_has ls 3 [(0, .ref (aC 0)), (1, .int y1), (2, .int y2)] → S_City_upright_L4 c_men c_kind c_figure c_lean n4 y1 y2 = some o → W p l e rm_X2_upright s m ([.ref (aC 0)] : List Value).toArray below meth c H locs 0 0 Q (F0 m 4 ls []) := by
    intro n4
    induction n4 with
    | zero => intro y1 y2 H locs ls hP hD hS hl h; exact absurd h (by simp [S_City_upright_L4])
    | succ n4 ih4 =>
      intro y1 y2 H locs ls hP hD hS hl h
      rw [S_City_upright_L4] at h
      refine lv_iload_n hx hb dX2_upright_4 rfl (lv_at hl 2 rfl) ?_
      refine lv_aload_n hx hb dX2_upright_5 rfl (lv_at hl 0 rfl) ?_
      refine va_get (D := D) (ci := 2) (v := .int c_men) (C := RX2) (T := TX2) (N := 12) hx hb hts hiX2 hown hK hP 0 rfl rfl 3 (by decide) hf34 (fun _ z => z) rfl dX2_upright_6 ?_
      refine lv_icmp_ge (tgt := 56) hx hb dX2_upright_9 (by decide) (fun c9 => ?_) (fun c9 => ?_)
      · have h := k_pos c9 h
        refine lv_iload_n hx hb dX2_upright_56 rfl (lv_at hl 1 rfl) ?_
        cases h
        exact hret _ _ _ _ hP hS dX2_upright_57
      · have h := k_neg c9 h
        refine lv_aload_n hx hb dX2_upright_12 rfl (lv_at hl 0 rfl) ?_
        refine va_get (D := D) (ci := 2) (v := .ref (aC 3)) (C := RX2) (T := TX2) (N := 12) hx hb hts hiX2 hown hK hP 0 rfl rfl 2 (by decide) hf18 (fun _ z => z) rfl dX2_upright_13 ?_
        refine lv_iload_n hx hb dX2_upright_16 rfl (lv_at hl 2 rfl) ?_
        obtain ⟨g17, h⟩ := k_guard h
        refine va_iald hx hb hK hP 3 0 rfl rfl g17 dX2_upright_17 ?_
        refine k_mabs (own := RX2) (index := 149) hx hb (hml.trans hl.1.symm) hown (hts _ (List.mem_of_getElem? (i := 3) rfl)) (hts _ (List.mem_of_getElem? (i := 4) rfl)) (hts _ (List.mem_of_getElem? (i := 5) rfl)) (hts _ (List.mem_of_getElem? (i := 6) rfl)) (Nat.le_of_ble_eq_true rfl) (Nat.le_of_ble_eq_true rfl) (Nat.zero_le _) (Nat.zero_le _) dX2_upright_18 ?_
        refine lv_aload_n hx hb dX2_upright_21 rfl (lv_at hl 0 rfl) ?_
        refine va_get (D := D) (ci := 2) (v := .ref (aK 8)) (C := RX2) (T := TX2) (N := 12) hx hb hts hiX2 hown hK hP 0 rfl rfl 10 (by decide) hf24 (fun _ z => z) rfl dX2_upright_22 ?_
        refine lv_aload_n hx hb dX2_upright_25 rfl (lv_at hl 0 rfl) ?_
        refine va_get (D := D) (ci := 2) (v := .ref (aC 1)) (C := RX2) (T := TX2) (N := 12) hx hb hts hiX2 hown hK hP 0 rfl rfl 0 (by decide) hf9 (fun _ z => z) rfl dX2_upright_26 ?_
        refine lv_iload_n hx hb dX2_upright_29 rfl (lv_at hl 2 rfl) ?_
        refine va_iald hx hb hK hP 1 0 rfl rfl g17 dX2_upright_30 ?_
        obtain ⟨g31, h⟩ := k_guard h
        refine k_aldR (f := aK) hx hb hK hP 4 1 rfl rfl g31 dX2_upright_31 ?_
        refine lv_aload_n hx hb dX2_upright_32 rfl (lv_at hl 0 rfl) ?_
        refine va_get (D := D) (ci := 2) (v := .ref (aC 2)) (C := RX2) (T := TX2) (N := 12) hx hb hts hiX2 hown hK hP 0 rfl rfl 1 (by decide) hf15 (fun _ z => z) rfl dX2_upright_33 ?_
        refine lv_iload_n hx hb dX2_upright_36 rfl (lv_at hl 2 rfl) ?_
        refine va_iald hx hb hK hP 2 0 rfl rfl g17 dX2_upright_37 ?_
        have V38 : ∀ (H : Heap) (locs : List Loc), va_P D vwCl (Wd12 cI cM aC aK c_men c_propped c_place c_swings c_crashes c_day c_crashedToday c_kind c_figure c_lean) H → va_D A (Wd12 cI cM aC aK c_men c_propped c_place c_swings c_crashes c_day c_crashedToday c_kind c_figure c_lean) → va_S A s.heap H locs → W p l e rm_X2_upright s m ([.ref (aC 0)] : List Value).toArray below meth c H locs 0 0 Q (F0 m 41 ls [.int (V_uprightWithin (c_kind y2.toNatClampNeg).toNatClampNeg (c_figure y2.toNatClampNeg)), .int (jabs (c_lean y2.toNatClampNeg))]) := by
          intro H locs hP hD hS
          refine lv_icmp_gt (tgt := 50) hx hb dX2_upright_41 (by decide) (fun c41 => ?_) (fun c41 => ?_)
          · have h := k_pos c41 h
            refine lv_iinc (v := (y2 + 1)) (lv' := [(2, .int (y2 + 1)), (0, .ref (aC 0)), (1, .int y1)]) hx hb dX2_upright_50 hl (k := 2) rfl (by first | rfl | decide) (by decide) rfl (fun ls hl => ?_)
            refine lv_goto (tgt := 4) hx hb dX2_upright_53 (by decide) ?_
            exact ih4 y1 (y2 + 1) H locs ls hP hD hS (lv_sub hl [1, 2, 0] rfl) h
          · have h := k_neg c41 h
            refine lv_iload_n hx hb dX2_upright_44 rfl (lv_at hl 1 rfl) ?_
            refine lv_iconst (v := 1) hx hb dX2_upright_45 (by decide) ?_
            refine lv_iload_n hx hb dX2_upright_46 rfl (lv_at hl 2 rfl) ?_
            refine lv_ishl hx hb dX2_upright_47 ?_
            refine lv_ior hx hb dX2_upright_48 ?_
            refine lv_istore_n (lv' := [(1, .int (y1 ||| ((1 : Int32) <<< (y2 &&& 31)))), (0, .ref (aC 0)), (2, .int y2)]) hx hb dX2_upright_49 rfl hl (by decide) rfl (fun ls hl => ?_)
            refine lv_iinc (v := (y2 + 1)) (lv' := [(2, .int (y2 + 1)), (1, .int (y1 ||| ((1 : Int32) <<< (y2 &&& 31)))), (0, .ref (aC 0))]) hx hb dX2_upright_50 hl (k := 2) rfl (by first | rfl | decide) (by decide) rfl (fun ls hl => ?_)
            refine lv_goto (tgt := 4) hx hb dX2_upright_53 (by decide) ?_
            exact ih4 (y1 ||| ((1 : Int32) <<< (y2 &&& 31))) (y2 + 1) H locs ls hP hD hS (lv_sub hl [2, 1, 0] rfl) h
        generalize hk38 : (c_kind y2.toNatClampNeg).toNatClampNeg = k38 at V38 ⊢
        have hb38 : k38 < 8 := by rw [← hk38]; exact Nat.not_le.mp (fun z => g31 (Or.inr z))
        rcases k_8 hb38 with e | e | e | e | e | e | e | e <;> subst e
        · exact k_callV (As := [.int (c_figure y2.toNatClampNeg)]) (rest := [.int (jabs (c_lean y2.toNatClampNeg))]) (st1 := [.int (S_Man_uprightWithin (c_figure y2.toNatClampNeg)), .int (jabs (c_lean y2.toNatClampNeg))]) hx hb hml hown hts hK hN hA hP hD hS hl (c_Man_uprightWithin l D cI cM cS cJ (aK 0) 4 H.size (c_figure y2.toNatClampNeg) rfl) gX2_upright_X4_uprightWithin rfl kdV_X4_uprightWithin 0 4 rfl rfl rfl [5] ⟨rfl, rfl⟩ ⟨Nat.le_of_ble_eq_true rfl, Nat.le_of_ble_eq_true rfl⟩ ⟨Nat.zero_le _, Nat.zero_le _⟩ rfl rfl (by decide +kernel) (k_rp rfl (by decide +kernel)) rfl rfl (Nat.le_of_ble_eq_true rfl) dX2_upright_38 rfl V38
        · exact k_callU (wy' := []) (As := [.int (c_figure y2.toNatClampNeg)]) (rest := [.int (jabs (c_lean y2.toNatClampNeg))]) (st1 := [.int (S_Banker_uprightWithin (c_figure y2.toNatClampNeg)), .int (jabs (c_lean y2.toNatClampNeg))]) hx hb hml hown hts hK hN hA hP hD hS hl (c_Banker_uprightWithin l D cI cM cS cJ (aK 1) 0 H.size (c_figure y2.toNatClampNeg) rfl) (va_cwO 1 hts gX2_upright_X0_uprightWithin_u159X0 rfl rfl rfl (List.mem_of_getElem? (i := 17) rfl) kdM_uprightWithin ⟨Nat.le_of_ble_eq_true rfl, Nat.le_of_ble_eq_true rfl⟩) 0 0 rfl rfl rfl [6] ⟨Nat.zero_le _, Nat.zero_le _⟩ rfl rfl (by decide +kernel) (k_rp rfl (by decide +kernel)) rfl rfl (Nat.le_of_ble_eq_true rfl) dX2_upright_38 rfl V38
        · exact k_callU (wy' := []) (As := [.int (c_figure y2.toNatClampNeg)]) (rest := [.int (jabs (c_lean y2.toNatClampNeg))]) (st1 := [.int (S_Quaker_uprightWithin (c_figure y2.toNatClampNeg)), .int (jabs (c_lean y2.toNatClampNeg))]) hx hb hml hown hts hK hN hA hP hD hS hl (c_Quaker_uprightWithin l D cI cM cS cJ (aK 2) 7 H.size (c_figure y2.toNatClampNeg) rfl) (va_cwO 1 hts gX2_upright_X7_uprightWithin_u159X7 rfl rfl rfl (List.mem_of_getElem? (i := 17) rfl) kdM_uprightWithin ⟨Nat.le_of_ble_eq_true rfl, Nat.le_of_ble_eq_true rfl⟩) 0 7 rfl rfl rfl [7] ⟨Nat.zero_le _, Nat.zero_le _⟩ rfl rfl (by decide +kernel) (k_rp rfl (by decide +kernel)) rfl rfl (Nat.le_of_ble_eq_true rfl) dX2_upright_38 rfl V38
        · exact k_callU (wy' := []) (As := [.int (c_figure y2.toNatClampNeg)]) (rest := [.int (jabs (c_lean y2.toNatClampNeg))]) (st1 := [.int (S_Clerk_uprightWithin (c_figure y2.toNatClampNeg)), .int (jabs (c_lean y2.toNatClampNeg))]) hx hb hml hown hts hK hN hA hP hD hS hl (c_Clerk_uprightWithin l D cI cM cS cJ (aK 3) 3 H.size (c_figure y2.toNatClampNeg) rfl rfl) (va_cwO 1 hts gX2_upright_X3_uprightWithin_u159X3 rfl rfl rfl (List.mem_of_getElem? (i := 17) rfl) kdM_uprightWithin ⟨Nat.le_of_ble_eq_true rfl, Nat.le_of_ble_eq_true rfl⟩) 0 3 rfl rfl rfl [8] ⟨Nat.zero_le _, Nat.zero_le _⟩ rfl rfl (by decide +kernel) (k_rp rfl (by decide +kernel)) rfl rfl (Nat.le_of_ble_eq_true rfl) dX2_upright_38 rfl V38
        · exact k_callU (wy' := []) (As := [.int (c_figure y2.toNatClampNeg)]) (rest := [.int (jabs (c_lean y2.toNatClampNeg))]) (st1 := [.int (S_Broker_uprightWithin (c_figure y2.toNatClampNeg)), .int (jabs (c_lean y2.toNatClampNeg))]) hx hb hml hown hts hK hN hA hP hD hS hl (c_Broker_uprightWithin l D cI cM cS cJ (aK 4) 1 H.size (c_figure y2.toNatClampNeg) rfl rfl) (va_cwO 1 hts gX2_upright_X1_uprightWithin_u159X1 rfl rfl rfl (List.mem_of_getElem? (i := 17) rfl) kdM_uprightWithin ⟨Nat.le_of_ble_eq_true rfl, Nat.le_of_ble_eq_true rfl⟩) 0 1 rfl rfl rfl [9] ⟨Nat.zero_le _, Nat.zero_le _⟩ rfl rfl (by decide +kernel) (k_rp rfl (by decide +kernel)) rfl rfl (Nat.le_of_ble_eq_true rfl) dX2_upright_38 rfl V38
        · exact k_callU (wy' := []) (As := [.int (c_figure y2.toNatClampNeg)]) (rest := [.int (jabs (c_lean y2.toNatClampNeg))]) (st1 := [.int (S_Scrubber_uprightWithin (c_figure y2.toNatClampNeg)), .int (jabs (c_lean y2.toNatClampNeg))]) hx hb hml hown hts hK hN hA hP hD hS hl (c_Scrubber_uprightWithin l D cI cM cS cJ (aK 5) 8 H.size (c_figure y2.toNatClampNeg) rfl) (va_cwO 1 hts gX2_upright_X8_uprightWithin_u159X8 rfl rfl rfl (List.mem_of_getElem? (i := 17) rfl) kdM_uprightWithin ⟨Nat.le_of_ble_eq_true rfl, Nat.le_of_ble_eq_true rfl⟩) 0 8 rfl rfl rfl [10] ⟨Nat.zero_le _, Nat.zero_le _⟩ rfl rfl (by decide +kernel) (k_rp rfl (by decide +kernel)) rfl rfl (Nat.le_of_ble_eq_true rfl) dX2_upright_38 rfl V38
        · exact k_callU (wy' := []) (As := [.int (c_figure y2.toNatClampNeg)]) (rest := [.int (jabs (c_lean y2.toNatClampNeg))]) (st1 := [.int (S_Broker_uprightWithin (c_figure y2.toNatClampNeg)), .int (jabs (c_lean y2.toNatClampNeg))]) hx hb hml hown hts hK hN hA hP hD hS hl (c_Broker_uprightWithin l D cI cM cS cJ (aK 6) 10 H.size (c_figure y2.toNatClampNeg) rfl rfl) (va_cwO 1 hts gX2_upright_X1_uprightWithin_u159X10 rfl rfl rfl (List.mem_of_getElem? (i := 17) rfl) kdM_uprightWithin ⟨Nat.le_of_ble_eq_true rfl, Nat.le_of_ble_eq_true rfl⟩) 0 10 rfl rfl rfl [11] ⟨Nat.zero_le _, Nat.zero_le _⟩ rfl rfl (by decide +kernel) (k_rp rfl (by decide +kernel)) rfl rfl (Nat.le_of_ble_eq_true rfl) dX2_upright_38 rfl V38
        · exact k_callU (wy' := []) (As := [.int (c_figure y2.toNatClampNeg)]) (rest := [.int (jabs (c_lean y2.toNatClampNeg))]) (st1 := [.int (S_Clerk_uprightWithin (c_figure y2.toNatClampNeg)), .int (jabs (c_lean y2.toNatClampNeg))]) hx hb hml hown hts hK hN hA hP hD hS hl (c_Clerk_uprightWithin l D cI cM cS cJ (aK 7) 6 H.size (c_figure y2.toNatClampNeg) rfl rfl) (va_cwO 1 hts gX2_upright_X3_uprightWithin_u159X6 rfl rfl rfl (List.mem_of_getElem? (i := 17) rfl) kdM_uprightWithin ⟨Nat.le_of_ble_eq_true rfl, Nat.le_of_ble_eq_true rfl⟩) 0 6 rfl rfl rfl [12] ⟨Nat.zero_le _, Nat.zero_le _⟩ rfl rfl (by decide +kernel) (k_rp rfl (by decide +kernel)) rfl rfl (Nat.le_of_ble_eq_true rfl) dX2_upright_38 rfl V38
  refine lv_istore_n (lv' := [(2, .int 0), (1, .int 0), (0, .ref (aC 0))]) hx hb dX2_upright_3 rfl hl (by decide) rfl (fun ls hl => ?_)
  exact B4 lfu 0 0 s.heap [] ls hP hD hS (lv_sub hl [2, 1, 0] rfl) h
theorem kdV_X2_isPropped : yX2_isPropped.cls = RX2 ∧ yX2_isPropped.cls ≠ "java/lang/invoke/MethodHandle" ∧ yX2_isPropped.cls ≠ "java/lang/invoke/VarHandle" ∧ (parseMethodDescriptor yX2_isPropped.desc).map (fun d => d.parameters.length) = some 1 := by decide +kernel
abbrev rm_X2_turnSigns : Room := { frames := 1, cells := 0, slots := 0, locals := 21 }
set_option maxHeartbeats 4000000 in
set_option maxRecDepth 100000 in
theorem c_City_turnSigns (l : Launch) (D : va_G) (cI cM cS cJ : ClassId) (aC : Nat → Nat) (aK : Nat → Nat) (sz : Nat) (c_men : Int32) (c_propped : Int32) (c_place : Int32) (c_swings : Int32) (c_crashes : Int32) (c_day : Int32) (c_crashedToday : Int32) (c_lean : Nat → Int32) {o : (Nat → Int32)} (hsem : S_City_turnSigns c_men c_propped c_lean = some o) : kMet l yX2_turnSigns wsX2_turnSigns rm_X2_turnSigns [.ref (aC 0)] D (kT cI cM cS cJ) (Wd11 cI aC aK c_men c_propped c_place c_swings c_crashes c_day c_crashedToday c_lean) sz none (Wd11 cI aC aK c_men c_propped c_place c_swings c_crashes c_day c_crashedToday o) := by
  refine k_metV (by decide) rfl rfl (Nat.le_of_ble_eq_true rfl) ?_
  intro p e s m below meth c ls Q A hx hb hml hts hown hK hN hA hP hD hS hl hsz hnm hret
  have hown : s.vm.findClass RX2 = some m.cls := hown
  have hf34 := hts (.fieldLink RX2 34 "PlumbLine$City" "men" "I") (List.mem_of_getElem? (i := 1) rfl)
  have hf18 := hts (.fieldLink RX2 18 "PlumbLine$City" "lean" "[I") (List.mem_of_getElem? (i := 2) rfl)
  have hiX2 : ∀ w ∈ u_ws RX2 TX2 12, w ∈ wsX2_turnSigns := fun w h => List.mem_cons_of_mem _ (List.mem_append_right _ h)
  replace hl : lv_has ls 2 [(0, .ref (aC 0))] := hl
  have h := hsem
  clear hsem
  rw [S_City_turnSigns] at h
  refine lv_iconst (v := 0) hx hb dX2_turnSigns_0 (by decide) ?_
  have B2 : ∀ (n2 : Nat) (y1 : Int32) (c_lean : Nat → Int32) (H : Heap) (locs : List Loc) (ls : Array Slot), va_P D vwCl (Wd11 cI aC aK c_men c_propped c_place c_swings c_crashes c_day c_crashedToday c_lean) H → va_D A (Wd11 cI aC aK c_men c_propped c_place c_swings c_crashes c_day c_crashedToday c_lean) → va_S A s.heap H locs → lv_has ls 2 [(0, .ref (aC 0)), (1, .int y1)] → S_City_turnSigns_L2 c_men c_propped n2 y1 c_lean = some o → W p l e rm_X2_turnSigns s m ([.ref (aC 0)] : List Value).toArray below meth c H locs 0 0 Q (F0 m 2 ls []) := by
    intro n2
    induction n2 with
    | zero => intro y1 c_lean H locs ls hP hD hS hl h; exact absurd h (by simp [S_City_turnSigns_L2])
    | succ n2 ih2 =>
      intro y1 c_lean H locs ls hP hD hS hl h
      rw [S_City_turnSigns_L2] at h
      refine lv_iload_n hx hb dX2_turnSigns_2 rfl (lv_at hl 1 rfl) ?_
      refine lv_aload_n hx hb dX2_turnSigns_3 rfl (lv_at hl 0 rfl) ?_
      refine va_get (D := D) (ci := 2) (v := .int c_men) (C := RX2) (T := TX2) (N := 12) hx hb hts hiX2 hown hK hP 0 rfl rfl 3 (by decide) hf34 (fun _ z => z) rfl dX2_turnSigns_4 ?_
      refine lv_icmp_ge (tgt := 37) hx hb dX2_turnSigns_7 (by decide) (fun c7 => ?_) (fun c7 => ?_)
      · have h := k_pos c7 h
        cases h
        exact hret _ _ _ _ hP hS dX2_turnSigns_37
      · have h := k_neg c7 h
        refine lv_aload_n hx hb dX2_turnSigns_10 rfl (lv_at hl 0 rfl) ?_
        refine lv_iload_n hx hb dX2_turnSigns_11 rfl (lv_at hl 1 rfl) ?_
        refine k_callV (As := [.int y1]) (rest := []) (st1 := [.int (S_City_isPropped y1 c_propped)]) (ws2 := (Wd11 cI aC aK c_men c_propped c_place c_swings c_crashes c_day c_crashedToday c_lean)) hx hb hml hown hts hK hN hA hP hD hS hl (c_City_isPropped l D cI cM cS cJ aC aK H.size y1 c_men c_propped c_place c_swings c_crashes c_day c_crashedToday rfl) gX2_turnSigns_X2_isPropped rfl kdV_X2_isPropped 0 2 rfl rfl rfl [0] ⟨rfl, rfl⟩ ⟨Nat.le_of_ble_eq_true rfl, Nat.le_of_ble_eq_true rfl⟩ ⟨Nat.zero_le _, Nat.zero_le _⟩ rfl rfl (by decide +kernel) (k_rp rfl (by decide +kernel)) rfl rfl (Nat.le_of_ble_eq_true rfl) dX2_turnSigns_12 rfl (fun H locs hP hD hS => ?_)
        refine lv_if_ne (tgt := 31) hx hb dX2_turnSigns_15 (by decide) (fun c15 => ?_) (fun c15 => ?_)
        · have h := k_neg c15 h
          refine lv_iinc (v := (y1 + 1)) (lv' := [(1, .int (y1 + 1)), (0, .ref (aC 0))]) hx hb dX2_turnSigns_31 hl (k := 1) rfl (by first | rfl | decide) (by decide) rfl (fun ls hl => ?_)
          refine lv_goto (tgt := 2) hx hb dX2_turnSigns_34 (by decide) ?_
          exact ih2 (y1 + 1) c_lean H locs ls hP hD hS (lv_sub hl [1, 0] rfl) h
        · have h := k_pos c15 h
          refine lv_aload_n hx hb dX2_turnSigns_18 rfl (lv_at hl 0 rfl) ?_
          refine va_get (D := D) (ci := 2) (v := .ref (aC 3)) (C := RX2) (T := TX2) (N := 12) hx hb hts hiX2 hown hK hP 0 rfl rfl 2 (by decide) hf18 (fun _ z => z) rfl dX2_turnSigns_19 ?_
          refine lv_iload_n hx hb dX2_turnSigns_22 rfl (lv_at hl 1 rfl) ?_
          refine lv_aload_n hx hb dX2_turnSigns_23 rfl (lv_at hl 0 rfl) ?_
          refine va_get (D := D) (ci := 2) (v := .ref (aC 3)) (C := RX2) (T := TX2) (N := 12) hx hb hts hiX2 hown hK hP 0 rfl rfl 2 (by decide) hf18 (fun _ z => z) rfl dX2_turnSigns_24 ?_
          refine lv_iload_n hx hb dX2_turnSigns_27 rfl (lv_at hl 1 rfl) ?_
          obtain ⟨g28, h⟩ := k_guard h
          refine va_iald hx hb hK hP 1 0 rfl rfl g28 dX2_turnSigns_28 ?_
          refine lv_ineg hx hb dX2_turnSigns_29 ?_
          refine va_iast hx hb hK hP hD hS 1 0 rfl rfl g28 dX2_turnSigns_30 (fun H locs hP hD hS => ?_)
          replace hP : va_P D vwCl (Wd11 cI aC aK c_men c_propped c_place c_swings c_crashes c_day c_crashedToday (upd c_lean y1.toNatClampNeg (-(c_lean y1.toNatClampNeg)))) H := hP
          replace hD : va_D A (Wd11 cI aC aK c_men c_propped c_place c_swings c_crashes c_day c_crashedToday (upd c_lean y1.toNatClampNeg (-(c_lean y1.toNatClampNeg)))) := hD
          refine lv_iinc (v := (y1 + 1)) (lv' := [(1, .int (y1 + 1)), (0, .ref (aC 0))]) hx hb dX2_turnSigns_31 hl (k := 1) rfl (by first | rfl | decide) (by decide) rfl (fun ls hl => ?_)
          refine lv_goto (tgt := 2) hx hb dX2_turnSigns_34 (by decide) ?_
          exact ih2 (y1 + 1) (upd c_lean y1.toNatClampNeg (-(c_lean y1.toNatClampNeg))) H locs ls hP hD hS (lv_sub hl [1, 0] rfl) h
  refine lv_istore_n (lv' := [(1, .int 0), (0, .ref (aC 0))]) hx hb dX2_turnSigns_1 rfl hl (by decide) rfl (fun ls hl => ?_)
  exact B2 lfu 0 c_lean s.heap [] ls hP hD hS (lv_sub hl [1, 0] rfl) h
