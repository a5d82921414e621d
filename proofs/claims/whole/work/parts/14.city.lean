abbrev Wd5 (cI : ClassId) (aC : Nat → Nat) (aO : Nat → Nat) (aK : Nat → Nat) (c_men : Int32) (c_propped : Int32) (c_place : Int32) (c_swings : Int32) (c_crashes : Int32) (c_day : Int32) (c_crashedToday : Int32) (c_kind : Nat → Int32) (c_figure : Nat → Int32) (c_lean : Nat → Int32) (o_men : Int32) (o_propped : Int32) (o_place : Int32) (o_swings : Int32) (o_crashes : Int32) (o_day : Int32) (o_crashedToday : Int32) (o_kind : Nat → Int32) (o_figure : Nat → Int32) (o_lean : Nat → Int32) : va_W := [((aC 0), .inr (2, [.ref (aC 1), .ref (aC 2), .ref (aC 3), .int c_men, .int c_propped, .int c_place, .int c_swings, .int c_crashes, .int c_day, .int c_crashedToday, .ref (aK 8), .ref (aC 4)])), ((aC 1), .inl (cI, 8, .inl c_kind)), ((aC 2), .inl (cI, 8, .inl c_figure)), ((aC 3), .inl (cI, 8, .inl c_lean)), ((aO 0), .inr (2, [.ref (aO 1), .ref (aO 2), .ref (aO 3), .int o_men, .int o_propped, .int o_place, .int o_swings, .int o_crashes, .int o_day, .int o_crashedToday, .ref (aK 8), .ref (aO 4)])), ((aO 1), .inl (cI, 8, .inl o_kind)), ((aO 2), .inl (cI, 8, .inl o_figure)), ((aO 3), .inl (cI, 8, .inl o_lean))]
abbrev rm_X2_becomes : Room := { frames := 1, cells := 0, slots := 0, locals := 60 }
set_option maxHeartbeats 4000000 in
set_option maxRecDepth 100000 in
theorem c_City_becomes (l : Launch) (D : va_G) (cI cM cS cJ : ClassId) (aC : Nat → Nat) (aO : Nat → Nat) (aK : Nat → Nat) (sz : Nat) (c_men : Int32) (c_propped : Int32) (c_place : Int32) (c_swings : Int32) (c_crashes : Int32) (c_day : Int32) (c_crashedToday : Int32) (c_kind : Nat → Int32) (c_figure : Nat → Int32) (c_lean : Nat → Int32) (o_men : Int32) (o_propped : Int32) (o_place : Int32) (o_swings : Int32) (o_crashes : Int32) (o_day : Int32) (o_crashedToday : Int32) (o_kind : Nat → Int32) (o_figure : Nat → Int32) (o_lean : Nat → Int32) {o : (Int32) × (Int32) × (Int32) × (Int32) × (Int32) × (Int32) × (Nat → Int32) × (Nat → Int32) × (Nat → Int32)} (hsem : S_City_becomes c_men c_propped c_place c_swings c_crashes c_day c_kind c_figure c_lean o_men o_propped o_place o_swings o_crashes o_day o_kind o_figure o_lean = some o) : kMet l yX2_becomes wsX2_becomes rm_X2_becomes [.ref (aC 0), .ref (aO 0)] D (kT cI cM cS cJ) (Wd5 cI aC aO aK c_men c_propped c_place c_swings c_crashes c_day c_crashedToday c_kind c_figure c_lean o_men o_propped o_place o_swings o_crashes o_day o_crashedToday o_kind o_figure o_lean) sz none (Wd5 cI aC aO aK o.1 o.2.1 o.2.2.1 o.2.2.2.1 o.2.2.2.2.1 o.2.2.2.2.2.1 c_crashedToday o.2.2.2.2.2.2.1 o.2.2.2.2.2.2.2.1 o.2.2.2.2.2.2.2.2 o_men o_propped o_place o_swings o_crashes o_day o_crashedToday o_kind o_figure o_lean) := by
  refine k_metV (by decide) rfl rfl (Nat.le_of_ble_eq_true rfl) ?_
  intro p e s m below meth c ls Q A hx hb hml hts hown hK hN hA hP hD hS hl hsz hnm hret
  have hown : s.vm.findClass RX2 = some m.cls := hown
  have hf9 := hts (.fieldLink RX2 9 "PlumbLine$City" "kind" "[I") (List.mem_of_getElem? (i := 1) rfl)
  have hf15 := hts (.fieldLink RX2 15 "PlumbLine$City" "figure" "[I") (List.mem_of_getElem? (i := 6) rfl)
  have hf18 := hts (.fieldLink RX2 18 "PlumbLine$City" "lean" "[I") (List.mem_of_getElem? (i := 7) rfl)
  have hf34 := hts (.fieldLink RX2 34 "PlumbLine$City" "men" "I") (List.mem_of_getElem? (i := 8) rfl)
  have hf38 := hts (.fieldLink RX2 38 "PlumbLine$City" "propped" "I") (List.mem_of_getElem? (i := 9) rfl)
  have hf41 := hts (.fieldLink RX2 41 "PlumbLine$City" "place" "I") (List.mem_of_getElem? (i := 10) rfl)
  have hf44 := hts (.fieldLink RX2 44 "PlumbLine$City" "swings" "I") (List.mem_of_getElem? (i := 11) rfl)
  have hf47 := hts (.fieldLink RX2 47 "PlumbLine$City" "crashes" "I") (List.mem_of_getElem? (i := 12) rfl)
  have hf50 := hts (.fieldLink RX2 50 "PlumbLine$City" "day" "I") (List.mem_of_getElem? (i := 13) rfl)
  have hiX2 : ∀ w ∈ u_ws RX2 TX2 12, w ∈ wsX2_becomes := fun w h => List.mem_cons_of_mem _ (List.mem_append_right _ h)
  replace hl : lv_has ls 2 [(0, .ref (aC 0)), (1, .ref (aO 0))] := hl
  have h := hsem
  clear hsem
  rw [S_City_becomes] at h
  refine lv_aload_n hx hb dX2_becomes_0 rfl (lv_at hl 1 rfl) ?_
  refine va_get (D := D) (ci := 2) (v := .ref (aO 1)) (C := RX2) (T := TX2) (N := 12) hx hb hts hiX2 hown hK hP 4 rfl rfl 0 (by decide) hf9 (fun _ z => z) rfl dX2_becomes_1 ?_
  refine lv_iconst (v := 0) hx hb dX2_becomes_4 (by decide) ?_
  refine lv_aload_n hx hb dX2_becomes_5 rfl (lv_at hl 0 rfl) ?_
  refine va_get (D := D) (ci := 2) (v := .ref (aC 1)) (C := RX2) (T := TX2) (N := 12) hx hb hts hiX2 hown hK hP 0 rfl rfl 0 (by decide) hf9 (fun _ z => z) rfl dX2_becomes_6 ?_
  refine lv_iconst (v := 0) hx hb dX2_becomes_9 (by decide) ?_
  refine lv_bipush (v := 8) hx hb dX2_becomes_10 (by decide) ?_
  refine va_copyi (own := RX2) (index := 28) (ty := .int) hx hb (hml.trans hl.1.symm) hown (hts _ (List.mem_of_getElem? (i := 2) rfl)) (hts _ (List.mem_of_getElem? (i := 3) rfl)) (hts _ (List.mem_of_getElem? (i := 4) rfl)) (hts _ (List.mem_of_getElem? (i := 5) rfl)) hK hP hD hS 5 1 0 0 rfl rfl rfl rfl rfl (by decide) (by decide) (by decide) (by decide) (by decide) (fun _ _ => rfl) (Nat.le_of_ble_eq_true rfl) (by decide +kernel) dX2_becomes_12 (fun H locs hP hD hS => ?_)
  replace hP : va_P D vwCl (Wd5 cI aC aO aK c_men c_propped c_place c_swings c_crashes c_day c_crashedToday (va_cpy o_kind c_kind (0 : Int32).toNatClampNeg (0 : Int32).toNatClampNeg (8 : Int32).toNatClampNeg) c_figure c_lean o_men o_propped o_place o_swings o_crashes o_day o_crashedToday o_kind o_figure o_lean) H := hP
  replace hD : va_D A (Wd5 cI aC aO aK c_men c_propped c_place c_swings c_crashes c_day c_crashedToday (va_cpy o_kind c_kind (0 : Int32).toNatClampNeg (0 : Int32).toNatClampNeg (8 : Int32).toNatClampNeg) c_figure c_lean o_men o_propped o_place o_swings o_crashes o_day o_crashedToday o_kind o_figure o_lean) := hD
  refine lv_aload_n hx hb dX2_becomes_15 rfl (lv_at hl 1 rfl) ?_
  refine va_get (D := D) (ci := 2) (v := .ref (aO 2)) (C := RX2) (T := TX2) (N := 12) hx hb hts hiX2 hown hK hP 4 rfl rfl 1 (by decide) hf15 (fun _ z => z) rfl dX2_becomes_16 ?_
  refine lv_iconst (v := 0) hx hb dX2_becomes_19 (by decide) ?_
  refine lv_aload_n hx hb dX2_becomes_20 rfl (lv_at hl 0 rfl) ?_
  refine va_get (D := D) (ci := 2) (v := .ref (aC 2)) (C := RX2) (T := TX2) (N := 12) hx hb hts hiX2 hown hK hP 0 rfl rfl 1 (by decide) hf15 (fun _ z => z) rfl dX2_becomes_21 ?_
  refine lv_iconst (v := 0) hx hb dX2_becomes_24 (by decide) ?_
  refine lv_bipush (v := 8) hx hb dX2_becomes_25 (by decide) ?_
  refine va_copyi (own := RX2) (index := 28) (ty := .int) hx hb (hml.trans hl.1.symm) hown (hts _ (List.mem_of_getElem? (i := 2) rfl)) (hts _ (List.mem_of_getElem? (i := 3) rfl)) (hts _ (List.mem_of_getElem? (i := 4) rfl)) (hts _ (List.mem_of_getElem? (i := 5) rfl)) hK hP hD hS 6 2 0 0 rfl rfl rfl rfl rfl (by decide) (by decide) (by decide) (by decide) (by decide) (fun _ _ => rfl) (Nat.le_of_ble_eq_true rfl) (by decide +kernel) dX2_becomes_27 (fun H locs hP hD hS => ?_)
  replace hP : va_P D vwCl (Wd5 cI aC aO aK c_men c_propped c_place c_swings c_crashes c_day c_crashedToday (va_cpy o_kind c_kind (0 : Int32).toNatClampNeg (0 : Int32).toNatClampNeg (8 : Int32).toNatClampNeg) (va_cpy o_figure c_figure (0 : Int32).toNatClampNeg (0 : Int32).toNatClampNeg (8 : Int32).toNatClampNeg) c_lean o_men o_propped o_place o_swings o_crashes o_day o_crashedToday o_kind o_figure o_lean) H := hP
  replace hD : va_D A (Wd5 cI aC aO aK c_men c_propped c_place c_swings c_crashes c_day c_crashedToday (va_cpy o_kind c_kind (0 : Int32).toNatClampNeg (0 : Int32).toNatClampNeg (8 : Int32).toNatClampNeg) (va_cpy o_figure c_figure (0 : Int32).toNatClampNeg (0 : Int32).toNatClampNeg (8 : Int32).toNatClampNeg) c_lean o_men o_propped o_place o_swings o_crashes o_day o_crashedToday o_kind o_figure o_lean) := hD
  refine lv_aload_n hx hb dX2_becomes_30 rfl (lv_at hl 1 rfl) ?_
  refine va_get (D := D) (ci := 2) (v := .ref (aO 3)) (C := RX2) (T := TX2) (N := 12) hx hb hts hiX2 hown hK hP 4 rfl rfl 2 (by decide) hf18 (fun _ z => z) rfl dX2_becomes_31 ?_
  refine lv_iconst (v := 0) hx hb dX2_becomes_34 (by decide) ?_
  refine lv_aload_n hx hb dX2_becomes_35 rfl (lv_at hl 0 rfl) ?_
  refine va_get (D := D) (ci := 2) (v := .ref (aC 3)) (C := RX2) (T := TX2) (N := 12) hx hb hts hiX2 hown hK hP 0 rfl rfl 2 (by decide) hf18 (fun _ z => z) rfl dX2_becomes_36 ?_
  refine lv_iconst (v := 0) hx hb dX2_becomes_39 (by decide) ?_
  refine lv_bipush (v := 8) hx hb dX2_becomes_40 (by decide) ?_
  refine va_copyi (own := RX2) (index := 28) (ty := .int) hx hb (hml.trans hl.1.symm) hown (hts _ (List.mem_of_getElem? (i := 2) rfl)) (hts _ (List.mem_of_getElem? (i := 3) rfl)) (hts _ (List.mem_of_getElem? (i := 4) rfl)) (hts _ (List.mem_of_getElem? (i := 5) rfl)) hK hP hD hS 7 3 0 0 rfl rfl rfl rfl rfl (by decide) (by decide) (by decide) (by decide) (by decide) (fun _ _ => rfl) (Nat.le_of_ble_eq_true rfl) (by decide +kernel) dX2_becomes_42 (fun H locs hP hD hS => ?_)
  replace hP : va_P D vwCl (Wd5 cI aC aO aK c_men c_propped c_place c_swings c_crashes c_day c_crashedToday (va_cpy o_kind c_kind (0 : Int32).toNatClampNeg (0 : Int32).toNatClampNeg (8 : Int32).toNatClampNeg) (va_cpy o_figure c_figure (0 : Int32).toNatClampNeg (0 : Int32).toNatClampNeg (8 : Int32).toNatClampNeg) (va_cpy o_lean c_lean (0 : Int32).toNatClampNeg (0 : Int32).toNatClampNeg (8 : Int32).toNatClampNeg) o_men o_propped o_place o_swings o_crashes o_day o_crashedToday o_kind o_figure o_lean) H := hP
  replace hD : va_D A (Wd5 cI aC aO aK c_men c_propped c_place c_swings c_crashes c_day c_crashedToday (va_cpy o_kind c_kind (0 : Int32).toNatClampNeg (0 : Int32).toNatClampNeg (8 : Int32).toNatClampNeg) (va_cpy o_figure c_figure (0 : Int32).toNatClampNeg (0 : Int32).toNatClampNeg (8 : Int32).toNatClampNeg) (va_cpy o_lean c_lean (0 : Int32).toNatClampNeg (0 : Int32).toNatClampNeg (8 : Int32).toNatClampNeg) o_men o_propped o_place o_swings o_crashes o_day o_crashedToday o_kind o_figure o_lean) := hD
  refine lv_aload_n hx hb dX2_becomes_45 rfl (lv_at hl 0 rfl) ?_
  refine lv_aload_n hx hb dX2_becomes_46 rfl (lv_at hl 1 rfl) ?_
  refine va_get (D := D) (ci := 2) (v := .int o_men) (C := RX2) (T := TX2) (N := 12) hx hb hts hiX2 hown hK hP 4 rfl rfl 3 (by decide) hf34 (fun _ z => z) rfl dX2_becomes_47 ?_
  refine va_put (D := D) (ci := 2) (v := .int o_men) (ty := .int) (C := RX2) (T := TX2) (N := 12) hx hb hts hiX2 tyX2 tyX2_ok nmX2 hown hK hP hD hS 0 rfl rfl 3 (by decide) hf34 (fun _ z => z) rfl (by decide +kernel) rfl rfl (Nat.le_of_ble_eq_true rfl) dX2_becomes_50 (fun H locs hP hD hS => ?_)
  replace hP : va_P D vwCl (Wd5 cI aC aO aK o_men c_propped c_place c_swings c_crashes c_day c_crashedToday (va_cpy o_kind c_kind (0 : Int32).toNatClampNeg (0 : Int32).toNatClampNeg (8 : Int32).toNatClampNeg) (va_cpy o_figure c_figure (0 : Int32).toNatClampNeg (0 : Int32).toNatClampNeg (8 : Int32).toNatClampNeg) (va_cpy o_lean c_lean (0 : Int32).toNatClampNeg (0 : Int32).toNatClampNeg (8 : Int32).toNatClampNeg) o_men o_propped o_place o_swings o_crashes o_day o_crashedToday o_kind o_figure o_lean) H := hP
  replace hD : va_D A (Wd5 cI aC aO aK o_men c_propped c_place c_swings c_crashes c_day c_crashedToday (va_cpy o_kind c_kind (0 : Int32).toNatClampNeg (0 : Int32).toNatClampNeg (8 : Int32).toNatClampNeg) (va_cpy o_figure c_figure (0 : Int32).toNatClampNeg (0 : Int32).toNatClampNeg (8 : Int32).toNatClampNeg) (va_cpy o_lean c_lean (0 : Int32).toNatClampNeg (0 : Int32).toNatClampNeg (8 : Int32).toNatClampNeg) o_men o_propped o_place o_swings o_crashes o_day o_crashedToday o_kind o_figure o_lean) := hD
  refine lv_aload_n hx hb dX2_becomes_53 rfl (lv_at hl 0 rfl) ?_
  refine lv_aload_n hx hb dX2_becomes_54 rfl (lv_at hl 1 rfl) ?_
  refine va_get (D := D) (ci := 2) (v := .int o_propped) (C := RX2) (T := TX2) (N := 12) hx hb hts hiX2 hown hK hP 4 rfl rfl 4 (by decide) hf38 (fun _ z => z) rfl dX2_becomes_55 ?_
  refine va_put (D := D) (ci := 2) (v := .int o_propped) (ty := .int) (C := RX2) (T := TX2) (N := 12) hx hb hts hiX2 tyX2 tyX2_ok nmX2 hown hK hP hD hS 0 rfl rfl 4 (by decide) hf38 (fun _ z => z) rfl (by decide +kernel) rfl rfl (Nat.le_of_ble_eq_true rfl) dX2_becomes_58 (fun H locs hP hD hS => ?_)
  replace hP : va_P D vwCl (Wd5 cI aC aO aK o_men o_propped c_place c_swings c_crashes c_day c_crashedToday (va_cpy o_kind c_kind (0 : Int32).toNatClampNeg (0 : Int32).toNatClampNeg (8 : Int32).toNatClampNeg) (va_cpy o_figure c_figure (0 : Int32).toNatClampNeg (0 : Int32).toNatClampNeg (8 : Int32).toNatClampNeg) (va_cpy o_lean c_lean (0 : Int32).toNatClampNeg (0 : Int32).toNatClampNeg (8 : Int32).toNatClampNeg) o_men o_propped o_place o_swings o_crashes o_day o_crashedToday o_kind o_figure o_lean) H := hP
  replace hD : va_D A (Wd5 cI aC aO aK o_men o_propped c_place c_swings c_crashes c_day c_crashedToday (va_cpy o_kind c_kind (0 : Int32).toNatClampNeg (0 : Int32).toNatClampNeg (8 : Int32).toNatClampNeg) (va_cpy o_figure c_figure (0 : Int32).toNatClampNeg (0 : Int32).toNatClampNeg (8 : Int32).toNatClampNeg) (va_cpy o_lean c_lean (0 : Int32).toNatClampNeg (0 : Int32).toNatClampNeg (8 : Int32).toNatClampNeg) o_men o_propped o_place o_swings o_crashes o_day o_crashedToday o_kind o_figure o_lean) := hD
  refine lv_aload_n hx hb dX2_becomes_61 rfl (lv_at hl 0 rfl) ?_
  refine lv_aload_n hx hb dX2_becomes_62 rfl (lv_at hl 1 rfl) ?_
  refine va_get (D := D) (ci := 2) (v := .int o_place) (C := RX2) (T := TX2) (N := 12) hx hb hts hiX2 hown hK hP 4 rfl rfl 5 (by decide) hf41 (fun _ z => z) rfl dX2_becomes_63 ?_
  refine va_put (D := D) (ci := 2) (v := .int o_place) (ty := .int) (C := RX2) (T := TX2) (N := 12) hx hb hts hiX2 tyX2 tyX2_ok nmX2 hown hK hP hD hS 0 rfl rfl 5 (by decide) hf41 (fun _ z => z) rfl (by decide +kernel) rfl rfl (Nat.le_of_ble_eq_true rfl) dX2_becomes_66 (fun H locs hP hD hS => ?_)
  replace hP : va_P D vwCl (Wd5 cI aC aO aK o_men o_propped o_place c_swings c_crashes c_day c_crashedToday (va_cpy o_kind c_kind (0 : Int32).toNatClampNeg (0 : Int32).toNatClampNeg (8 : Int32).toNatClampNeg) (va_cpy o_figure c_figure (0 : Int32).toNatClampNeg (0 : Int32).toNatClampNeg (8 : Int32).toNatClampNeg) (va_cpy o_lean c_lean (0 : Int32).toNatClampNeg (0 : Int32).toNatClampNeg (8 : Int32).toNatClampNeg) o_men o_propped o_place o_swings o_crashes o_day o_crashedToday o_kind o_figure o_lean) H := hP
  replace hD : va_D A (Wd5 cI aC aO aK o_men o_propped o_place c_swings c_crashes c_day c_crashedToday (va_cpy o_kind c_kind (0 : Int32).toNatClampNeg (0 : Int32).toNatClampNeg (8 : Int32).toNatClampNeg) (va_cpy o_figure c_figure (0 : Int32).toNatClampNeg (0 : Int32).toNatClampNeg (8 : Int32).toNatClampNeg) (va_cpy o_lean c_lean (0 : Int32).toNatClampNeg (0 : Int32).toNatClampNeg (8 : Int32).toNatClampNeg) o_men o_propped o_place o_swings o_crashes o_day o_crashedToday o_kind o_figure o_lean) := hD
  refine lv_aload_n hx hb dX2_becomes_69 rfl (lv_at hl 0 rfl) ?_
  refine lv_aload_n hx hb dX2_becomes_70 rfl (lv_at hl 1 rfl) ?_
  refine va_get (D := D) (ci := 2) (v := .int o_swings) (C := RX2) (T := TX2) (N := 12) hx hb hts hiX2 hown hK hP 4 rfl rfl 6 (by decide) hf44 (fun _ z => z) rfl dX2_becomes_71 ?_
  refine va_put (D := D) (ci := 2) (v := .int o_swings) (ty := .int) (C := RX2) (T := TX2) (N := 12) hx hb hts hiX2 tyX2 tyX2_ok nmX2 hown hK hP hD hS 0 rfl rfl 6 (by decide) hf44 (fun _ z => z) rfl (by decide +kernel) rfl rfl (Nat.le_of_ble_eq_true rfl) dX2_becomes_74 (fun H locs hP hD hS => ?_)
  replace hP : va_P D vwCl (Wd5 cI aC aO aK o_men o_propped o_place o_swings c_crashes c_day c_crashedToday (va_cpy o_kind c_kind (0 : Int32).toNatClampNeg (0 : Int32).toNatClampNeg (8 : Int32).toNatClampNeg) (va_cpy o_figure c_figure (0 : Int32).toNatClampNeg (0 : Int32).toNatClampNeg (8 : Int32).toNatClampNeg) (va_cpy o_lean c_lean (0 : Int32).toNatClampNeg (0 : Int32).toNatClampNeg (8 : Int32).toNatClampNeg) o_men o_propped o_place o_swings o_crashes o_day o_crashedToday o_kind o_figure o_lean) H := hP
  replace hD : va_D A (Wd5 cI aC aO aK o_men o_propped o_place o_swings c_crashes c_day c_crashedToday (va_cpy o_kind c_kind (0 : Int32).toNatClampNeg (0 : Int32).toNatClampNeg (8 : Int32).toNatClampNeg) (va_cpy o_figure c_figure (0 : Int32).toNatClampNeg (0 : Int32).toNatClampNeg (8 : Int32).toNatClampNeg) (va_cpy o_lean c_lean (0 : Int32).toNatClampNeg (0 : Int32).toNatClampNeg (8 : Int32).toNatClampNeg) o_men o_propped o_place o_swings o_crashes o_day o_crashedToday o_kind o_figure o_lean) := hD
  refine lv_aload_n hx hb dX2_becomes_77 rfl (lv_at hl 0 rfl) ?_
  refine lv_aload_n hx hb dX2_becomes_78 rfl (lv_at hl 1 rfl) ?_
  refine va_get (D := D) (ci := 2) (v := .int o_crashes) (C := RX2) (T := TX2) (N := 12) hx hb hts hiX2 hown hK hP 4 rfl rfl 7 (by decide) hf47 (fun _ z => z) rfl dX2_becomes_79 ?_
  refine va_put (D := D) (ci := 2) (v := .int o_crashes) (ty := .int) (C := RX2) (T := TX2) (N := 12) hx hb hts hiX2 tyX2 tyX2_ok nmX2 hown hK hP hD hS 0 rfl rfl 7 (by decide) hf47 (fun _ z => z) rfl (by decide +kernel) rfl rfl (Nat.le_of_ble_eq_true rfl) dX2_becomes_82 (fun H locs hP hD hS => ?_)
  replace hP : va_P D vwCl (Wd5 cI aC aO aK o_men o_propped o_place o_swings o_crashes c_day c_crashedToday (va_cpy o_kind c_kind (0 : Int32).toNatClampNeg (0 : Int32).toNatClampNeg (8 : Int32).toNatClampNeg) (va_cpy o_figure c_figure (0 : Int32).toNatClampNeg (0 : Int32).toNatClampNeg (8 : Int32).toNatClampNeg) (va_cpy o_lean c_lean (0 : Int32).toNatClampNeg (0 : Int32).toNatClampNeg (8 : Int32).toNatClampNeg) o_men o_propped o_place o_swings o_crashes o_day o_crashedToday o_kind o_figure o_lean) H := hP
  replace hD : va_D A (Wd5 cI aC aO aK o_men o_propped o_place o_swings o_crashes c_day c_crashedToday (va_cpy o_kind c_kind (0 : Int32).toNatClampNeg (0 : Int32).toNatClampNeg (8 : Int32).toNatClampNeg) (va_cpy o_figure c_figure (0 : Int32).toNatClampNeg (0 : Int32).toNatClampNeg (8 : Int32).toNatClampNeg) (va_cpy o_lean c_lean (0 : Int32).toNatClampNeg (0 : Int32).toNatClampNeg (8 : Int32).toNatClampNeg) o_men o_propped o_place o_swings o_crashes o_day o_crashedToday o_kind o_figure o_lean) := hD
  refine lv_aload_n hx hb dX2_becomes_85 rfl (lv_at hl 0 rfl) ?_
  refine lv_aload_n hx hb dX2_becomes_86 rfl (lv_at hl 1 rfl) ?_
  refine va_get (D := D) (ci := 2) (v := .int o_day) (C := RX2) (T := TX2) (N := 12) hx hb hts hiX2 hown hK hP 4 rfl rfl 8 (by decide) hf50 (fun _ z => z) rfl dX2_becomes_87 ?_
  refine va_put (D := D) (ci := 2) (v := .int o_day) (ty := .int) (C := RX2) (T := TX2) (N := 12) hx hb hts hiX2 tyX2 tyX2_ok nmX2 hown hK hP hD hS 0 rfl rfl 8 (by decide) hf50 (fun _ z => z) rfl (by decide +kernel) rfl rfl (Nat.le_of_ble_eq_true rfl) dX2_becomes_90 (fun H locs hP hD hS => ?_)
  replace hP : va_P D vwCl (Wd5 cI aC aO aK o_men o_propped o_place o_swings o_crashes o_day c_crashedToday (va_cpy o_kind c_kind (0 : Int32).toNatClampNeg (0 : Int32).toNatClampNeg (8 : Int32).toNatClampNeg) (va_cpy o_figure c_figure (0 : Int32).toNatClampNeg (0 : Int32).toNatClampNeg (8 : Int32).toNatClampNeg) (va_cpy o_lean c_lean (0 : Int32).toNatClampNeg (0 : Int32).toNatClampNeg (8 : Int32).toNatClampNeg) o_men o_propped o_place o_swings o_crashes o_day o_crashedToday o_kind o_figure o_lean) H := hP
  replace hD : va_D A (Wd5 cI aC aO aK o_men o_propped o_place o_swings o_crashes o_day c_crashedToday (va_cpy o_kind c_kind (0 : Int32).toNatClampNeg (0 : Int32).toNatClampNeg (8 : Int32).toNatClampNeg) (va_cpy o_figure c_figure (0 : Int32).toNatClampNeg (0 : Int32).toNatClampNeg (8 : Int32).toNatClampNeg) (va_cpy o_lean c_lean (0 : Int32).toNatClampNeg (0 : Int32).toNatClampNeg (8 : Int32).toNatClampNeg) o_men o_propped o_place o_swings o_crashes o_day o_crashedToday o_kind o_figure o_lean) := hD
  cases h
  exact hret _ _ _ _ hP hS dX2_becomes_93
abbrev Wd6 (aC : Nat → Nat) (aK : Nat → Nat) (c_men : Int32) (c_propped : Int32) (c_place : Int32) (c_swings : Int32) (c_crashes : Int32) (c_day : Int32) (c_crashedToday : Int32) : va_W := [((aC 0), .inr (2, [.ref (aC 1), .ref (aC 2), .ref (aC 3), .int c_men, .int c_propped, .int c_place, .int c_swings, .int c_crashes, .int c_day, .int c_crashedToday, .ref (aK 8), .ref (aC 4)]))]
abbrev rm_X2_has : Room := { frames := 0, cells := 0, slots := 0, locals := 0 }
set_option maxHeartbeats 4000000 in
set_option maxRecDepth 100000 in
theorem c_City_has (l : Launch) (D : va_G) (cI cM cS cJ : ClassId) (aC : Nat → Nat) (aK : Nat → Nat) (sz : Nat) (x1 : Int32) (c_men : Int32) (c_propped : Int32) (c_place : Int32) (c_swings : Int32) (c_crashes : Int32) (c_day : Int32) (c_crashedToday : Int32) {o : (Int32)} (hsem : S_City_has x1 c_men = o) : kMet l yX2_has wsX2_has rm_X2_has [.ref (aC 0), .int x1] D (kT cI cM cS cJ) (Wd6 aC aK c_men c_propped c_place c_swings c_crashes c_day c_crashedToday) sz (some (.int o)) (Wd6 aC aK c_men c_propped c_place c_swings c_crashes c_day c_crashedToday) := by
  refine k_metZ (by decide) rfl rfl (Nat.le_of_ble_eq_true rfl) ?_
  intro p e s m below meth c ls Q A hx hb hml hts hown hK hN hA hP hD hS hl hsz hnm hret
  have hown : s.vm.findClass RX2 = some m.cls := hown
  have hf34 := hts (.fieldLink RX2 34 "PlumbLine$City" "men" "I") (List.mem_of_getElem? (i := 1) rfl)
  have hiX2 : ∀ w ∈ u_ws RX2 TX2 12, w ∈ wsX2_has := fun w h => List.mem_cons_of_mem _ (List.mem_append_right _ h)
  replace hl : lv_has ls 2 [(0, .ref (aC 0)), (1, .int x1)] := hl
  have h := hsem
  clear hsem
  rw [S_City_has] at h
  refine lv_iload_n hx hb dX2_has_0 rfl (lv_at hl 1 rfl) ?_
  refine lv_if_lt (tgt := 16) hx hb dX2_has_1 (by decide) (fun c1 => ?_) (fun c1 => ?_)
  · have h := k_pos c1 h
    refine lv_iconst (v := 0) hx hb dX2_has_16 (by decide) ?_
    cases h
    exact hret _ _ _ _ rfl hP hS dX2_has_17
  · have h := k_neg c1 h
    refine lv_iload_n hx hb dX2_has_4 rfl (lv_at hl 1 rfl) ?_
    refine lv_aload_n hx hb dX2_has_5 rfl (lv_at hl 0 rfl) ?_
    refine va_get (D := D) (ci := 2) (v := .int c_men) (C := RX2) (T := TX2) (N := 12) hx hb hts hiX2 hown hK hP 0 rfl rfl 3 (by decide) hf34 (fun _ z => z) rfl dX2_has_6 ?_
    refine lv_icmp_ge (tgt := 16) hx hb dX2_has_9 (by decide) (fun c9 => ?_) (fun c9 => ?_)
    · have h := k_pos c9 h
      refine lv_iconst (v := 0) hx hb dX2_has_16 (by decide) ?_
      cases h
      exact hret _ _ _ _ rfl hP hS dX2_has_17
    · have h := k_neg c9 h
      refine lv_iconst (v := 1) hx hb dX2_has_12 (by decide) ?_
      refine lv_goto (tgt := 17) hx hb dX2_has_13 (by decide) ?_
      cases h
      exact hret _ _ _ _ rfl hP hS dX2_has_17
abbrev Wd7 (cI : ClassId) (aC : Nat → Nat) (aK : Nat → Nat) (c_men : Int32) (c_propped : Int32) (c_place : Int32) (c_swings : Int32) (c_crashes : Int32) (c_day : Int32) (c_crashedToday : Int32) (c_kind : Nat → Int32) (c_figure : Nat → Int32) (c_lean : Nat → Int32) : va_W := [((aC 0), .inr (2, [.ref (aC 1), .ref (aC 2), .ref (aC 3), .int c_men, .int c_propped, .int c_place, .int c_swings, .int c_crashes, .int c_day, .int c_crashedToday, .ref (aK 8), .ref (aC 4)])), ((aC 1), .inl (cI, 8, .inl c_kind)), ((aC 2), .inl (cI, 8, .inl c_figure)), ((aC 3), .inl (cI, 8, .inl c_lean))]
abbrev rm_X2_takesIn : Room := { frames := 0, cells := 0, slots := 0, locals := 0 }
set_option maxHeartbeats 4000000 in
set_option maxRecDepth 100000 in
theorem c_City_takesIn (l : Launch) (D : va_G) (cI cM cS cJ : ClassId) (aC : Nat → Nat) (aK : Nat → Nat) (sz : Nat) (x1 : Int32) (x2 : Int32) (x3 : Int32) (c_men : Int32) (c_propped : Int32) (c_place : Int32) (c_swings : Int32) (c_crashes : Int32) (c_day : Int32) (c_crashedToday : Int32) (c_kind : Nat → Int32) (c_figure : Nat → Int32) (c_lean : Nat → Int32) {o : (Int32) × (Int32) × (Nat → Int32) × (Nat → Int32) × (Nat → Int32)} (hsem : S_City_takesIn x1 x2 x3 c_men c_kind c_figure c_lean = some o) : kMet l yX2_takesIn wsX2_takesIn rm_X2_takesIn [.ref (aC 0), .int x1, .int x2, .int x3] D (kT cI cM cS cJ) (Wd7 cI aC aK c_men c_propped c_place c_swings c_crashes c_day c_crashedToday c_kind c_figure c_lean) sz (some (.int o.1)) (Wd7 cI aC aK o.2.1 c_propped c_place c_swings c_crashes c_day c_crashedToday o.2.2.1 o.2.2.2.1 o.2.2.2.2) := by
  refine k_metZ (by decide) rfl rfl (Nat.le_of_ble_eq_true rfl) ?_
  intro p e s m below meth c ls Q A hx hb hml hts hown hK hN hA hP hD hS hl hsz hnm hret
  have hown : s.vm.findClass RX2 = some m.cls := hown
  have hf34 := hts (.fieldLink RX2 34 "PlumbLine$City" "men" "I") (List.mem_of_getElem? (i := 1) rfl)
  have hf9 := hts (.fieldLink RX2 9 "PlumbLine$City" "kind" "[I") (List.mem_of_getElem? (i := 2) rfl)
  have hf15 := hts (.fieldLink RX2 15 "PlumbLine$City" "figure" "[I") (List.mem_of_getElem? (i := 3) rfl)
  have hf18 := hts (.fieldLink RX2 18 "PlumbLine$City" "lean" "[I") (List.mem_of_getElem? (i := 4) rfl)
  have hiX2 : ∀ w ∈ u_ws RX2 TX2 12, w ∈ wsX2_takesIn := fun w h => List.mem_cons_of_mem _ (List.mem_append_right _ h)
  replace hl : lv_has ls 4 [(0, .ref (aC 0)), (1, .int x1), (2, .int x2), (3, .int x3)] := hl
  have h := hsem
  clear hsem
  rw [S_City_takesIn] at h
  refine lv_aload_n hx hb dX2_takesIn_0 rfl (lv_at hl 0 rfl) ?_
  refine va_get (D := D) (ci := 2) (v := .int c_men) (C := RX2) (T := TX2) (N := 12) hx hb hts hiX2 hown hK hP 0 rfl rfl 3 (by decide) hf34 (fun _ z => z) rfl dX2_takesIn_1 ?_
  refine lv_bipush (v := 8) hx hb dX2_takesIn_4 (by decide) ?_
  refine lv_icmp_lt (tgt := 11) hx hb dX2_takesIn_6 (by decide) (fun c6 => ?_) (fun c6 => ?_)
  · have h := k_pos c6 h
    refine lv_aload_n hx hb dX2_takesIn_11 rfl (lv_at hl 0 rfl) ?_
    refine va_get (D := D) (ci := 2) (v := .ref (aC 1)) (C := RX2) (T := TX2) (N := 12) hx hb hts hiX2 hown hK hP 0 rfl rfl 0 (by decide) hf9 (fun _ z => z) rfl dX2_takesIn_12 ?_
    refine lv_aload_n hx hb dX2_takesIn_15 rfl (lv_at hl 0 rfl) ?_
    refine va_get (D := D) (ci := 2) (v := .int c_men) (C := RX2) (T := TX2) (N := 12) hx hb hts hiX2 hown hK hP 0 rfl rfl 3 (by decide) hf34 (fun _ z => z) rfl dX2_takesIn_16 ?_
    refine lv_iload_n hx hb dX2_takesIn_19 rfl (lv_at hl 1 rfl) ?_
    obtain ⟨g20, h⟩ := k_guard h
    refine va_iast hx hb hK hP hD hS 1 0 rfl rfl g20 dX2_takesIn_20 (fun H locs hP hD hS => ?_)
    replace hP : va_P D vwCl (Wd7 cI aC aK c_men c_propped c_place c_swings c_crashes c_day c_crashedToday (upd c_kind c_men.toNatClampNeg x1) c_figure c_lean) H := hP
    replace hD : va_D A (Wd7 cI aC aK c_men c_propped c_place c_swings c_crashes c_day c_crashedToday (upd c_kind c_men.toNatClampNeg x1) c_figure c_lean) := hD
    refine lv_aload_n hx hb dX2_takesIn_21 rfl (lv_at hl 0 rfl) ?_
    refine va_get (D := D) (ci := 2) (v := .ref (aC 2)) (C := RX2) (T := TX2) (N := 12) hx hb hts hiX2 hown hK hP 0 rfl rfl 1 (by decide) hf15 (fun _ z => z) rfl dX2_takesIn_22 ?_
    refine lv_aload_n hx hb dX2_takesIn_25 rfl (lv_at hl 0 rfl) ?_
    refine va_get (D := D) (ci := 2) (v := .int c_men) (C := RX2) (T := TX2) (N := 12) hx hb hts hiX2 hown hK hP 0 rfl rfl 3 (by decide) hf34 (fun _ z => z) rfl dX2_takesIn_26 ?_
    refine lv_iload_n hx hb dX2_takesIn_29 rfl (lv_at hl 2 rfl) ?_
    refine va_iast hx hb hK hP hD hS 2 0 rfl rfl g20 dX2_takesIn_30 (fun H locs hP hD hS => ?_)
    replace hP : va_P D vwCl (Wd7 cI aC aK c_men c_propped c_place c_swings c_crashes c_day c_crashedToday (upd c_kind c_men.toNatClampNeg x1) (upd c_figure c_men.toNatClampNeg x2) c_lean) H := hP
    replace hD : va_D A (Wd7 cI aC aK c_men c_propped c_place c_swings c_crashes c_day c_crashedToday (upd c_kind c_men.toNatClampNeg x1) (upd c_figure c_men.toNatClampNeg x2) c_lean) := hD
    refine lv_aload_n hx hb dX2_takesIn_31 rfl (lv_at hl 0 rfl) ?_
    refine va_get (D := D) (ci := 2) (v := .ref (aC 3)) (C := RX2) (T := TX2) (N := 12) hx hb hts hiX2 hown hK hP 0 rfl rfl 2 (by decide) hf18 (fun _ z => z) rfl dX2_takesIn_32 ?_
    refine lv_aload_n hx hb dX2_takesIn_35 rfl (lv_at hl 0 rfl) ?_
    refine va_get (D := D) (ci := 2) (v := .int c_men) (C := RX2) (T := TX2) (N := 12) hx hb hts hiX2 hown hK hP 0 rfl rfl 3 (by decide) hf34 (fun _ z => z) rfl dX2_takesIn_36 ?_
    refine lv_iload_n hx hb dX2_takesIn_39 rfl (lv_at hl 3 rfl) ?_
    refine va_iast hx hb hK hP hD hS 3 0 rfl rfl g20 dX2_takesIn_40 (fun H locs hP hD hS => ?_)
    replace hP : va_P D vwCl (Wd7 cI aC aK c_men c_propped c_place c_swings c_crashes c_day c_crashedToday (upd c_kind c_men.toNatClampNeg x1) (upd c_figure c_men.toNatClampNeg x2) (upd c_lean c_men.toNatClampNeg x3)) H := hP
    replace hD : va_D A (Wd7 cI aC aK c_men c_propped c_place c_swings c_crashes c_day c_crashedToday (upd c_kind c_men.toNatClampNeg x1) (upd c_figure c_men.toNatClampNeg x2) (upd c_lean c_men.toNatClampNeg x3)) := hD
    refine lv_aload_n hx hb dX2_takesIn_41 rfl (lv_at hl 0 rfl) ?_
    refine lv_dup hx hb dX2_takesIn_42 rfl ?_
    refine va_get (D := D) (ci := 2) (v := .int c_men) (C := RX2) (T := TX2) (N := 12) hx hb hts hiX2 hown hK hP 0 rfl rfl 3 (by decide) hf34 (fun _ z => z) rfl dX2_takesIn_43 ?_
    refine lv_iconst (v := 1) hx hb dX2_takesIn_46 (by decide) ?_
    refine lv_iadd hx hb dX2_takesIn_47 ?_
    refine va_put (D := D) (ci := 2) (v := .int (c_men + 1)) (ty := .int) (C := RX2) (T := TX2) (N := 12) hx hb hts hiX2 tyX2 tyX2_ok nmX2 hown hK hP hD hS 0 rfl rfl 3 (by decide) hf34 (fun _ z => z) rfl (by decide +kernel) rfl rfl (Nat.le_of_ble_eq_true rfl) dX2_takesIn_48 (fun H locs hP hD hS => ?_)
    replace hP : va_P D vwCl (Wd7 cI aC aK (c_men + 1) c_propped c_place c_swings c_crashes c_day c_crashedToday (upd c_kind c_men.toNatClampNeg x1) (upd c_figure c_men.toNatClampNeg x2) (upd c_lean c_men.toNatClampNeg x3)) H := hP
    replace hD : va_D A (Wd7 cI aC aK (c_men + 1) c_propped c_place c_swings c_crashes c_day c_crashedToday (upd c_kind c_men.toNatClampNeg x1) (upd c_figure c_men.toNatClampNeg x2) (upd c_lean c_men.toNatClampNeg x3)) := hD
    refine lv_iconst (v := 1) hx hb dX2_takesIn_51 (by decide) ?_
    cases h
    exact hret _ _ _ _ rfl hP hS dX2_takesIn_52
  · have h := k_neg c6 h
    refine lv_iconst (v := 0) hx hb dX2_takesIn_9 (by decide) ?_
    cases h
    exact hret _ _ _ _ rfl hP hS dX2_takesIn_10
abbrev rm_X2_isPropped : Room := { frames := 0, cells := 0, slots := 0, locals := 0 }
set_option maxHeartbeats 4000000 in
set_option maxRecDepth 100000 in
theorem c_City_isPropped (l : Launch) (D : va_G) (cI cM cS cJ : ClassId) (aC : Nat → Nat) (aK : Nat → Nat) (sz : Nat) (x1 : Int32) (c_men : Int32) (c_propped : Int32) (c_place : Int32) (c_swings : Int32) (c_crashes : Int32) (c_day : Int32) (c_crashedToday : Int32) {o : (Int32)} (hsem : S_City_isPropped x1 c_propped = o) : kMet l yX2_isPropped wsX2_isPropped rm_X2_isPropped [.ref (aC 0), .int x1] D (kT cI cM cS cJ) (Wd6 aC aK c_men c_propped c_place c_swings c_crashes c_day c_crashedToday) sz (some (.int o)) (Wd6 aC aK c_men c_propped c_place c_swings c_crashes c_day c_crashedToday) := by
  refine k_metZ (by decide) rfl rfl (Nat.le_of_ble_eq_true rfl) ?_
  intro p e s m below meth c ls Q A hx hb hml hts hown hK hN hA hP hD hS hl hsz hnm hret
  have hown : s.vm.findClass RX2 = some m.cls := hown
  have hf38 := hts (.fieldLink RX2 38 "PlumbLine$City" "propped" "I") (List.mem_of_getElem? (i := 1) rfl)
  have hiX2 : ∀ w ∈ u_ws RX2 TX2 12, w ∈ wsX2_isPropped := fun w h => List.mem_cons_of_mem _ (List.mem_append_right _ h)
  replace hl : lv_has ls 2 [(0, .ref (aC 0)), (1, .int x1)] := hl
  have h := hsem
  clear hsem
  rw [S_City_isPropped] at h
  refine lv_aload_n hx hb dX2_isPropped_0 rfl (lv_at hl 0 rfl) ?_
  refine va_get (D := D) (ci := 2) (v := .int c_propped) (C := RX2) (T := TX2) (N := 12) hx hb hts hiX2 hown hK hP 0 rfl rfl 4 (by decide) hf38 (fun _ z => z) rfl dX2_isPropped_1 ?_
  refine lv_iconst (v := 1) hx hb dX2_isPropped_4 (by decide) ?_
  refine lv_iload_n hx hb dX2_isPropped_5 rfl (lv_at hl 1 rfl) ?_
  refine lv_ishl hx hb dX2_isPropped_6 ?_
  refine lv_iand hx hb dX2_isPropped_7 ?_
  refine lv_if_eq (tgt := 15) hx hb dX2_isPropped_8 (by decide) (fun c8 => ?_) (fun c8 => ?_)
  · have h := k_pos c8 h
    refine lv_iconst (v := 0) hx hb dX2_isPropped_15 (by decide) ?_
    cases h
    exact hret _ _ _ _ rfl hP hS dX2_isPropped_16
  · have h := k_neg c8 h
    refine lv_iconst (v := 1) hx hb dX2_isPropped_11 (by decide) ?_
    refine lv_goto (tgt := 16) hx hb dX2_isPropped_12 (by decide) ?_
    cases h
    exact hret _ _ _ _ rfl hP hS dX2_isPropped_16
abbrev rm_X2_turnProp : Room := { frames := 0, cells := 0, slots := 0, locals := 0 }
set_option maxHeartbeats 4000000 in
set_option maxRecDepth 100000 in
theorem c_City_turnProp (l : Launch) (D : va_G) (cI cM cS cJ : ClassId) (aC : Nat → Nat) (aK : Nat → Nat) (sz : Nat) (x1 : Int32) (c_men : Int32) (c_propped : Int32) (c_place : Int32) (c_swings : Int32) (c_crashes : Int32) (c_day : Int32) (c_crashedToday : Int32) {o : (Int32)} (hsem : S_City_turnProp x1 c_propped = o) : kMet l yX2_turnProp wsX2_turnProp rm_X2_turnProp [.ref (aC 0), .int x1] D (kT cI cM cS cJ) (Wd6 aC aK c_men c_propped c_place c_swings c_crashes c_day c_crashedToday) sz none (Wd6 aC aK c_men o c_place c_swings c_crashes c_day c_crashedToday) := by
  refine k_metV (by decide) rfl rfl (Nat.le_of_ble_eq_true rfl) ?_
  intro p e s m below meth c ls Q A hx hb hml hts hown hK hN hA hP hD hS hl hsz hnm hret
  have hown : s.vm.findClass RX2 = some m.cls := hown
  have hf38 := hts (.fieldLink RX2 38 "PlumbLine$City" "propped" "I") (List.mem_of_getElem? (i := 1) rfl)
  have hiX2 : ∀ w ∈ u_ws RX2 TX2 12, w ∈ wsX2_turnProp := fun w h => List.mem_cons_of_mem _ (List.mem_append_right _ h)
  replace hl : lv_has ls 2 [(0, .ref (aC 0)), (1, .int x1)] := hl
  have h := hsem
  clear hsem
  rw [S_City_turnProp] at h
  refine lv_aload_n hx hb dX2_turnProp_0 rfl (lv_at hl 0 rfl) ?_
  refine lv_dup hx hb dX2_turnProp_1 rfl ?_
  refine va_get (D := D) (ci := 2) (v := .int c_propped) (C := RX2) (T := TX2) (N := 12) hx hb hts hiX2 hown hK hP 0 rfl rfl 4 (by decide) hf38 (fun _ z => z) rfl dX2_turnProp_2 ?_
  refine lv_iconst (v := 1) hx hb dX2_turnProp_5 (by decide) ?_
  refine lv_iload_n hx hb dX2_turnProp_6 rfl (lv_at hl 1 rfl) ?_
  refine lv_ishl hx hb dX2_turnProp_7 ?_
  refine lv_ixor hx hb dX2_turnProp_8 ?_
  refine va_put (D := D) (ci := 2) (v := .int (c_propped ^^^ ((1 : Int32) <<< (x1 &&& 31)))) (ty := .int) (C := RX2) (T := TX2) (N := 12) hx hb hts hiX2 tyX2 tyX2_ok nmX2 hown hK hP hD hS 0 rfl rfl 4 (by decide) hf38 (fun _ z => z) rfl (by decide +kernel) rfl rfl (Nat.le_of_ble_eq_true rfl) dX2_turnProp_9 (fun H locs hP hD hS => ?_)
  replace hP : va_P D vwCl (Wd6 aC aK c_men (c_propped ^^^ ((1 : Int32) <<< (x1 &&& 31))) c_place c_swings c_crashes c_day c_crashedToday) H := hP
  replace hD : va_D A (Wd6 aC aK c_men (c_propped ^^^ ((1 : Int32) <<< (x1 &&& 31))) c_place c_swings c_crashes c_day c_crashedToday) := hD
  cases h
  exact hret _ _ _ _ hP hS dX2_turnProp_12
abbrev Wd8 (cI : ClassId) (aC : Nat → Nat) (aD : Nat → Nat) (aK : Nat → Nat) (c_men : Int32) (c_propped : Int32) (c_place : Int32) (c_swings : Int32) (c_crashes : Int32) (c_day : Int32) (c_crashedToday : Int32) (c_kind : Nat → Int32) (c_figure : Nat → Int32) (c_lean : Nat → Int32) (d_kind : Int32) (d_figure : Int32) (d_sort : Int32) (d_size : Int32) (d_held : Int32) (d_el : Nat → Int32) : va_W := [((aC 0), .inr (2, [.ref (aC 1), .ref (aC 2), .ref (aC 3), .int c_men, .int c_propped, .int c_place, .int c_swings, .int c_crashes, .int c_day, .int c_crashedToday, .ref (aK 8), .ref (aC 4)])), ((aC 1), .inl (cI, 8, .inl c_kind)), ((aC 2), .inl (cI, 8, .inl c_figure)), ((aC 3), .inl (cI, 8, .inl c_lean)), ((aD 0), .inr (9, [.ref (aD 1), .int d_kind, .int d_figure, .int d_sort, .int d_size, .int d_held, .ref (aK 8)])), ((aD 1), .inl (cI, 100, .inl d_el))]
theorem kdV_X9_twoDigits : yX9_twoDigits.cls = RX9 ∧ yX9_twoDigits.cls ≠ "java/lang/invoke/MethodHandle" ∧ yX9_twoDigits.cls ≠ "java/lang/invoke/VarHandle" ∧ (parseMethodDescriptor yX9_twoDigits.desc).map (fun d => d.parameters.length) = some 1 := by decide +kernel
theorem kdV_X2_takesIn : yX2_takesIn.cls = RX2 ∧ yX2_takesIn.cls ≠ "java/lang/invoke/MethodHandle" ∧ yX2_takesIn.cls ≠ "java/lang/invoke/VarHandle" ∧ (parseMethodDescriptor yX2_takesIn.desc).map (fun d => d.parameters.length) = some 3 := by decide +kernel
abbrev rm_X2_takesManTold : Room := { frames := 3, cells := 0, slots := 0, locals := 63 }
set_option maxHeartbeats 4000000 in
set_option maxRecDepth 100000 in
theorem c_City_takesManTold (l : Launch) (D : va_G) (cI cM cS cJ : ClassId) (aC : Nat → Nat) (aD : Nat → Nat) (aK : Nat → Nat) (sz : Nat) (x2 : Int32) (c_men : Int32) (c_propped : Int32) (c_place : Int32) (c_swings : Int32) (c_crashes : Int32) (c_day : Int32) (c_crashedToday : Int32) (c_kind : Nat → Int32) (c_figure : Nat → Int32) (c_lean : Nat → Int32) (d_kind : Int32) (d_figure : Int32) (d_sort : Int32) (d_size : Int32) (d_held : Int32) (d_el : Nat → Int32) {o : (Int32) × (Int32) × (Nat → Int32) × (Nat → Int32) × (Nat → Int32)} (hsem : S_City_takesManTold x2 c_men c_kind c_figure c_lean d_size d_el = some o) : kMet l yX2_takesManTold wsX2_takesManTold rm_X2_takesManTold [.ref (aC 0), .ref (aD 0), .int x2] D (kT cI cM cS cJ) (Wd8 cI aC aD aK c_men c_propped c_place c_swings c_crashes c_day c_crashedToday c_kind c_figure c_lean d_kind d_figure d_sort d_size d_held d_el) sz (some (.int o.1)) (Wd8 cI aC aD aK o.2.1 c_propped c_place c_swings c_crashes c_day c_crashedToday o.2.2.1 o.2.2.2.1 o.2.2.2.2 d_kind d_figure d_sort d_size d_held d_el) := by
  refine k_metZ (by decide) rfl rfl (Nat.le_of_ble_eq_true rfl) ?_
  intro p e s m below meth c ls Q A hx hb hml hts hown hK hN hA hP hD hS hl hsz hnm hret
  have hown : s.vm.findClass RX2 = some m.cls := hown
  replace hl : lv_has ls 5 [(0, .ref (aC 0)), (1, .ref (aD 0)), (2, .int x2)] := hl
  have h := hsem
  clear hsem
  rw [S_City_takesManTold] at h
  refine lv_aload_n hx hb dX2_takesManTold_0 rfl (lv_at hl 1 rfl) ?_
  refine lv_iload_n hx hb dX2_takesManTold_1 rfl (lv_at hl 2 rfl) ?_
  refine lv_iconst (v := 1) hx hb dX2_takesManTold_2 (by decide) ?_
  refine lv_iadd hx hb dX2_takesManTold_3 ?_
  obtain ⟨r4, g4, h⟩ := k_bind h
  refine k_callV (As := [.int (x2 + 1)]) (rest := []) (st1 := [.int r4]) (ws2 := (Wd8 cI aC aD aK c_men c_propped c_place c_swings c_crashes c_day c_crashedToday c_kind c_figure c_lean d_kind d_figure d_sort d_size d_held d_el)) hx hb hml hown hts hK hN hA hP hD hS hl (c_Shelf_digit l D cI cM cS cJ aD aK s.heap.size (x2 + 1) d_kind d_figure d_sort d_size d_held d_el g4) gX2_takesManTold_X9_digit rfl kdV_X9_digit 0 9 rfl rfl rfl [4, 5] ⟨rfl, rfl⟩ ⟨Nat.le_of_ble_eq_true rfl, Nat.le_of_ble_eq_true rfl⟩ ⟨Nat.zero_le _, Nat.zero_le _⟩ rfl rfl (by decide +kernel) rfl rfl rfl (Nat.le_of_ble_eq_true rfl) dX2_takesManTold_4 rfl (fun H locs hP hD hS => ?_)
  refine lv_istore_n (lv' := [(3, .int r4), (0, .ref (aC 0)), (1, .ref (aD 0)), (2, .int x2)]) hx hb dX2_takesManTold_7 rfl hl (by decide) rfl (fun ls hl => ?_)
  refine lv_aload_n hx hb dX2_takesManTold_8 rfl (lv_at hl 2 rfl) ?_
  refine lv_iload_n hx hb dX2_takesManTold_9 rfl (lv_at hl 3 rfl) ?_
  refine lv_iconst (v := 3) hx hb dX2_takesManTold_10 (by decide) ?_
  refine lv_iadd hx hb dX2_takesManTold_11 ?_
  obtain ⟨r12, g12, h⟩ := k_bind h
  refine k_callV (As := [.int (x2 + 3)]) (rest := []) (st1 := [.int r12]) (ws2 := (Wd8 cI aC aD aK c_men c_propped c_place c_swings c_crashes c_day c_crashedToday c_kind c_figure c_lean d_kind d_figure d_sort d_size d_held d_el)) hx hb hml hown hts hK hN hA hP hD hS hl (c_Shelf_twoDigits l D cI cM cS cJ aD aK H.size (x2 + 3) d_kind d_figure d_sort d_size d_held d_el g12) gX2_takesManTold_X9_twoDigits rfl kdV_X9_twoDigits 0 9 rfl rfl rfl [4, 5] ⟨rfl, rfl⟩ ⟨Nat.le_of_ble_eq_true rfl, Nat.le_of_ble_eq_true rfl⟩ ⟨Nat.zero_le _, Nat.zero_le _⟩ rfl rfl (by decide +kernel) rfl rfl rfl (Nat.le_of_ble_eq_true rfl) dX2_takesManTold_12 rfl (fun H locs hP hD hS => ?_)
  refine lv_bipush (v := 45) hx hb dX2_takesManTold_15 (by decide) ?_
  refine lv_isub hx hb dX2_takesManTold_17 ?_
  refine lv_istore (lv' := [(4, .int (r12 - 45)), (3, .int r4), (0, .ref (aC 0)), (1, .ref (aD 0)), (2, .int x2)]) hx hb dX2_takesManTold_18 hl (by decide) rfl (fun ls hl => ?_)
  refine lv_iload_n hx hb dX2_takesManTold_20 rfl (lv_at hl 1 rfl) ?_
  refine lv_bipush (v := 8) hx hb dX2_takesManTold_21 (by decide) ?_
  refine lv_icmp_ge (tgt := 54) hx hb dX2_takesManTold_23 (by decide) (fun c23 => ?_) (fun c23 => ?_)
  · have h := k_pos c23 h
    refine lv_iconst (v := 0) hx hb dX2_takesManTold_54 (by decide) ?_
    cases h
    exact hret _ _ _ _ rfl hP hS dX2_takesManTold_55
  · have h := k_neg c23 h
    refine lv_iload hx hb dX2_takesManTold_26 (lv_at hl 0 rfl) ?_
    refine lv_bipush (v := 45) hx hb dX2_takesManTold_28 (by decide) ?_
    refine lv_icmp_gt (tgt := 54) hx hb dX2_takesManTold_30 (by decide) (fun c30 => ?_) (fun c30 => ?_)
    · have h := k_pos c30 h
      refine lv_iconst (v := 0) hx hb dX2_takesManTold_54 (by decide) ?_
      cases h
      exact hret _ _ _ _ rfl hP hS dX2_takesManTold_55
    · have h := k_neg c30 h
      refine lv_aload_n hx hb dX2_takesManTold_33 rfl (lv_at hl 2 rfl) ?_
      refine lv_iload_n hx hb dX2_takesManTold_34 rfl (lv_at hl 1 rfl) ?_
      refine lv_aload_n hx hb dX2_takesManTold_35 rfl (lv_at hl 3 rfl) ?_
      refine lv_iload_n hx hb dX2_takesManTold_36 rfl (lv_at hl 4 rfl) ?_
      refine lv_iconst (v := 2) hx hb dX2_takesManTold_37 (by decide) ?_
      refine lv_iadd hx hb dX2_takesManTold_38 ?_
      obtain ⟨r39, g39, h⟩ := k_bind h
      refine k_callV (As := [.int (x2 + 2)]) (rest := [.int r4, .ref (aC 0)]) (st1 := [.int r39, .int r4, .ref (aC 0)]) (ws2 := (Wd8 cI aC aD aK c_men c_propped c_place c_swings c_crashes c_day c_crashedToday c_kind c_figure c_lean d_kind d_figure d_sort d_size d_held d_el)) hx hb hml hown hts hK hN hA hP hD hS hl (c_Shelf_digit l D cI cM cS cJ aD aK H.size (x2 + 2) d_kind d_figure d_sort d_size d_held d_el g39) gX2_takesManTold_X9_digit rfl kdV_X9_digit 0 9 rfl rfl rfl [4, 5] ⟨rfl, rfl⟩ ⟨Nat.le_of_ble_eq_true rfl, Nat.le_of_ble_eq_true rfl⟩ ⟨Nat.zero_le _, Nat.zero_le _⟩ rfl rfl (by decide +kernel) rfl rfl rfl (Nat.le_of_ble_eq_true rfl) dX2_takesManTold_39 rfl (fun H locs hP hD hS => ?_)
      refine lv_iload hx hb dX2_takesManTold_42 (lv_at hl 0 rfl) ?_
      obtain ⟨r44, g44, h⟩ := k_bind h
      refine k_callV (As := [.int r4, .int r39, .int (r12 - 45)]) (rest := []) (st1 := [.int r44.1]) (ws2 := (Wd8 cI aC aD aK r44.2.1 c_propped c_place c_swings c_crashes c_day c_crashedToday r44.2.2.1 r44.2.2.2.1 r44.2.2.2.2 d_kind d_figure d_sort d_size d_held d_el)) hx hb hml hown hts hK hN hA hP hD hS hl (c_City_takesIn l D cI cM cS cJ aC aK H.size r4 r39 (r12 - 45) c_men c_propped c_place c_swings c_crashes c_day c_crashedToday c_kind c_figure c_lean g44) gX2_takesManTold_X2_takesIn rfl kdV_X2_takesIn 0 2 rfl rfl rfl [0, 1, 2, 3] ⟨rfl, rfl⟩ ⟨Nat.le_of_ble_eq_true rfl, Nat.le_of_ble_eq_true rfl⟩ ⟨Nat.zero_le _, Nat.zero_le _⟩ rfl rfl (by decide +kernel) rfl rfl rfl (Nat.le_of_ble_eq_true rfl) dX2_takesManTold_44 rfl (fun H locs hP hD hS => ?_)
      refine lv_if_eq (tgt := 54) hx hb dX2_takesManTold_47 (by decide) (fun c47 => ?_) (fun c47 => ?_)
      · have h := k_pos c47 h
        refine lv_iconst (v := 0) hx hb dX2_takesManTold_54 (by decide) ?_
        cases h
        exact hret _ _ _ _ rfl hP hS dX2_takesManTold_55
      · have h := k_neg c47 h
        refine lv_iconst (v := 1) hx hb dX2_takesManTold_50 (by decide) ?_
        refine lv_goto (tgt := 55) hx hb dX2_takesManTold_51 (by decide) ?_
        cases h
        exact hret _ _ _ _ rfl hP hS dX2_takesManTold_55
abbrev Wd9 (cI : ClassId) (aC : Nat → Nat) (aD : Nat → Nat) (aK : Nat → Nat) (c_men : Int32) (c_propped : Int32) (c_place : Int32) (c_swings : Int32) (c_crashes : Int32) (c_day : Int32) (c_crashedToday : Int32) (c_lean : Nat → Int32) (d_kind : Int32) (d_figure : Int32) (d_sort : Int32) (d_size : Int32) (d_held : Int32) (d_el : Nat → Int32) : va_W := [((aC 0), .inr (2, [.ref (aC 1), .ref (aC 2), .ref (aC 3), .int c_men, .int c_propped, .int c_place, .int c_swings, .int c_crashes, .int c_day, .int c_crashedToday, .ref (aK 8), .ref (aC 4)])), ((aC 3), .inl (cI, 8, .inl c_lean)), ((aD 0), .inr (9, [.ref (aD 1), .int d_kind, .int d_figure, .int d_sort, .int d_size, .int d_held, .ref (aK 8)])), ((aD 1), .inl (cI, 100, .inl d_el))]
theorem kdV_X2_has : yX2_has.cls = RX2 ∧ yX2_has.cls ≠ "java/lang/invoke/MethodHandle" ∧ yX2_has.cls ≠ "java/lang/invoke/VarHandle" ∧ (parseMethodDescriptor yX2_has.desc).map (fun d => d.parameters.length) = some 1 := by decide +kernel
abbrev rm_X2_takesLeanTold : Room := { frames := 3, cells := 0, slots := 0, locals := 63 }
set_option maxHeartbeats 4000000 in
set_option maxRecDepth 100000 in
theorem c_City_takesLeanTold (l : Launch) (D : va_G) (cI cM cS cJ : ClassId) (aC : Nat → Nat) (aD : Nat → Nat) (aK : Nat → Nat) (sz : Nat) (x2 : Int32) (c_men : Int32) (c_propped : Int32) (c_place : Int32) (c_swings : Int32) (c_crashes : Int32) (c_day : Int32) (c_crashedToday : Int32) (c_lean : Nat → Int32) (d_kind : Int32) (d_figure : Int32) (d_sort : Int32) (d_size : Int32) (d_held : Int32) (d_el : Nat → Int32) {o : (Int32) × (Nat → Int32)} (hsem : S_City_takesLeanTold x2 c_men c_lean d_size d_el = some o) : kMet l yX2_takesLeanTold wsX2_takesLeanTold rm_X2_takesLeanTold [.ref (aC 0), .ref (aD 0), .int x2] D (kT cI cM cS cJ) (Wd9 cI aC aD aK c_men c_propped c_place c_swings c_crashes c_day c_crashedToday c_lean d_kind d_figure d_sort d_size d_held d_el) sz (some (.int o.1)) (Wd9 cI aC aD aK c_men c_propped c_place c_swings c_crashes c_day c_crashedToday o.2 d_kind d_figure d_sort d_size d_held d_el) := by
  refine k_metZ (by decide) rfl rfl (Nat.le_of_ble_eq_true rfl) ?_
  intro p e s m below meth c ls Q A hx hb hml hts hown hK hN hA hP hD hS hl hsz hnm hret
  have hown : s.vm.findClass RX2 = some m.cls := hown
  have hf18 := hts (.fieldLink RX2 18 "PlumbLine$City" "lean" "[I") (List.mem_of_getElem? (i := 1) rfl)
  have hiX2 : ∀ w ∈ u_ws RX2 TX2 12, w ∈ wsX2_takesLeanTold := fun w h => List.mem_cons_of_mem _ (List.mem_append_left _ (List.mem_append_right _ h))
  replace hl : lv_has ls 5 [(0, .ref (aC 0)), (1, .ref (aD 0)), (2, .int x2)] := hl
  have h := hsem
  clear hsem
  rw [S_City_takesLeanTold] at h
  refine lv_aload_n hx hb dX2_takesLeanTold_0 rfl (lv_at hl 1 rfl) ?_
  refine lv_iload_n hx hb dX2_takesLeanTold_1 rfl (lv_at hl 2 rfl) ?_
  refine lv_iconst (v := 1) hx hb dX2_takesLeanTold_2 (by decide) ?_
  refine lv_iadd hx hb dX2_takesLeanTold_3 ?_
  obtain ⟨r4, g4, h⟩ := k_bind h
  refine k_callV (As := [.int (x2 + 1)]) (rest := []) (st1 := [.int r4]) (ws2 := (Wd9 cI aC aD aK c_men c_propped c_place c_swings c_crashes c_day c_crashedToday c_lean d_kind d_figure d_sort d_size d_held d_el)) hx hb hml hown hts hK hN hA hP hD hS hl (c_Shelf_digit l D cI cM cS cJ aD aK s.heap.size (x2 + 1) d_kind d_figure d_sort d_size d_held d_el g4) gX2_takesLeanTold_X9_digit rfl kdV_X9_digit 0 9 rfl rfl rfl [2, 3] ⟨rfl, rfl⟩ ⟨Nat.le_of_ble_eq_true rfl, Nat.le_of_ble_eq_true rfl⟩ ⟨Nat.zero_le _, Nat.zero_le _⟩ rfl rfl (by decide +kernel) rfl rfl rfl (Nat.le_of_ble_eq_true rfl) dX2_takesLeanTold_4 rfl (fun H locs hP hD hS => ?_)
  refine lv_istore_n (lv' := [(3, .int r4), (0, .ref (aC 0)), (1, .ref (aD 0)), (2, .int x2)]) hx hb dX2_takesLeanTold_7 rfl hl (by decide) rfl (fun ls hl => ?_)
  refine lv_aload_n hx hb dX2_takesLeanTold_8 rfl (lv_at hl 2 rfl) ?_
  refine lv_iload_n hx hb dX2_takesLeanTold_9 rfl (lv_at hl 3 rfl) ?_
  refine lv_iconst (v := 2) hx hb dX2_takesLeanTold_10 (by decide) ?_
  refine lv_iadd hx hb dX2_takesLeanTold_11 ?_
  obtain ⟨r12, g12, h⟩ := k_bind h
  refine k_callV (As := [.int (x2 + 2)]) (rest := []) (st1 := [.int r12]) (ws2 := (Wd9 cI aC aD aK c_men c_propped c_place c_swings c_crashes c_day c_crashedToday c_lean d_kind d_figure d_sort d_size d_held d_el)) hx hb hml hown hts hK hN hA hP hD hS hl (c_Shelf_twoDigits l D cI cM cS cJ aD aK H.size (x2 + 2) d_kind d_figure d_sort d_size d_held d_el g12) gX2_takesLeanTold_X9_twoDigits rfl kdV_X9_twoDigits 0 9 rfl rfl rfl [2, 3] ⟨rfl, rfl⟩ ⟨Nat.le_of_ble_eq_true rfl, Nat.le_of_ble_eq_true rfl⟩ ⟨Nat.zero_le _, Nat.zero_le _⟩ rfl rfl (by decide +kernel) rfl rfl rfl (Nat.le_of_ble_eq_true rfl) dX2_takesLeanTold_12 rfl (fun H locs hP hD hS => ?_)
  refine lv_bipush (v := 45) hx hb dX2_takesLeanTold_15 (by decide) ?_
  refine lv_isub hx hb dX2_takesLeanTold_17 ?_
  refine lv_istore (lv' := [(4, .int (r12 - 45)), (3, .int r4), (0, .ref (aC 0)), (1, .ref (aD 0)), (2, .int x2)]) hx hb dX2_takesLeanTold_18 hl (by decide) rfl (fun ls hl => ?_)
  refine lv_aload_n hx hb dX2_takesLeanTold_20 rfl (lv_at hl 2 rfl) ?_
  refine lv_iload_n hx hb dX2_takesLeanTold_21 rfl (lv_at hl 1 rfl) ?_
  refine k_callV (As := [.int r4]) (rest := []) (st1 := [.int (S_City_has r4 c_men)]) (ws2 := (Wd9 cI aC aD aK c_men c_propped c_place c_swings c_crashes c_day c_crashedToday c_lean d_kind d_figure d_sort d_size d_held d_el)) hx hb hml hown hts hK hN hA hP hD hS hl (c_City_has l D cI cM cS cJ aC aK H.size r4 c_men c_propped c_place c_swings c_crashes c_day c_crashedToday rfl) gX2_takesLeanTold_X2_has rfl kdV_X2_has 0 2 rfl rfl rfl [0] ⟨rfl, rfl⟩ ⟨Nat.le_of_ble_eq_true rfl, Nat.le_of_ble_eq_true rfl⟩ ⟨Nat.zero_le _, Nat.zero_le _⟩ rfl rfl (by decide +kernel) rfl rfl rfl (Nat.le_of_ble_eq_true rfl) dX2_takesLeanTold_22 rfl (fun H locs hP hD hS => ?_)
  refine lv_if_eq (tgt := 35) hx hb dX2_takesLeanTold_25 (by decide) (fun c25 => ?_) (fun c25 => ?_)
  · have h := k_pos c25 h
    refine lv_iconst (v := 0) hx hb dX2_takesLeanTold_35 (by decide) ?_
    cases h
    exact hret _ _ _ _ rfl hP hS dX2_takesLeanTold_36
  · have h := k_neg c25 h
    refine lv_iload hx hb dX2_takesLeanTold_28 (lv_at hl 0 rfl) ?_
    refine lv_bipush (v := 45) hx hb dX2_takesLeanTold_30 (by decide) ?_
    refine lv_icmp_le (tgt := 37) hx hb dX2_takesLeanTold_32 (by decide) (fun c32 => ?_) (fun c32 => ?_)
    · have h := k_pos c32 h
      refine lv_aload_n hx hb dX2_takesLeanTold_37 rfl (lv_at hl 2 rfl) ?_
      refine va_get (D := D) (ci := 2) (v := .ref (aC 3)) (C := RX2) (T := TX2) (N := 12) hx hb hts hiX2 hown hK hP 0 rfl rfl 2 (by decide) hf18 (fun _ z => z) rfl dX2_takesLeanTold_38 ?_
      refine lv_iload_n hx hb dX2_takesLeanTold_41 rfl (lv_at hl 1 rfl) ?_
      refine lv_iload hx hb dX2_takesLeanTold_42 (lv_at hl 0 rfl) ?_
      obtain ⟨g44, h⟩ := k_guard h
      refine va_iast hx hb hK hP hD hS 1 0 rfl rfl g44 dX2_takesLeanTold_44 (fun H locs hP hD hS => ?_)
      replace hP : va_P D vwCl (Wd9 cI aC aD aK c_men c_propped c_place c_swings c_crashes c_day c_crashedToday (upd c_lean r4.toNatClampNeg (r12 - 45)) d_kind d_figure d_sort d_size d_held d_el) H := hP
      replace hD : va_D A (Wd9 cI aC aD aK c_men c_propped c_place c_swings c_crashes c_day c_crashedToday (upd c_lean r4.toNatClampNeg (r12 - 45)) d_kind d_figure d_sort d_size d_held d_el) := hD
      refine lv_iconst (v := 1) hx hb dX2_takesLeanTold_45 (by decide) ?_
      cases h
      exact hret _ _ _ _ rfl hP hS dX2_takesLeanTold_46
    · have h := k_neg c32 h
      refine lv_iconst (v := 0) hx hb dX2_takesLeanTold_35 (by decide) ?_
      cases h
      exact hret _ _ _ _ rfl hP hS dX2_takesLeanTold_36
abbrev Wd10 (cI : ClassId) (aC : Nat → Nat) (aD : Nat → Nat) (aK : Nat → Nat) (c_men : Int32) (c_propped : Int32) (c_place : Int32) (c_swings : Int32) (c_crashes : Int32) (c_day : Int32) (c_crashedToday : Int32) (d_kind : Int32) (d_figure : Int32) (d_sort : Int32) (d_size : Int32) (d_held : Int32) (d_el : Nat → Int32) : va_W := [((aC 0), .inr (2, [.ref (aC 1), .ref (aC 2), .ref (aC 3), .int c_men, .int c_propped, .int c_place, .int c_swings, .int c_crashes, .int c_day, .int c_crashedToday, .ref (aK 8), .ref (aC 4)])), ((aD 0), .inr (9, [.ref (aD 1), .int d_kind, .int d_figure, .int d_sort, .int d_size, .int d_held, .ref (aK 8)])), ((aD 1), .inl (cI, 100, .inl d_el))]
theorem kdV_X2_turnProp : yX2_turnProp.cls = RX2 ∧ yX2_turnProp.cls ≠ "java/lang/invoke/MethodHandle" ∧ yX2_turnProp.cls ≠ "java/lang/invoke/VarHandle" ∧ (parseMethodDescriptor yX2_turnProp.desc).map (fun d => d.parameters.length) = some 1 := by decide +kernel
abbrev rm_X2_takesPropTold : Room := { frames := 2, cells := 0, slots := 0, locals := 42 }
set_option maxHeartbeats 4000000 in
set_option maxRecDepth 100000 in
theorem c_City_takesPropTold (l : Launch) (D : va_G) (cI cM cS cJ : ClassId) (aC : Nat → Nat) (aD : Nat → Nat) (aK : Nat → Nat) (sz : Nat) (x2 : Int32) (c_men : Int32) (c_propped : Int32) (c_place : Int32) (c_swings : Int32) (c_crashes : Int32) (c_day : Int32) (c_crashedToday : Int32) (d_kind : Int32) (d_figure : Int32) (d_sort : Int32) (d_size : Int32) (d_held : Int32) (d_el : Nat → Int32) {o : (Int32) × (Int32)} (hsem : S_City_takesPropTold x2 c_men c_propped d_size d_el = some o) : kMet l yX2_takesPropTold wsX2_takesPropTold rm_X2_takesPropTold [.ref (aC 0), .ref (aD 0), .int x2] D (kT cI cM cS cJ) (Wd10 cI aC aD aK c_men c_propped c_place c_swings c_crashes c_day c_crashedToday d_kind d_figure d_sort d_size d_held d_el) sz (some (.int o.1)) (Wd10 cI aC aD aK c_men o.2 c_place c_swings c_crashes c_day c_crashedToday d_kind d_figure d_sort d_size d_held d_el) := by
  refine k_metZ (by decide) rfl rfl (Nat.le_of_ble_eq_true rfl) ?_
  intro p e s m below meth c ls Q A hx hb hml hts hown hK hN hA hP hD hS hl hsz hnm hret
  have hown : s.vm.findClass RX2 = some m.cls := hown
  replace hl : lv_has ls 4 [(0, .ref (aC 0)), (1, .ref (aD 0)), (2, .int x2)] := hl
  have h := hsem
  clear hsem
  rw [S_City_takesPropTold] at h
  refine lv_aload_n hx hb dX2_takesPropTold_0 rfl (lv_at hl 1 rfl) ?_
  refine lv_iload_n hx hb dX2_takesPropTold_1 rfl (lv_at hl 2 rfl) ?_
  refine lv_iconst (v := 1) hx hb dX2_takesPropTold_2 (by decide) ?_
  refine lv_iadd hx hb dX2_takesPropTold_3 ?_
  obtain ⟨r4, g4, h⟩ := k_bind h
  refine k_callV (As := [.int (x2 + 1)]) (rest := []) (st1 := [.int r4]) (ws2 := (Wd10 cI aC aD aK c_men c_propped c_place c_swings c_crashes c_day c_crashedToday d_kind d_figure d_sort d_size d_held d_el)) hx hb hml hown hts hK hN hA hP hD hS hl (c_Shelf_digit l D cI cM cS cJ aD aK s.heap.size (x2 + 1) d_kind d_figure d_sort d_size d_held d_el g4) gX2_takesPropTold_X9_digit rfl kdV_X9_digit 0 9 rfl rfl rfl [1, 2] ⟨rfl, rfl⟩ ⟨Nat.le_of_ble_eq_true rfl, Nat.le_of_ble_eq_true rfl⟩ ⟨Nat.zero_le _, Nat.zero_le _⟩ rfl rfl (by decide +kernel) rfl rfl rfl (Nat.le_of_ble_eq_true rfl) dX2_takesPropTold_4 rfl (fun H locs hP hD hS => ?_)
  refine lv_istore_n (lv' := [(3, .int r4), (0, .ref (aC 0)), (1, .ref (aD 0)), (2, .int x2)]) hx hb dX2_takesPropTold_7 rfl hl (by decide) rfl (fun ls hl => ?_)
  refine lv_aload_n hx hb dX2_takesPropTold_8 rfl (lv_at hl 1 rfl) ?_
  refine lv_iload_n hx hb dX2_takesPropTold_9 rfl (lv_at hl 0 rfl) ?_
  refine k_callV (As := [.int r4]) (rest := []) (st1 := [.int (S_City_has r4 c_men)]) (ws2 := (Wd10 cI aC aD aK c_men c_propped c_place c_swings c_crashes c_day c_crashedToday d_kind d_figure d_sort d_size d_held d_el)) hx hb hml hown hts hK hN hA hP hD hS hl (c_City_has l D cI cM cS cJ aC aK H.size r4 c_men c_propped c_place c_swings c_crashes c_day c_crashedToday rfl) gX2_takesPropTold_X2_has rfl kdV_X2_has 0 2 rfl rfl rfl [0] ⟨rfl, rfl⟩ ⟨Nat.le_of_ble_eq_true rfl, Nat.le_of_ble_eq_true rfl⟩ ⟨Nat.zero_le _, Nat.zero_le _⟩ rfl rfl (by decide +kernel) rfl rfl rfl (Nat.le_of_ble_eq_true rfl) dX2_takesPropTold_10 rfl (fun H locs hP hD hS => ?_)
  refine lv_if_ne (tgt := 18) hx hb dX2_takesPropTold_13 (by decide) (fun c13 => ?_) (fun c13 => ?_)
  · have h := k_neg c13 h
    refine lv_aload_n hx hb dX2_takesPropTold_18 rfl (lv_at hl 1 rfl) ?_
    refine lv_iload_n hx hb dX2_takesPropTold_19 rfl (lv_at hl 0 rfl) ?_
    refine k_callV (As := [.int r4]) (rest := []) (st1 := []) (ws2 := (Wd10 cI aC aD aK c_men (S_City_turnProp r4 c_propped) c_place c_swings c_crashes c_day c_crashedToday d_kind d_figure d_sort d_size d_held d_el)) hx hb hml hown hts hK hN hA hP hD hS hl (c_City_turnProp l D cI cM cS cJ aC aK H.size r4 c_men c_propped c_place c_swings c_crashes c_day c_crashedToday rfl) gX2_takesPropTold_X2_turnProp rfl kdV_X2_turnProp 0 2 rfl rfl rfl [0] ⟨rfl, rfl⟩ ⟨Nat.le_of_ble_eq_true rfl, Nat.le_of_ble_eq_true rfl⟩ ⟨Nat.zero_le _, Nat.zero_le _⟩ rfl rfl (by decide +kernel) rfl rfl rfl (Nat.le_of_ble_eq_true rfl) dX2_takesPropTold_20 rfl (fun H locs hP hD hS => ?_)
    refine lv_iconst (v := 1) hx hb dX2_takesPropTold_23 (by decide) ?_
    cases h
    exact hret _ _ _ _ rfl hP hS dX2_takesPropTold_24
  · have h := k_pos c13 h
    refine lv_iconst (v := 0) hx hb dX2_takesPropTold_16 (by decide) ?_
    cases h
    exact hret _ _ _ _ rfl hP hS dX2_takesPropTold_17
abbrev rm_X2_takesLeadTold : Room := { frames := 2, cells := 0, slots := 0, locals := 42 }
set_option maxHeartbeats 4000000 in
set_option maxRecDepth 100000 in
theorem c_City_takesLeadTold (l : Launch) (D : va_G) (cI cM cS cJ : ClassId) (aC : Nat → Nat) (aD : Nat → Nat) (aK : Nat → Nat) (sz : Nat) (x2 : Int32) (c_men : Int32) (c_propped : Int32) (c_place : Int32) (c_swings : Int32) (c_crashes : Int32) (c_day : Int32) (c_crashedToday : Int32) (d_kind : Int32) (d_figure : Int32) (d_sort : Int32) (d_size : Int32) (d_held : Int32) (d_el : Nat → Int32) {o : (Int32) × (Int32) × (Int32)} (hsem : S_City_takesLeadTold x2 c_place c_swings d_size d_el = some o) : kMet l yX2_takesLeadTold wsX2_takesLeadTold rm_X2_takesLeadTold [.ref (aC 0), .ref (aD 0), .int x2] D (kT cI cM cS cJ) (Wd10 cI aC aD aK c_men c_propped c_place c_swings c_crashes c_day c_crashedToday d_kind d_figure d_sort d_size d_held d_el) sz (some (.int o.1)) (Wd10 cI aC aD aK c_men c_propped o.2.1 o.2.2 c_crashes c_day c_crashedToday d_kind d_figure d_sort d_size d_held d_el) := by
  refine k_metZ (by decide) rfl rfl (Nat.le_of_ble_eq_true rfl) ?_
  intro p e s m below meth c ls Q A hx hb hml hts hown hK hN hA hP hD hS hl hsz hnm hret
  have hown : s.vm.findClass RX2 = some m.cls := hown
  have hf44 := hts (.fieldLink RX2 44 "PlumbLine$City" "swings" "I") (List.mem_of_getElem? (i := 1) rfl)
  have hf41 := hts (.fieldLink RX2 41 "PlumbLine$City" "place" "I") (List.mem_of_getElem? (i := 2) rfl)
  have hiX2 : ∀ w ∈ u_ws RX2 TX2 12, w ∈ wsX2_takesLeadTold := fun w h => List.mem_cons_of_mem _ (List.mem_append_left _ (List.mem_append_right _ h))
  replace hl : lv_has ls 4 [(0, .ref (aC 0)), (1, .ref (aD 0)), (2, .int x2)] := hl
  have h := hsem
  clear hsem
  rw [S_City_takesLeadTold] at h
  refine lv_aload_n hx hb dX2_takesLeadTold_0 rfl (lv_at hl 1 rfl) ?_
  refine lv_iload_n hx hb dX2_takesLeadTold_1 rfl (lv_at hl 2 rfl) ?_
  refine lv_iconst (v := 2) hx hb dX2_takesLeadTold_2 (by decide) ?_
  refine lv_iadd hx hb dX2_takesLeadTold_3 ?_
  obtain ⟨r4, g4, h⟩ := k_bind h
  refine k_callV (As := [.int (x2 + 2)]) (rest := []) (st1 := [.int r4]) (ws2 := (Wd10 cI aC aD aK c_men c_propped c_place c_swings c_crashes c_day c_crashedToday d_kind d_figure d_sort d_size d_held d_el)) hx hb hml hown hts hK hN hA hP hD hS hl (c_Shelf_digit l D cI cM cS cJ aD aK s.heap.size (x2 + 2) d_kind d_figure d_sort d_size d_held d_el g4) gX2_takesLeadTold_X9_digit rfl kdV_X9_digit 0 9 rfl rfl rfl [1, 2] ⟨rfl, rfl⟩ ⟨Nat.le_of_ble_eq_true rfl, Nat.le_of_ble_eq_true rfl⟩ ⟨Nat.zero_le _, Nat.zero_le _⟩ rfl rfl (by decide +kernel) rfl rfl rfl (Nat.le_of_ble_eq_true rfl) dX2_takesLeadTold_4 rfl (fun H locs hP hD hS => ?_)
  refine lv_istore_n (lv' := [(3, .int r4), (0, .ref (aC 0)), (1, .ref (aD 0)), (2, .int x2)]) hx hb dX2_takesLeadTold_7 rfl hl (by decide) rfl (fun ls hl => ?_)
  refine lv_iload_n hx hb dX2_takesLeadTold_8 rfl (lv_at hl 0 rfl) ?_
  refine lv_bipush (v := 8) hx hb dX2_takesLeadTold_9 (by decide) ?_
  refine lv_icmp_lt (tgt := 16) hx hb dX2_takesLeadTold_11 (by decide) (fun c11 => ?_) (fun c11 => ?_)
  · have h := k_pos c11 h
    refine lv_aload_n hx hb dX2_takesLeadTold_16 rfl (lv_at hl 1 rfl) ?_
    refine lv_aload_n hx hb dX2_takesLeadTold_17 rfl (lv_at hl 2 rfl) ?_
    refine lv_iload_n hx hb dX2_takesLeadTold_18 rfl (lv_at hl 3 rfl) ?_
    refine lv_iconst (v := 1) hx hb dX2_takesLeadTold_19 (by decide) ?_
    refine lv_iadd hx hb dX2_takesLeadTold_20 ?_
    obtain ⟨r21, g21, h⟩ := k_bind h
    refine k_callV (As := [.int (x2 + 1)]) (rest := [.ref (aC 0)]) (st1 := [.int r21, .ref (aC 0)]) (ws2 := (Wd10 cI aC aD aK c_men c_propped c_place c_swings c_crashes c_day c_crashedToday d_kind d_figure d_sort d_size d_held d_el)) hx hb hml hown hts hK hN hA hP hD hS hl (c_Shelf_digit l D cI cM cS cJ aD aK H.size (x2 + 1) d_kind d_figure d_sort d_size d_held d_el g21) gX2_takesLeadTold_X9_digit rfl kdV_X9_digit 0 9 rfl rfl rfl [1, 2] ⟨rfl, rfl⟩ ⟨Nat.le_of_ble_eq_true rfl, Nat.le_of_ble_eq_true rfl⟩ ⟨Nat.zero_le _, Nat.zero_le _⟩ rfl rfl (by decide +kernel) rfl rfl rfl (Nat.le_of_ble_eq_true rfl) dX2_takesLeadTold_21 rfl (fun H locs hP hD hS => ?_)
    refine va_put (D := D) (ci := 2) (v := .int r21) (ty := .int) (C := RX2) (T := TX2) (N := 12) hx hb hts hiX2 tyX2 tyX2_ok nmX2 hown hK hP hD hS 0 rfl rfl 6 (by decide) hf44 (fun _ z => z) rfl (by decide +kernel) rfl rfl (Nat.le_of_ble_eq_true rfl) dX2_takesLeadTold_24 (fun H locs hP hD hS => ?_)
    replace hP : va_P D vwCl (Wd10 cI aC aD aK c_men c_propped c_place r21 c_crashes c_day c_crashedToday d_kind d_figure d_sort d_size d_held d_el) H := hP
    replace hD : va_D A (Wd10 cI aC aD aK c_men c_propped c_place r21 c_crashes c_day c_crashedToday d_kind d_figure d_sort d_size d_held d_el) := hD
    refine lv_aload_n hx hb dX2_takesLeadTold_27 rfl (lv_at hl 1 rfl) ?_
    refine lv_iload_n hx hb dX2_takesLeadTold_28 rfl (lv_at hl 0 rfl) ?_
    refine va_put (D := D) (ci := 2) (v := .int r4) (ty := .int) (C := RX2) (T := TX2) (N := 12) hx hb hts hiX2 tyX2 tyX2_ok nmX2 hown hK hP hD hS 0 rfl rfl 5 (by decide) hf41 (fun _ z => z) rfl (by decide +kernel) rfl rfl (Nat.le_of_ble_eq_true rfl) dX2_takesLeadTold_29 (fun H locs hP hD hS => ?_)
    replace hP : va_P D vwCl (Wd10 cI aC aD aK c_men c_propped r4 r21 c_crashes c_day c_crashedToday d_kind d_figure d_sort d_size d_held d_el) H := hP
    replace hD : va_D A (Wd10 cI aC aD aK c_men c_propped r4 r21 c_crashes c_day c_crashedToday d_kind d_figure d_sort d_size d_held d_el) := hD
    refine lv_iconst (v := 1) hx hb dX2_takesLeadTold_32 (by decide) ?_
    cases h
    exact hret _ _ _ _ rfl hP hS dX2_takesLeadTold_33
  · have h := k_neg c11 h
    refine lv_iconst (v := 0) hx hb dX2_takesLeadTold_14 (by decide) ?_
    cases h
    exact hret _ _ _ _ rfl hP hS dX2_takesLeadTold_15
abbrev Wd11 (cI : ClassId) (aC : Nat → Nat) (aK : Nat → Nat) (c_men : Int32) (c_propped : Int32) (c_place : Int32) (c_swings : Int32) (c_crashes : Int32) (c_day : Int32) (c_crashedToday : Int32) (c_lean : Nat → Int32) : va_W := [((aC 0), .inr (2, [.ref (aC 1), .ref (aC 2), .ref (aC 3), .int c_men, .int c_propped, .int c_place, .int c_swings, .int c_crashes, .int c_day, .int c_crashedToday, .ref (aK 8), .ref (aC 4)])), ((aC 3), .inl (cI, 8, .inl c_lean))]
abbrev rm_X2_sumOfLeans : Room := { frames := 0, cells := 0, slots := 0, locals := 0 }
set_option maxHeartbeats 4000000 in
set_option maxRecDepth 100000 in
theorem c_City_sumOfLeans (l : Launch) (D : va_G) (cI cM cS cJ : ClassId) (aC : Nat → Nat) (aK : Nat → Nat) (sz : Nat) (c_men : Int32) (c_propped : Int32) (c_place : Int32) (c_swings : Int32) (c_crashes : Int32) (c_day : Int32) (c_crashedToday : Int32) (c_lean : Nat → Int32) {o : (Int32)} (hsem : S_City_sumOfLeans c_men c_lean = some o) : kMet l yX2_sumOfLeans wsX2_sumOfLeans rm_X2_sumOfLeans [.ref (aC 0)] D (kT cI cM cS cJ) (Wd11 cI aC aK c_men c_propped c_place c_swings c_crashes c_day c_crashedToday c_lean) sz (some (.int o)) (Wd11 cI aC aK c_men c_propped c_place c_swings c_crashes c_day c_crashedToday c_lean) := by
  refine k_metI (by decide) rfl rfl (Nat.le_of_ble_eq_true rfl) ?_
  intro p e s m below meth c ls Q A hx hb hml hts hown hK hN hA hP hD hS hl hsz hnm hret
  have hown : s.vm.findClass RX2 = some m.cls := hown
  have hf34 := hts (.fieldLink RX2 34 "PlumbLine$City" "men" "I") (List.mem_of_getElem? (i := 1) rfl)
  have hf18 := hts (.fieldLink RX2 18 "PlumbLine$City" "lean" "[I") (List.mem_of_getElem? (i := 2) rfl)
  have hiX2 : ∀ w ∈ u_ws RX2 TX2 12, w ∈ wsX2_sumOfLeans := fun w h => List.mem_cons_of_mem _ (List.mem_append_right _ h)
  replace hl : lv_has ls 3 [(0, .ref (aC 0))] := hl
  have h := hsem
  clear hsem
  rw [S_City_sumOfLeans] at h
  refine lv_iconst (v := 0) hx hb dX2_sumOfLeans_0 (by decide) ?_
  refine lv_istore_n (lv' := [(1, .int 0), (0, .ref (aC 0))]) hx hb dX2_sumOfLeans_1 rfl hl (by decide) rfl (fun ls hl => ?_)
  refine lv_iconst (v := 0) hx hb dX2_sumOfLeans_2 (by decide) ?_
  have B4 : ∀ (n4 : Nat) (y1 : Int32) (y2 : Int32) (H : Heap) (locs : List Loc) (ls : Array Slot), va_P D vwCl (Wd11 cI aC aK c_men c_propped c_place c_swings c_crashes c_day c_crashedToday c_lean) H → va_D A (Wd11 cI aC aK c_men c_propped c_place c_swings c_crashes c_day c_crashedToday c_lean) → va_S A s.heap H locs → lv_has ls 3 [(0, .ref (aC 0)), (1, .int y1), (2, .int y2)] → S_City_sumOfLeans_L4 c_men c_lean n4 y1 y2 = some o → W p l e rm_X2_sumOfLeans s m ([.ref (aC 0)] : List Value).toArray below meth c H locs 0 0 Q (F0 m 4 ls []) := by
    intro n4
    induction n4 with
    | zero => intro y1 y2 H locs ls hP hD hS hl h; exact absurd h (by simp [S_City_sumOfLeans_L4])
    | succ n4 ih4 =>
      intro y1 y2 H locs ls hP hD hS hl h
      rw [S_City_sumOfLeans_L4] at h
      refine lv_iload_n hx hb dX2_sumOfLeans_4 rfl (lv_at hl 2 rfl) ?_
      refine lv_aload_n hx hb dX2_sumOfLeans_5 rfl (lv_at hl 0 rfl) ?_
      refine va_get (D := D) (ci := 2) (v := .int c_men) (C := RX2) (T := TX2) (N := 12) hx hb hts hiX2 hown hK hP 0 rfl rfl 3 (by decide) hf34 (fun _ z => z) rfl dX2_sumOfLeans_6 ?_
      refine lv_icmp_ge (tgt := 27) hx hb dX2_sumOfLeans_9 (by decide) (fun c9 => ?_) (fun c9 => ?_)
      · have h := k_pos c9 h
        refine lv_iload_n hx hb dX2_sumOfLeans_27 rfl (lv_at hl 1 rfl) ?_
        cases h
        exact hret _ _ _ _ hP hS dX2_sumOfLeans_28
      · have h := k_neg c9 h
        refine lv_iload_n hx hb dX2_sumOfLeans_12 rfl (lv_at hl 1 rfl) ?_
        refine lv_aload_n hx hb dX2_sumOfLeans_13 rfl (lv_at hl 0 rfl) ?_
        refine va_get (D := D) (ci := 2) (v := .ref (aC 3)) (C := RX2) (T := TX2) (N := 12) hx hb hts hiX2 hown hK hP 0 rfl rfl 2 (by decide) hf18 (fun _ z => z) rfl dX2_sumOfLeans_14 ?_
        refine lv_iload_n hx hb dX2_sumOfLeans_17 rfl (lv_at hl 2 rfl) ?_
        obtain ⟨g18, h⟩ := k_guard h
        refine va_iald hx hb hK hP 1 0 rfl rfl g18 dX2_sumOfLeans_18 ?_
        refine lv_iadd hx hb dX2_sumOfLeans_19 ?_
        refine lv_istore_n (lv' := [(1, .int (y1 + (c_lean y2.toNatClampNeg))), (0, .ref (aC 0)), (2, .int y2)]) hx hb dX2_sumOfLeans_20 rfl hl (by decide) rfl (fun ls hl => ?_)
        refine lv_iinc (v := (y2 + 1)) (lv' := [(2, .int (y2 + 1)), (1, .int (y1 + (c_lean y2.toNatClampNeg))), (0, .ref (aC 0))]) hx hb dX2_sumOfLeans_21 hl (k := 2) rfl (by first | rfl | decide) (by decide) rfl (fun ls hl => ?_)
        refine lv_goto (tgt := 4) hx hb dX2_sumOfLeans_24 (by decide) ?_
        exact ih4 (y1 + (c_lean y2.toNatClampNeg)) (y2 + 1) H locs ls hP hD hS (lv_sub hl [2, 1, 0] rfl) h
  refine lv_istore_n (lv' := [(2, .int 0), (1, .int 0), (0, .ref (aC 0))]) hx hb dX2_sumOfLeans_3 rfl hl (by decide) rfl (fun ls hl => ?_)
  exact B4 lfu 0 0 s.heap [] ls hP hD hS (lv_sub hl [2, 1, 0] rfl) h
abbrev Wd12 (cI : ClassId) (cM : ClassId) (aC : Nat → Nat) (aK : Nat → Nat) (c_men : Int32) (c_propped : Int32) (c_place : Int32) (c_swings : Int32) (c_crashes : Int32) (c_day : Int32) (c_crashedToday : Int32) (c_kind : Nat → Int32) (c_figure : Nat → Int32) (c_lean : Nat → Int32) : va_W := [((aC 0), .inr (2, [.ref (aC 1), .ref (aC 2), .ref (aC 3), .int c_men, .int c_propped, .int c_place, .int c_swings, .int c_crashes, .int c_day, .int c_crashedToday, .ref (aK 8), .ref (aC 4)])), ((aC 1), .inl (cI, 8, .inl c_kind)), ((aC 2), .inl (cI, 8, .inl c_figure)), ((aC 3), .inl (cI, 8, .inl c_lean)), ((aK 8), .inl (cM, 8, .inr (.inr (.inr (.inr (fun k => some (aK k))))))), ((aK 0), .inr (4, [])), ((aK 1), .inr (0, [])), ((aK 2), .inr (7, [])), ((aK 3), .inr (3, [])), ((aK 4), .inr (1, [])), ((aK 5), .inr (8, [])), ((aK 6), .inr (10, [])), ((aK 7), .inr (6, []))]
theorem kdV_X4_uprightWithin : yX4_uprightWithin.cls = RX4 ∧ yX4_uprightWithin.cls ≠ "java/lang/invoke/MethodHandle" ∧ yX4_uprightWithin.cls ≠ "java/lang/invoke/VarHandle" ∧ (parseMethodDescriptor yX4_uprightWithin.desc).map (fun d => d.parameters.length) = some 1 := by decide +kernel
theorem kdM_uprightWithin : "PlumbLine$Man" ≠ "java/lang/invoke/MethodHandle" ∧ "PlumbLine$Man" ≠ "java/lang/invoke/VarHandle" ∧ (parseMethodDescriptor "(I)I").map (fun d => d.parameters.length) = some 1 := by decide +kernel
abbrev rm_X2_upright : Room := { frames := 2, cells := 0, slots := 0, locals := 42 }
set_option maxHeartbeats 4000000 in
set_option maxRecDepth 100000 in
theorem c_City_upright (l : Launch) (D : va_G) (cI cM cS cJ : ClassId) (aC : Nat → Nat) (aK : Nat → Nat) (sz : Nat) (c_men : Int32) (c_propped : Int32) (c_place : Int32) (c_swings : Int32) (c_crashes : Int32) (c_day : Int32) (c_crashedToday : Int32) (c_kind : Nat → Int32) (c_figure : Nat → Int32) (c_lean : Nat → Int32) {o : (Int32)} (hsem : S_City_upright c_men c_kind c_figure c_lean = some o) : kMet l yX2_upright wsX2_upright rm_X2_upright [.ref (aC 0)] D (kT cI cM cS cJ) (Wd12 cI cM aC aK c_men c_propped c_place c_swings c_crashes c_day c_crashedToday c_kind c_figure c_lean) sz (some (.int o)) (Wd12 cI cM aC aK c_men c_propped c_place c_swings c_crashes c_day c_crashedToday c_kind c_figure c_lean) := by
  refine k_metI (by decide) rfl rfl (Nat.le_of_ble_eq_true rfl) ?_
  intro p e s m below meth c ls Q A hx hb hml hts hown hK hN hA hP hD hS hl hsz hnm hret
  have hown : s.vm.findClass RX2 = some m.cls := hown
  have hf34 := hts (.fieldLink RX2 34 "PlumbLine$City" "men" "I") (List.mem_of_getElem? (i := 1) rfl)
  have hf18 := hts (.fieldLink RX2 18 "PlumbLine$City" "lean" "[I") (List.mem_of_getElem? (i := 2) rfl)
  have hf24 := hts (.fieldLink RX2 24 "PlumbLine$City" "kinds" "[LPlumbLine$Man;") (List.mem_of_getElem? (i := 7) rfl)
  have hf9 := hts (.fieldLink RX2 9 "PlumbLine$City" "kind" "[I") (List.mem_of_getElem? (i := 8) rfl)
  have hf15 := hts (.fieldLink RX2 15 "PlumbLine$City" "figure" "[I") (List.mem_of_getElem? (i := 9) rfl)
  have hiX2 : ∀ w ∈ u_ws RX2 TX2 12, w ∈ wsX2_upright := fun w h => List.mem_cons_of_mem _ (List.mem_append_right _ h)
  replace hl : lv_has ls 3 [(0, .ref (aC 0))] := hl
  have h := hsem
  clear hsem
  rw [S_City_upright] at h
  refine lv_iconst (v := 0) hx hb dX2_upright_0 (by decide) ?_
  refine lv_istore_n (lv' := [(1, .int 0), (0, .ref (aC 0))]) hx hb dX2_upright_1 rfl hl (by decide) rfl (fun ls hl => ?_)
  refine lv_iconst (v := 0) hx hb dX2_upright_2 (by decide) ?_
  have B4 : ∀ (n4 : Nat) (y1 : Int32) (y2 : Int32) (H : Heap) (locs : List Loc) (ls : Array Slot), va_P D vwCl (Wd12 cI cM aC aK c_men c_propped c_place c_swings c_crashes c_day c_crashedToday c_kind c_figure c_lean) H → va_D A (Wd12 cI cM aC aK c_men c_propped c_place c_swings c_crashes c_day c_crashedToday c_kind c_figure c_lean) → va_S A s.heap H locs → lv_has ls 3 [(0, .ref (aC 0)), (1, .int y1), (2, .int y2)] → S_City_upright_L4 c_men c_kind c_figure c_lean n4 y1 y2 = some o → W p l e rm_X2_upright s m ([.ref (aC 0)] : List Value).toArray below meth c H locs 0 0 Q (F0 m 4 ls []) := by
    intro n4
    induction n4 with
    | zero => intro y1 y2 H locs ls hP hD hS hl h; exact absurd h (by simp [S_City_upright_L4])
    | succ n4 ih4 =>
      intro y1 y2 H locs ls hP hD hS hl h
      rw [S_City_upright_L4] at h
      refine lv_iload_n hx hb dX2_upright_4 rfl (lv_at hl 2 rfl) ?_
      refine lv_aload_n hx hb dX2_upright_5 rfl (lv_at hl 0 rfl) ?_
      refine va_get (D := D) (ci := 2) (v := .int c_men) (C := RX2) (T := TX2) (N := 12) hx hb hts hiX2 hown hK hP 0 rfl rfl 3 (by decide) hf34 (fun _ z => z) rfl dX2_upright_6 ?_
      refine lv_icmp_ge (tgt := 56) hx hb dX2_upright_9 (by decide) (fun c9 => ?_) (fun c9 => ?_)
      · have h := k_pos c9 h
        refine lv_iload_n hx hb dX2_upright_56 rfl (lv_at hl 1 rfl) ?_
        cases h
        exact hret _ _ _ _ hP hS dX2_upright_57
      · have h := k_neg c9 h
        refine lv_aload_n hx hb dX2_upright_12 rfl (lv_at hl 0 rfl) ?_
        refine va_get (D := D) (ci := 2) (v := .ref (aC 3)) (C := RX2) (T := TX2) (N := 12) hx hb hts hiX2 hown hK hP 0 rfl rfl 2 (by decide) hf18 (fun _ z => z) rfl dX2_upright_13 ?_
        refine lv_iload_n hx hb dX2_upright_16 rfl (lv_at hl 2 rfl) ?_
        obtain ⟨g17, h⟩ := k_guard h
        refine va_iald hx hb hK hP 3 0 rfl rfl g17 dX2_upright_17 ?_
        refine k_mabs (own := RX2) (index := 149) hx hb (hml.trans hl.1.symm) hown (hts _ (List.mem_of_getElem? (i := 3) rfl)) (hts _ (List.mem_of_getElem? (i := 4) rfl)) (hts _ (List.mem_of_getElem? (i := 5) rfl)) (hts _ (List.mem_of_getElem? (i := 6) rfl)) (Nat.le_of_ble_eq_true rfl) (Nat.le_of_ble_eq_true rfl) (Nat.zero_le _) (Nat.zero_le _) dX2_upright_18 ?_
        refine lv_aload_n hx hb dX2_upright_21 rfl (lv_at hl 0 rfl) ?_
        refine va_get (D := D) (ci := 2) (v := .ref (aK 8)) (C := RX2) (T := TX2) (N := 12) hx hb hts hiX2 hown hK hP 0 rfl rfl 10 (by decide) hf24 (fun _ z => z) rfl dX2_upright_22 ?_
        refine lv_aload_n hx hb dX2_upright_25 rfl (lv_at hl 0 rfl) ?_
        refine va_get (D := D) (ci := 2) (v := .ref (aC 1)) (C := RX2) (T := TX2) (N := 12) hx hb hts hiX2 hown hK hP 0 rfl rfl 0 (by decide) hf9 (fun _ z => z) rfl dX2_upright_26 ?_
        refine lv_iload_n hx hb dX2_upright_29 rfl (lv_at hl 2 rfl) ?_
        refine va_iald hx hb hK hP 1 0 rfl rfl g17 dX2_upright_30 ?_
        obtain ⟨g31, h⟩ := k_guard h
        refine k_aldR (f := aK) hx hb hK hP 4 1 rfl rfl g31 dX2_upright_31 ?_
        refine lv_aload_n hx hb dX2_upright_32 rfl (lv_at hl 0 rfl) ?_
        refine va_get (D := D) (ci := 2) (v := .ref (aC 2)) (C := RX2) (T := TX2) (N := 12) hx hb hts hiX2 hown hK hP 0 rfl rfl 1 (by decide) hf15 (fun _ z => z) rfl dX2_upright_33 ?_
        refine lv_iload_n hx hb dX2_upright_36 rfl (lv_at hl 2 rfl) ?_
        refine va_iald hx hb hK hP 2 0 rfl rfl g17 dX2_upright_37 ?_
        have V38 : ∀ (H : Heap) (locs : List Loc), va_P D vwCl (Wd12 cI cM aC aK c_men c_propped c_place c_swings c_crashes c_day c_crashedToday c_kind c_figure c_lean) H → va_D A (Wd12 cI cM aC aK c_men c_propped c_place c_swings c_crashes c_day c_crashedToday c_kind c_figure c_lean) → va_S A s.heap H locs → W p l e rm_X2_upright s m ([.ref (aC 0)] : List Value).toArray below meth c H locs 0 0 Q (F0 m 41 ls [.int (V_uprightWithin (c_kind y2.toNatClampNeg).toNatClampNeg (c_figure y2.toNatClampNeg)), .int (jabs (c_lean y2.toNatClampNeg))]) := by
          intro H locs hP hD hS
          refine lv_icmp_gt (tgt := 50) hx hb dX2_upright_41 (by decide) (fun c41 => ?_) (fun c41 => ?_)
          · have h := k_pos c41 h
            refine lv_iinc (v := (y2 + 1)) (lv' := [(2, .int (y2 + 1)), (0, .ref (aC 0)), (1, .int y1)]) hx hb dX2_upright_50 hl (k := 2) rfl (by first | rfl | decide) (by decide) rfl (fun ls hl => ?_)
            refine lv_goto (tgt := 4) hx hb dX2_upright_53 (by decide) ?_
            exact ih4 y1 (y2 + 1) H locs ls hP hD hS (lv_sub hl [1, 2, 0] rfl) h
          · have h := k_neg c41 h
            refine lv_iload_n hx hb dX2_upright_44 rfl (lv_at hl 1 rfl) ?_
            refine lv_iconst (v := 1) hx hb dX2_upright_45 (by decide) ?_
            refine lv_iload_n hx hb dX2_upright_46 rfl (lv_at hl 2 rfl) ?_
            refine lv_ishl hx hb dX2_upright_47 ?_
            refine lv_ior hx hb dX2_upright_48 ?_
            refine lv_istore_n (lv' := [(1, .int (y1 ||| ((1 : Int32) <<< (y2 &&& 31)))), (0, .ref (aC 0)), (2, .int y2)]) hx hb dX2_upright_49 rfl hl (by decide) rfl (fun ls hl => ?_)
            refine lv_iinc (v := (y2 + 1)) (lv' := [(2, .int (y2 + 1)), (1, .int (y1 ||| ((1 : Int32) <<< (y2 &&& 31)))), (0, .ref (aC 0))]) hx hb dX2_upright_50 hl (k := 2) rfl (by first | rfl | decide) (by decide) rfl (fun ls hl => ?_)
            refine lv_goto (tgt := 4) hx hb dX2_upright_53 (by decide) ?_
            exact ih4 (y1 ||| ((1 : Int32) <<< (y2 &&& 31))) (y2 + 1) H locs ls hP hD hS (lv_sub hl [2, 1, 0] rfl) h
        generalize hk38 : (c_kind y2.toNatClampNeg).toNatClampNeg = k38 at V38 ⊢
        have hb38 : k38 < 8 := by rw [← hk38]; exact Nat.not_le.mp (fun z => g31 (Or.inr z))
        rcases k_8 hb38 with e | e | e | e | e | e | e | e <;> subst e
        · exact k_callV (As := [.int (c_figure y2.toNatClampNeg)]) (rest := [.int (jabs (c_lean y2.toNatClampNeg))]) (st1 := [.int (S_Man_uprightWithin (c_figure y2.toNatClampNeg)), .int (jabs (c_lean y2.toNatClampNeg))]) hx hb hml hown hts hK hN hA hP hD hS hl (c_Man_uprightWithin l D cI cM cS cJ (aK 0) 4 H.size (c_figure y2.toNatClampNeg) rfl) gX2_upright_X4_uprightWithin rfl kdV_X4_uprightWithin 0 4 rfl rfl rfl [5] ⟨rfl, rfl⟩ ⟨Nat.le_of_ble_eq_true rfl, Nat.le_of_ble_eq_true rfl⟩ ⟨Nat.zero_le _, Nat.zero_le _⟩ rfl rfl (by decide +kernel) rfl rfl rfl (Nat.le_of_ble_eq_true rfl) dX2_upright_38 rfl V38
        · exact k_callU (As := [.int (c_figure y2.toNatClampNeg)]) (rest := [.int (jabs (c_lean y2.toNatClampNeg))]) (st1 := [.int (S_Banker_uprightWithin (c_figure y2.toNatClampNeg)), .int (jabs (c_lean y2.toNatClampNeg))]) hx hb hml hown hts hK hN hA hP hD hS hl (c_Banker_uprightWithin l D cI cM cS cJ (aK 1) 0 H.size (c_figure y2.toNatClampNeg) rfl) (va_cwO 1 hts gX2_upright_X0_uprightWithin_u159X0 rfl rfl rfl (List.mem_of_getElem? (i := 17) rfl) kdM_uprightWithin ⟨Nat.le_of_ble_eq_true rfl, Nat.le_of_ble_eq_true rfl⟩) 0 0 rfl rfl rfl [6] ⟨Nat.zero_le _, Nat.zero_le _⟩ rfl rfl (by decide +kernel) rfl rfl rfl (Nat.le_of_ble_eq_true rfl) dX2_upright_38 rfl V38
        · exact k_callU (As := [.int (c_figure y2.toNatClampNeg)]) (rest := [.int (jabs (c_lean y2.toNatClampNeg))]) (st1 := [.int (S_Quaker_uprightWithin (c_figure y2.toNatClampNeg)), .int (jabs (c_lean y2.toNatClampNeg))]) hx hb hml hown hts hK hN hA hP hD hS hl (c_Quaker_uprightWithin l D cI cM cS cJ (aK 2) 7 H.size (c_figure y2.toNatClampNeg) rfl) (va_cwO 1 hts gX2_upright_X7_uprightWithin_u159X7 rfl rfl rfl (List.mem_of_getElem? (i := 17) rfl) kdM_uprightWithin ⟨Nat.le_of_ble_eq_true rfl, Nat.le_of_ble_eq_true rfl⟩) 0 7 rfl rfl rfl [7] ⟨Nat.zero_le _, Nat.zero_le _⟩ rfl rfl (by decide +kernel) rfl rfl rfl (Nat.le_of_ble_eq_true rfl) dX2_upright_38 rfl V38
        · exact k_callU (As := [.int (c_figure y2.toNatClampNeg)]) (rest := [.int (jabs (c_lean y2.toNatClampNeg))]) (st1 := [.int (S_Clerk_uprightWithin (c_figure y2.toNatClampNeg)), .int (jabs (c_lean y2.toNatClampNeg))]) hx hb hml hown hts hK hN hA hP hD hS hl (c_Clerk_uprightWithin l D cI cM cS cJ (aK 3) 3 H.size (c_figure y2.toNatClampNeg) rfl rfl) (va_cwO 1 hts gX2_upright_X3_uprightWithin_u159X3 rfl rfl rfl (List.mem_of_getElem? (i := 17) rfl) kdM_uprightWithin ⟨Nat.le_of_ble_eq_true rfl, Nat.le_of_ble_eq_true rfl⟩) 0 3 rfl rfl rfl [8] ⟨Nat.zero_le _, Nat.zero_le _⟩ rfl rfl (by decide +kernel) rfl rfl rfl (Nat.le_of_ble_eq_true rfl) dX2_upright_38 rfl V38
        · exact k_callU (As := [.int (c_figure y2.toNatClampNeg)]) (rest := [.int (jabs (c_lean y2.toNatClampNeg))]) (st1 := [.int (S_Broker_uprightWithin (c_figure y2.toNatClampNeg)), .int (jabs (c_lean y2.toNatClampNeg))]) hx hb hml hown hts hK hN hA hP hD hS hl (c_Broker_uprightWithin l D cI cM cS cJ (aK 4) 1 H.size (c_figure y2.toNatClampNeg) rfl rfl) (va_cwO 1 hts gX2_upright_X1_uprightWithin_u159X1 rfl rfl rfl (List.mem_of_getElem? (i := 17) rfl) kdM_uprightWithin ⟨Nat.le_of_ble_eq_true rfl, Nat.le_of_ble_eq_true rfl⟩) 0 1 rfl rfl rfl [9] ⟨Nat.zero_le _, Nat.zero_le _⟩ rfl rfl (by decide +kernel) rfl rfl rfl (Nat.le_of_ble_eq_true rfl) dX2_upright_38 rfl V38
        · exact k_callU (As := [.int (c_figure y2.toNatClampNeg)]) (rest := [.int (jabs (c_lean y2.toNatClampNeg))]) (st1 := [.int (S_Scrubber_uprightWithin (c_figure y2.toNatClampNeg)), .int (jabs (c_lean y2.toNatClampNeg))]) hx hb hml hown hts hK hN hA hP hD hS hl (c_Scrubber_uprightWithin l D cI cM cS cJ (aK 5) 8 H.size (c_figure y2.toNatClampNeg) rfl) (va_cwO 1 hts gX2_upright_X8_uprightWithin_u159X8 rfl rfl rfl (List.mem_of_getElem? (i := 17) rfl) kdM_uprightWithin ⟨Nat.le_of_ble_eq_true rfl, Nat.le_of_ble_eq_true rfl⟩) 0 8 rfl rfl rfl [10] ⟨Nat.zero_le _, Nat.zero_le _⟩ rfl rfl (by decide +kernel) rfl rfl rfl (Nat.le_of_ble_eq_true rfl) dX2_upright_38 rfl V38
        · exact k_callU (As := [.int (c_figure y2.toNatClampNeg)]) (rest := [.int (jabs (c_lean y2.toNatClampNeg))]) (st1 := [.int (S_Broker_uprightWithin (c_figure y2.toNatClampNeg)), .int (jabs (c_lean y2.toNatClampNeg))]) hx hb hml hown hts hK hN hA hP hD hS hl (c_Broker_uprightWithin l D cI cM cS cJ (aK 6) 10 H.size (c_figure y2.toNatClampNeg) rfl rfl) (va_cwO 1 hts gX2_upright_X1_uprightWithin_u159X10 rfl rfl rfl (List.mem_of_getElem? (i := 17) rfl) kdM_uprightWithin ⟨Nat.le_of_ble_eq_true rfl, Nat.le_of_ble_eq_true rfl⟩) 0 10 rfl rfl rfl [11] ⟨Nat.zero_le _, Nat.zero_le _⟩ rfl rfl (by decide +kernel) rfl rfl rfl (Nat.le_of_ble_eq_true rfl) dX2_upright_38 rfl V38
        · exact k_callU (As := [.int (c_figure y2.toNatClampNeg)]) (rest := [.int (jabs (c_lean y2.toNatClampNeg))]) (st1 := [.int (S_Clerk_uprightWithin (c_figure y2.toNatClampNeg)), .int (jabs (c_lean y2.toNatClampNeg))]) hx hb hml hown hts hK hN hA hP hD hS hl (c_Clerk_uprightWithin l D cI cM cS cJ (aK 7) 6 H.size (c_figure y2.toNatClampNeg) rfl rfl) (va_cwO 1 hts gX2_upright_X3_uprightWithin_u159X6 rfl rfl rfl (List.mem_of_getElem? (i := 17) rfl) kdM_uprightWithin ⟨Nat.le_of_ble_eq_true rfl, Nat.le_of_ble_eq_true rfl⟩) 0 6 rfl rfl rfl [12] ⟨Nat.zero_le _, Nat.zero_le _⟩ rfl rfl (by decide +kernel) rfl rfl rfl (Nat.le_of_ble_eq_true rfl) dX2_upright_38 rfl V38
  refine lv_istore_n (lv' := [(2, .int 0), (1, .int 0), (0, .ref (aC 0))]) hx hb dX2_upright_3 rfl hl (by decide) rfl (fun ls hl => ?_)
  exact B4 lfu 0 0 s.heap [] ls hP hD hS (lv_sub hl [2, 1, 0] rfl) h
theorem kdV_X2_isPropped : yX2_isPropped.cls = RX2 ∧ yX2_isPropped.cls ≠ "java/lang/invoke/MethodHandle" ∧ yX2_isPropped.cls ≠ "java/lang/invoke/VarHandle" ∧ (parseMethodDescriptor yX2_isPropped.desc).map (fun d => d.parameters.length) = some 1 := by decide +kernel
abbrev rm_X2_turnSigns : Room := { frames := 1, cells := 0, slots := 0, locals := 21 }
set_option maxHeartbeats 4000000 in
set_option maxRecDepth 100000 in
theorem c_City_turnSigns (l : Launch) (D : va_G) (cI cM cS cJ : ClassId) (aC : Nat → Nat) (aK : Nat → Nat) (sz : Nat) (c_men : Int32) (c_propped : Int32) (c_place : Int32) (c_swings : Int32) (c_crashes : Int32) (c_day : Int32) (c_crashedToday : Int32) (c_lean : Nat → Int32) {o : (Nat → Int32)} (hsem : S_City_turnSigns c_men c_propped c_lean = some o) : kMet l yX2_turnSigns wsX2_turnSigns rm_X2_turnSigns [.ref (aC 0)] D (kT cI cM cS cJ) (Wd11 cI aC aK c_men c_propped c_place c_swings c_crashes c_day c_crashedToday c_lean) sz none (Wd11 cI aC aK c_men c_propped c_place c_swings c_crashes c_day c_crashedToday o) := by
  refine k_metV (by decide) rfl rfl (Nat.le_of_ble_eq_true rfl) ?_
  intro p e s m below meth c ls Q A hx hb hml hts hown hK hN hA hP hD hS hl hsz hnm hret
  have hown : s.vm.findClass RX2 = some m.cls := hown
  have hf34 := hts (.fieldLink RX2 34 "PlumbLine$City" "men" "I") (List.mem_of_getElem? (i := 1) rfl)
  have hf18 := hts (.fieldLink RX2 18 "PlumbLine$City" "lean" "[I") (List.mem_of_getElem? (i := 2) rfl)
  have hiX2 : ∀ w ∈ u_ws RX2 TX2 12, w ∈ wsX2_turnSigns := fun w h => List.mem_cons_of_mem _ (List.mem_append_right _ h)
  replace hl : lv_has ls 2 [(0, .ref (aC 0))] := hl
  have h := hsem
  clear hsem
  rw [S_City_turnSigns] at h
  refine lv_iconst (v := 0) hx hb dX2_turnSigns_0 (by decide) ?_
  have B2 : ∀ (n2 : Nat) (y1 : Int32) (c_lean : Nat → Int32) (H : Heap) (locs : List Loc) (ls : Array Slot), va_P D vwCl (Wd11 cI aC aK c_men c_propped c_place c_swings c_crashes c_day c_crashedToday c_lean) H → va_D A (Wd11 cI aC aK c_men c_propped c_place c_swings c_crashes c_day c_crashedToday c_lean) → va_S A s.heap H locs → lv_has ls 2 [(0, .ref (aC 0)), (1, .int y1)] → S_City_turnSigns_L2 c_men c_propped n2 y1 c_lean = some o → W p l e rm_X2_turnSigns s m ([.ref (aC 0)] : List Value).toArray below meth c H locs 0 0 Q (F0 m 2 ls []) := by
    intro n2
    induction n2 with
    | zero => intro y1 c_lean H locs ls hP hD hS hl h; exact absurd h (by simp [S_City_turnSigns_L2])
    | succ n2 ih2 =>
      intro y1 c_lean H locs ls hP hD hS hl h
      rw [S_City_turnSigns_L2] at h
      refine lv_iload_n hx hb dX2_turnSigns_2 rfl (lv_at hl 1 rfl) ?_
      refine lv_aload_n hx hb dX2_turnSigns_3 rfl (lv_at hl 0 rfl) ?_
      refine va_get (D := D) (ci := 2) (v := .int c_men) (C := RX2) (T := TX2) (N := 12) hx hb hts hiX2 hown hK hP 0 rfl rfl 3 (by decide) hf34 (fun _ z => z) rfl dX2_turnSigns_4 ?_
      refine lv_icmp_ge (tgt := 37) hx hb dX2_turnSigns_7 (by decide) (fun c7 => ?_) (fun c7 => ?_)
      · have h := k_pos c7 h
        cases h
        exact hret _ _ _ _ hP hS dX2_turnSigns_37
      · have h := k_neg c7 h
        refine lv_aload_n hx hb dX2_turnSigns_10 rfl (lv_at hl 0 rfl) ?_
        refine lv_iload_n hx hb dX2_turnSigns_11 rfl (lv_at hl 1 rfl) ?_
        refine k_callV (As := [.int y1]) (rest := []) (st1 := [.int (S_City_isPropped y1 c_propped)]) (ws2 := (Wd11 cI aC aK c_men c_propped c_place c_swings c_crashes c_day c_crashedToday c_lean)) hx hb hml hown hts hK hN hA hP hD hS hl (c_City_isPropped l D cI cM cS cJ aC aK H.size y1 c_men c_propped c_place c_swings c_crashes c_day c_crashedToday rfl) gX2_turnSigns_X2_isPropped rfl kdV_X2_isPropped 0 2 rfl rfl rfl [0] ⟨rfl, rfl⟩ ⟨Nat.le_of_ble_eq_true rfl, Nat.le_of_ble_eq_true rfl⟩ ⟨Nat.zero_le _, Nat.zero_le _⟩ rfl rfl (by decide +kernel) rfl rfl rfl (Nat.le_of_ble_eq_true rfl) dX2_turnSigns_12 rfl (fun H locs hP hD hS => ?_)
        refine lv_if_ne (tgt := 31) hx hb dX2_turnSigns_15 (by decide) (fun c15 => ?_) (fun c15 => ?_)
        · have h := k_neg c15 h
          refine lv_iinc (v := (y1 + 1)) (lv' := [(1, .int (y1 + 1)), (0, .ref (aC 0))]) hx hb dX2_turnSigns_31 hl (k := 1) rfl (by first | rfl | decide) (by decide) rfl (fun ls hl => ?_)
          refine lv_goto (tgt := 2) hx hb dX2_turnSigns_34 (by decide) ?_
          exact ih2 (y1 + 1) c_lean H locs ls hP hD hS (lv_sub hl [1, 0] rfl) h
        · have h := k_pos c15 h
          refine lv_aload_n hx hb dX2_turnSigns_18 rfl (lv_at hl 0 rfl) ?_
          refine va_get (D := D) (ci := 2) (v := .ref (aC 3)) (C := RX2) (T := TX2) (N := 12) hx hb hts hiX2 hown hK hP 0 rfl rfl 2 (by decide) hf18 (fun _ z => z) rfl dX2_turnSigns_19 ?_
          refine lv_iload_n hx hb dX2_turnSigns_22 rfl (lv_at hl 1 rfl) ?_
          refine lv_aload_n hx hb dX2_turnSigns_23 rfl (lv_at hl 0 rfl) ?_
          refine va_get (D := D) (ci := 2) (v := .ref (aC 3)) (C := RX2) (T := TX2) (N := 12) hx hb hts hiX2 hown hK hP 0 rfl rfl 2 (by decide) hf18 (fun _ z => z) rfl dX2_turnSigns_24 ?_
          refine lv_iload_n hx hb dX2_turnSigns_27 rfl (lv_at hl 1 rfl) ?_
          obtain ⟨g28, h⟩ := k_guard h
          refine va_iald hx hb hK hP 1 0 rfl rfl g28 dX2_turnSigns_28 ?_
          refine lv_ineg hx hb dX2_turnSigns_29 ?_
          refine va_iast hx hb hK hP hD hS 1 0 rfl rfl g28 dX2_turnSigns_30 (fun H locs hP hD hS => ?_)
          replace hP : va_P D vwCl (Wd11 cI aC aK c_men c_propped c_place c_swings c_crashes c_day c_crashedToday (upd c_lean y1.toNatClampNeg (-(c_lean y1.toNatClampNeg)))) H := hP
          replace hD : va_D A (Wd11 cI aC aK c_men c_propped c_place c_swings c_crashes c_day c_crashedToday (upd c_lean y1.toNatClampNeg (-(c_lean y1.toNatClampNeg)))) := hD
          refine lv_iinc (v := (y1 + 1)) (lv' := [(1, .int (y1 + 1)), (0, .ref (aC 0))]) hx hb dX2_turnSigns_31 hl (k := 1) rfl (by first | rfl | decide) (by decide) rfl (fun ls hl => ?_)
          refine lv_goto (tgt := 2) hx hb dX2_turnSigns_34 (by decide) ?_
          exact ih2 (y1 + 1) (upd c_lean y1.toNatClampNeg (-(c_lean y1.toNatClampNeg))) H locs ls hP hD hS (lv_sub hl [1, 0] rfl) h
  refine lv_istore_n (lv' := [(1, .int 0), (0, .ref (aC 0))]) hx hb dX2_turnSigns_1 rfl hl (by decide) rfl (fun ls hl => ?_)
  exact B2 lfu 0 c_lean s.heap [] ls hP hD hS (lv_sub hl [1, 0] rfl) h
abbrev rm_X2_plumb : Room := { frames := 1, cells := 0, slots := 0, locals := 40 }
set_option maxHeartbeats 4000000 in
set_option maxRecDepth 100000 in
theorem c_City_plumb (l : Launch) (D : va_G) (cI cM cS cJ : ClassId) (aC : Nat → Nat) (aK : Nat → Nat) (sz : Nat) (c_men : Int32) (c_propped : Int32) (c_place : Int32) (c_swings : Int32) (c_crashes : Int32) (c_day : Int32) (c_crashedToday : Int32) (c_lean : Nat → Int32) {o : (Int32)} (hsem : S_City_plumb c_men c_lean = some o) : kMet l yX2_plumb wsX2_plumb rm_X2_plumb [.ref (aC 0)] D (kT cI cM cS cJ) (Wd11 cI aC aK c_men c_propped c_place c_swings c_crashes c_day c_crashedToday c_lean) sz (some (.int o)) (Wd11 cI aC aK c_men c_propped c_place c_swings c_crashes c_day c_crashedToday c_lean) := by
  refine k_metI (by decide) rfl rfl (Nat.le_of_ble_eq_true rfl) ?_
  intro p e s m below meth c ls Q A hx hb hml hts hown hK hN hA hP hD hS hl hsz hnm hret
  have hown : s.vm.findClass RX2 = some m.cls := hown
  have hf34 := hts (.fieldLink RX2 34 "PlumbLine$City" "men" "I") (List.mem_of_getElem? (i := 1) rfl)
  have hf18 := hts (.fieldLink RX2 18 "PlumbLine$City" "lean" "[I") (List.mem_of_getElem? (i := 2) rfl)
  have hiX2 : ∀ w ∈ u_ws RX2 TX2 12, w ∈ wsX2_plumb := fun w h => List.mem_cons_of_mem _ (List.mem_append_right _ h)
  replace hl : lv_has ls 3 [(0, .ref (aC 0))] := hl
  have h := hsem
  clear hsem
  rw [S_City_plumb] at h
  refine lv_bipush (v := (-4)) hx hb dX2_plumb_0 (by decide) ?_
  refine lv_istore_n (lv' := [(1, .int (-4)), (0, .ref (aC 0))]) hx hb dX2_plumb_2 rfl hl (by decide) rfl (fun ls hl => ?_)
  refine lv_iconst (v := 0) hx hb dX2_plumb_3 (by decide) ?_
  have B5 : ∀ (n5 : Nat) (y1 : Int32) (y2 : Int32) (H : Heap) (locs : List Loc) (ls : Array Slot), va_P D vwCl (Wd11 cI aC aK c_men c_propped c_place c_swings c_crashes c_day c_crashedToday c_lean) H → va_D A (Wd11 cI aC aK c_men c_propped c_place c_swings c_crashes c_day c_crashedToday c_lean) → va_S A s.heap H locs → lv_has ls 3 [(0, .ref (aC 0)), (1, .int y1), (2, .int y2)] → S_City_plumb_L5 c_men c_lean n5 y1 y2 = some o → W p l e rm_X2_plumb s m ([.ref (aC 0)] : List Value).toArray below meth c H locs 0 0 Q (F0 m 5 ls []) := by
    intro n5
    induction n5 with
    | zero => intro y1 y2 H locs ls hP hD hS hl h; exact absurd h (by simp [S_City_plumb_L5])
    | succ n5 ih5 =>
      intro y1 y2 H locs ls hP hD hS hl h
      rw [S_City_plumb_L5] at h
      refine lv_iload_n hx hb dX2_plumb_5 rfl (lv_at hl 2 rfl) ?_
      refine lv_aload_n hx hb dX2_plumb_6 rfl (lv_at hl 0 rfl) ?_
      refine va_get (D := D) (ci := 2) (v := .int c_men) (C := RX2) (T := TX2) (N := 12) hx hb hts hiX2 hown hK hP 0 rfl rfl 3 (by decide) hf34 (fun _ z => z) rfl dX2_plumb_7 ?_
      refine lv_icmp_ge (tgt := 48) hx hb dX2_plumb_10 (by decide) (fun c10 => ?_) (fun c10 => ?_)
      · have h := k_pos c10 h
        refine lv_iload_n hx hb dX2_plumb_48 rfl (lv_at hl 1 rfl) ?_
        cases h
        exact hret _ _ _ _ hP hS dX2_plumb_49
      · have h := k_neg c10 h
        refine lv_iload_n hx hb dX2_plumb_13 rfl (lv_at hl 1 rfl) ?_
        refine lv_bipush (v := (-4)) hx hb dX2_plumb_14 (by decide) ?_
        refine lv_icmp_eq (tgt := 40) hx hb dX2_plumb_16 (by decide) (fun c16 => ?_) (fun c16 => ?_)
        · have h := k_pos c16 h
          refine lv_iload_n hx hb dX2_plumb_40 rfl (lv_at hl 2 rfl) ?_
          refine lv_istore_n (lv' := [(1, .int y2), (0, .ref (aC 0)), (2, .int y2)]) hx hb dX2_plumb_41 rfl hl (by decide) rfl (fun ls hl => ?_)
          refine lv_iinc (v := (y2 + 1)) (lv' := [(2, .int (y2 + 1)), (1, .int y2), (0, .ref (aC 0))]) hx hb dX2_plumb_42 hl (k := 2) rfl (by first | rfl | decide) (by decide) rfl (fun ls hl => ?_)
          refine lv_goto (tgt := 5) hx hb dX2_plumb_45 (by decide) ?_
          exact ih5 y2 (y2 + 1) H locs ls hP hD hS (lv_sub hl [2, 1, 0] rfl) h
        · have h := k_neg c16 h
          refine lv_aload_n hx hb dX2_plumb_19 rfl (lv_at hl 0 rfl) ?_
          refine va_get (D := D) (ci := 2) (v := .ref (aC 3)) (C := RX2) (T := TX2) (N := 12) hx hb hts hiX2 hown hK hP 0 rfl rfl 2 (by decide) hf18 (fun _ z => z) rfl dX2_plumb_20 ?_
          refine lv_iload_n hx hb dX2_plumb_23 rfl (lv_at hl 2 rfl) ?_
          obtain ⟨g24, h⟩ := k_guard h
          refine va_iald hx hb hK hP 1 0 rfl rfl g24 dX2_plumb_24 ?_
          refine k_mabs (own := RX2) (index := 149) hx hb (hml.trans hl.1.symm) hown (hts _ (List.mem_of_getElem? (i := 3) rfl)) (hts _ (List.mem_of_getElem? (i := 4) rfl)) (hts _ (List.mem_of_getElem? (i := 5) rfl)) (hts _ (List.mem_of_getElem? (i := 6) rfl)) (Nat.le_of_ble_eq_true rfl) (Nat.le_of_ble_eq_true rfl) (Nat.zero_le _) (Nat.zero_le _) dX2_plumb_25 ?_
          refine lv_aload_n hx hb dX2_plumb_28 rfl (lv_at hl 0 rfl) ?_
          refine va_get (D := D) (ci := 2) (v := .ref (aC 3)) (C := RX2) (T := TX2) (N := 12) hx hb hts hiX2 hown hK hP 0 rfl rfl 2 (by decide) hf18 (fun _ z => z) rfl dX2_plumb_29 ?_
          refine lv_iload_n hx hb dX2_plumb_32 rfl (lv_at hl 1 rfl) ?_
          obtain ⟨g33, h⟩ := k_guard h
          refine va_iald hx hb hK hP 1 0 rfl rfl g33 dX2_plumb_33 ?_
          refine k_mabs (own := RX2) (index := 149) hx hb (hml.trans hl.1.symm) hown (hts _ (List.mem_of_getElem? (i := 3) rfl)) (hts _ (List.mem_of_getElem? (i := 4) rfl)) (hts _ (List.mem_of_getElem? (i := 5) rfl)) (hts _ (List.mem_of_getElem? (i := 6) rfl)) (Nat.le_of_ble_eq_true rfl) (Nat.le_of_ble_eq_true rfl) (Nat.zero_le _) (Nat.zero_le _) dX2_plumb_34 ?_
          refine lv_icmp_ge (tgt := 42) hx hb dX2_plumb_37 (by decide) (fun c37 => ?_) (fun c37 => ?_)
          · have h := k_pos c37 h
            refine lv_iinc (v := (y2 + 1)) (lv' := [(2, .int (y2 + 1)), (0, .ref (aC 0)), (1, .int y1)]) hx hb dX2_plumb_42 hl (k := 2) rfl (by first | rfl | decide) (by decide) rfl (fun ls hl => ?_)
            refine lv_goto (tgt := 5) hx hb dX2_plumb_45 (by decide) ?_
            exact ih5 y1 (y2 + 1) H locs ls hP hD hS (lv_sub hl [1, 2, 0] rfl) h
          · have h := k_neg c37 h
            refine lv_iload_n hx hb dX2_plumb_40 rfl (lv_at hl 2 rfl) ?_
            refine lv_istore_n (lv' := [(1, .int y2), (0, .ref (aC 0)), (2, .int y2)]) hx hb dX2_plumb_41 rfl hl (by decide) rfl (fun ls hl => ?_)
            refine lv_iinc (v := (y2 + 1)) (lv' := [(2, .int (y2 + 1)), (1, .int y2), (0, .ref (aC 0))]) hx hb dX2_plumb_42 hl (k := 2) rfl (by first | rfl | decide) (by decide) rfl (fun ls hl => ?_)
            refine lv_goto (tgt := 5) hx hb dX2_plumb_45 (by decide) ?_
            exact ih5 y2 (y2 + 1) H locs ls hP hD hS (lv_sub hl [2, 1, 0] rfl) h
  refine lv_istore_n (lv' := [(2, .int 0), (1, .int (-4)), (0, .ref (aC 0))]) hx hb dX2_plumb_4 rfl hl (by decide) rfl (fun ls hl => ?_)
  exact B5 lfu (-4) 0 s.heap [] ls hP hD hS (lv_sub hl [2, 1, 0] rfl) h
theorem kdV_X2_plumb : yX2_plumb.cls = RX2 ∧ yX2_plumb.cls ≠ "java/lang/invoke/MethodHandle" ∧ yX2_plumb.cls ≠ "java/lang/invoke/VarHandle" ∧ (parseMethodDescriptor yX2_plumb.desc).map (fun d => d.parameters.length) = some 0 := by decide +kernel
abbrev rm_X2_moveLead : Room := { frames := 2, cells := 0, slots := 0, locals := 62 }
set_option maxHeartbeats 4000000 in
set_option maxRecDepth 100000 in
theorem c_City_moveLead (l : Launch) (D : va_G) (cI cM cS cJ : ClassId) (aC : Nat → Nat) (aK : Nat → Nat) (sz : Nat) (c_men : Int32) (c_propped : Int32) (c_place : Int32) (c_swings : Int32) (c_crashes : Int32) (c_day : Int32) (c_crashedToday : Int32) (c_lean : Nat → Int32) {o : (Int32)} (hsem : S_City_moveLead c_men c_place c_swings c_lean = some o) : kMet l yX2_moveLead wsX2_moveLead rm_X2_moveLead [.ref (aC 0)] D (kT cI cM cS cJ) (Wd11 cI aC aK c_men c_propped c_place c_swings c_crashes c_day c_crashedToday c_lean) sz none (Wd11 cI aC aK c_men c_propped o c_swings c_crashes c_day c_crashedToday c_lean) := by
  refine k_metV (by decide) rfl rfl (Nat.le_of_ble_eq_true rfl) ?_
  intro p e s m below meth c ls Q A hx hb hml hts hown hK hN hA hP hD hS hl hsz hnm hret
  have hown : s.vm.findClass RX2 = some m.cls := hown
  have hf34 := hts (.fieldLink RX2 34 "PlumbLine$City" "men" "I") (List.mem_of_getElem? (i := 1) rfl)
  have hf44 := hts (.fieldLink RX2 44 "PlumbLine$City" "swings" "I") (List.mem_of_getElem? (i := 2) rfl)
  have hf41 := hts (.fieldLink RX2 41 "PlumbLine$City" "place" "I") (List.mem_of_getElem? (i := 3) rfl)
  have hiX2 : ∀ w ∈ u_ws RX2 TX2 12, w ∈ wsX2_moveLead := fun w h => List.mem_cons_of_mem _ (List.mem_append_right _ h)
  replace hl : lv_has ls 1 [(0, .ref (aC 0))] := hl
  have h := hsem
  clear hsem
  rw [S_City_moveLead] at h
  refine lv_aload_n hx hb dX2_moveLead_0 rfl (lv_at hl 0 rfl) ?_
  refine va_get (D := D) (ci := 2) (v := .int c_men) (C := RX2) (T := TX2) (N := 12) hx hb hts hiX2 hown hK hP 0 rfl rfl 3 (by decide) hf34 (fun _ z => z) rfl dX2_moveLead_1 ?_
  refine lv_if_ne (tgt := 8) hx hb dX2_moveLead_4 (by decide) (fun c4 => ?_) (fun c4 => ?_)
  · have h := k_neg c4 h
    refine lv_aload_n hx hb dX2_moveLead_8 rfl (lv_at hl 0 rfl) ?_
    refine va_get (D := D) (ci := 2) (v := .int c_swings) (C := RX2) (T := TX2) (N := 12) hx hb hts hiX2 hown hK hP 0 rfl rfl 6 (by decide) hf44 (fun _ z => z) rfl dX2_moveLead_9 ?_
    refine lv_if_le (tgt := 45) hx hb dX2_moveLead_12 (by decide) (fun c12 => ?_) (fun c12 => ?_)
    · have h := k_pos c12 h
      refine lv_aload_n hx hb dX2_moveLead_45 rfl (lv_at hl 0 rfl) ?_
      refine lv_dup hx hb dX2_moveLead_46 rfl ?_
      refine va_get (D := D) (ci := 2) (v := .int c_place) (C := RX2) (T := TX2) (N := 12) hx hb hts hiX2 hown hK hP 0 rfl rfl 5 (by decide) hf41 (fun _ z => z) rfl dX2_moveLead_47 ?_
      refine lv_aload_n hx hb dX2_moveLead_50 rfl (lv_at hl 0 rfl) ?_
      refine va_get (D := D) (ci := 2) (v := .int c_place) (C := RX2) (T := TX2) (N := 12) hx hb hts hiX2 hown hK hP 0 rfl rfl 5 (by decide) hf41 (fun _ z => z) rfl dX2_moveLead_51 ?_
      refine lv_aload_n hx hb dX2_moveLead_54 rfl (lv_at hl 0 rfl) ?_
      obtain ⟨r55, g55, h⟩ := k_bind h
      refine k_callV (As := []) (rest := [.int c_place, .int c_place, .ref (aC 0)]) (st1 := [.int r55, .int c_place, .int c_place, .ref (aC 0)]) (ws2 := (Wd11 cI aC aK c_men c_propped c_place c_swings c_crashes c_day c_crashedToday c_lean)) hx hb hml hown hts hK hN hA hP hD hS hl (c_City_plumb l D cI cM cS cJ aC aK s.heap.size c_men c_propped c_place c_swings c_crashes c_day c_crashedToday c_lean g55) gX2_moveLead_X2_plumb rfl kdV_X2_plumb 0 2 rfl rfl rfl [0, 1] ⟨rfl, rfl⟩ ⟨Nat.le_of_ble_eq_true rfl, Nat.le_of_ble_eq_true rfl⟩ ⟨Nat.zero_le _, Nat.zero_le _⟩ rfl rfl (by decide +kernel) rfl rfl rfl (Nat.le_of_ble_eq_true rfl) dX2_moveLead_55 rfl (fun H locs hP hD hS => ?_)
      refine lv_iconst (v := 1) hx hb dX2_moveLead_58 (by decide) ?_
      refine k_callS (As := [.int c_place, .int r55, .int 1]) (rest := [.int c_place, .ref (aC 0)]) (st1 := [.int (S_Man_stepTowards c_place r55 1), .int c_place, .ref (aC 0)]) (ws2 := (Wd11 cI aC aK c_men c_propped c_place c_swings c_crashes c_day c_crashedToday c_lean)) hx hb hml hown hts hK hN hA hP hD hS hl (c_Man_stepTowards l D cI cM cS cJ H.size c_place r55 1 rfl) gX2_moveLead_X4_stepTowards rfl kdS_X4_stepTowards [] ⟨rfl, rfl⟩ ⟨Nat.le_of_ble_eq_true rfl, Nat.le_of_ble_eq_true rfl⟩ ⟨Nat.zero_le _, Nat.zero_le _⟩ rfl rfl (by decide +kernel) rfl rfl rfl (Nat.le_of_ble_eq_true rfl) dX2_moveLead_59 rfl (fun H locs hP hD hS => ?_)
      refine lv_iadd hx hb dX2_moveLead_62 ?_
      refine va_put (D := D) (ci := 2) (v := .int (c_place + (S_Man_stepTowards c_place r55 1))) (ty := .int) (C := RX2) (T := TX2) (N := 12) hx hb hts hiX2 tyX2 tyX2_ok nmX2 hown hK hP hD hS 0 rfl rfl 5 (by decide) hf41 (fun _ z => z) rfl (by decide +kernel) rfl rfl (Nat.le_of_ble_eq_true rfl) dX2_moveLead_63 (fun H locs hP hD hS => ?_)
      replace hP : va_P D vwCl (Wd11 cI aC aK c_men c_propped (c_place + (S_Man_stepTowards c_place r55 1)) c_swings c_crashes c_day c_crashedToday c_lean) H := hP
      replace hD : va_D A (Wd11 cI aC aK c_men c_propped (c_place + (S_Man_stepTowards c_place r55 1)) c_swings c_crashes c_day c_crashedToday c_lean) := hD
      cases h
      exact hret _ _ _ _ hP hS dX2_moveLead_66
    · have h := k_neg c12 h
      refine lv_aload_n hx hb dX2_moveLead_15 rfl (lv_at hl 0 rfl) ?_
      refine lv_aload_n hx hb dX2_moveLead_16 rfl (lv_at hl 0 rfl) ?_
      refine va_get (D := D) (ci := 2) (v := .int c_place) (C := RX2) (T := TX2) (N := 12) hx hb hts hiX2 hown hK hP 0 rfl rfl 5 (by decide) hf41 (fun _ z => z) rfl dX2_moveLead_17 ?_
      refine lv_iconst (v := 1) hx hb dX2_moveLead_20 (by decide) ?_
      refine lv_iadd hx hb dX2_moveLead_21 ?_
      refine lv_aload_n hx hb dX2_moveLead_22 rfl (lv_at hl 0 rfl) ?_
      refine va_get (D := D) (ci := 2) (v := .int c_men) (C := RX2) (T := TX2) (N := 12) hx hb hts hiX2 hown hK hP 0 rfl rfl 3 (by decide) hf34 (fun _ z => z) rfl dX2_moveLead_23 ?_
      refine lv_icmp_ge (tgt := 38) hx hb dX2_moveLead_26 (by decide) (fun c26 => ?_) (fun c26 => ?_)
      · have h := k_pos c26 h
        refine lv_iconst (v := 0) hx hb dX2_moveLead_38 (by decide) ?_
        refine va_put (D := D) (ci := 2) (v := .int 0) (ty := .int) (C := RX2) (T := TX2) (N := 12) hx hb hts hiX2 tyX2 tyX2_ok nmX2 hown hK hP hD hS 0 rfl rfl 5 (by decide) hf41 (fun _ z => z) rfl (by decide +kernel) rfl rfl (Nat.le_of_ble_eq_true rfl) dX2_moveLead_39 (fun H locs hP hD hS => ?_)
        replace hP : va_P D vwCl (Wd11 cI aC aK c_men c_propped 0 c_swings c_crashes c_day c_crashedToday c_lean) H := hP
        replace hD : va_D A (Wd11 cI aC aK c_men c_propped 0 c_swings c_crashes c_day c_crashedToday c_lean) := hD
        refine lv_goto (tgt := 66) hx hb dX2_moveLead_42 (by decide) ?_
        cases h
        exact hret _ _ _ _ hP hS dX2_moveLead_66
      · have h := k_neg c26 h
        refine lv_aload_n hx hb dX2_moveLead_29 rfl (lv_at hl 0 rfl) ?_
        refine va_get (D := D) (ci := 2) (v := .int c_place) (C := RX2) (T := TX2) (N := 12) hx hb hts hiX2 hown hK hP 0 rfl rfl 5 (by decide) hf41 (fun _ z => z) rfl dX2_moveLead_30 ?_
        refine lv_iconst (v := 1) hx hb dX2_moveLead_33 (by decide) ?_
        refine lv_iadd hx hb dX2_moveLead_34 ?_
        refine lv_goto (tgt := 39) hx hb dX2_moveLead_35 (by decide) ?_
        refine va_put (D := D) (ci := 2) (v := .int (c_place + 1)) (ty := .int) (C := RX2) (T := TX2) (N := 12) hx hb hts hiX2 tyX2 tyX2_ok nmX2 hown hK hP hD hS 0 rfl rfl 5 (by decide) hf41 (fun _ z => z) rfl (by decide +kernel) rfl rfl (Nat.le_of_ble_eq_true rfl) dX2_moveLead_39 (fun H locs hP hD hS => ?_)
        replace hP : va_P D vwCl (Wd11 cI aC aK c_men c_propped (c_place + 1) c_swings c_crashes c_day c_crashedToday c_lean) H := hP
        replace hD : va_D A (Wd11 cI aC aK c_men c_propped (c_place + 1) c_swings c_crashes c_day c_crashedToday c_lean) := hD
        refine lv_goto (tgt := 66) hx hb dX2_moveLead_42 (by decide) ?_
        cases h
        exact hret _ _ _ _ hP hS dX2_moveLead_66
  · have h := k_pos c4 h
    cases h
    exact hret _ _ _ _ hP hS dX2_moveLead_7
theorem kdV_X2_upright : yX2_upright.cls = RX2 ∧ yX2_upright.cls ≠ "java/lang/invoke/MethodHandle" ∧ yX2_upright.cls ≠ "java/lang/invoke/VarHandle" ∧ (parseMethodDescriptor yX2_upright.desc).map (fun d => d.parameters.length) = some 0 := by decide +kernel
theorem kdS_J6_bitCount_0f7a4 : yJ6_bitCount_0f7a4.cls ≠ "java/lang/invoke/MethodHandle" ∧ yJ6_bitCount_0f7a4.cls ≠ "java/lang/invoke/VarHandle" ∧ (parseMethodDescriptor yJ6_bitCount_0f7a4.desc).map (fun d => d.parameters.length) = some 1 := by decide +kernel
theorem kdV_X2_moveLead : yX2_moveLead.cls = RX2 ∧ yX2_moveLead.cls ≠ "java/lang/invoke/MethodHandle" ∧ yX2_moveLead.cls ≠ "java/lang/invoke/VarHandle" ∧ (parseMethodDescriptor yX2_moveLead.desc).map (fun d => d.parameters.length) = some 0 := by decide +kernel
theorem kdV_X2_turnSigns : yX2_turnSigns.cls = RX2 ∧ yX2_turnSigns.cls ≠ "java/lang/invoke/MethodHandle" ∧ yX2_turnSigns.cls ≠ "java/lang/invoke/VarHandle" ∧ (parseMethodDescriptor yX2_turnSigns.desc).map (fun d => d.parameters.length) = some 0 := by decide +kernel
theorem kdV_X4_leansMore : yX4_leansMore.cls = RX4 ∧ yX4_leansMore.cls ≠ "java/lang/invoke/MethodHandle" ∧ yX4_leansMore.cls ≠ "java/lang/invoke/VarHandle" ∧ (parseMethodDescriptor yX4_leansMore.desc).map (fun d => d.parameters.length) = some 4 := by decide +kernel
theorem kdM_leansMore : "PlumbLine$Man" ≠ "java/lang/invoke/MethodHandle" ∧ "PlumbLine$Man" ≠ "java/lang/invoke/VarHandle" ∧ (parseMethodDescriptor "(IIII)I").map (fun d => d.parameters.length) = some 4 := by decide +kernel
theorem kdV_X2_sumOfLeans : yX2_sumOfLeans.cls = RX2 ∧ yX2_sumOfLeans.cls ≠ "java/lang/invoke/MethodHandle" ∧ yX2_sumOfLeans.cls ≠ "java/lang/invoke/VarHandle" ∧ (parseMethodDescriptor yX2_sumOfLeans.desc).map (fun d => d.parameters.length) = some 0 := by decide +kernel
abbrev rm_X2_passDay : Room := { frames := 3, cells := 0, slots := 0, locals := 82 }
set_option maxHeartbeats 4000000 in
set_option maxRecDepth 100000 in
theorem c_City_passDay (l : Launch) (D : va_G) (cI cM cS cJ : ClassId) (aC : Nat → Nat) (aK : Nat → Nat) (sz : Nat) (c_men : Int32) (c_propped : Int32) (c_place : Int32) (c_swings : Int32) (c_crashes : Int32) (c_day : Int32) (c_crashedToday : Int32) (c_kind : Nat → Int32) (c_figure : Nat → Int32) (c_lean : Nat → Int32) {o : (Int32) × (Int32) × (Int32) × (Int32) × (Int32) × (Nat → Int32)} (hsem : S_City_passDay c_men c_propped c_place c_swings c_crashes c_day c_crashedToday c_kind c_figure c_lean = some o) : kMet l yX2_passDay wsX2_passDay rm_X2_passDay [.ref (aC 0)] D (kT cI cM cS cJ) (Wd12 cI cM aC aK c_men c_propped c_place c_swings c_crashes c_day c_crashedToday c_kind c_figure c_lean) sz none (Wd12 cI cM aC aK c_men c_propped o.1 o.2.1 o.2.2.1 o.2.2.2.1 o.2.2.2.2.1 c_kind c_figure o.2.2.2.2.2) := by
  refine k_metV (by decide) rfl rfl (Nat.le_of_ble_eq_true rfl) ?_
  intro p e s m below meth c ls Q A hx hb hml hts hown hK hN hA hP hD hS hl hsz hnm hret
  have hown : s.vm.findClass RX2 = some m.cls := hown
  have hf50 := hts (.fieldLink RX2 50 "PlumbLine$City" "day" "I") (List.mem_of_getElem? (i := 1) rfl)
  have hf34 := hts (.fieldLink RX2 34 "PlumbLine$City" "men" "I") (List.mem_of_getElem? (i := 2) rfl)
  have hf102 := hts (.fieldLink RX2 102 "PlumbLine$City" "crashedToday" "Z") (List.mem_of_getElem? (i := 14) rfl)
  have hf44 := hts (.fieldLink RX2 44 "PlumbLine$City" "swings" "I") (List.mem_of_getElem? (i := 16) rfl)
  have hf47 := hts (.fieldLink RX2 47 "PlumbLine$City" "crashes" "I") (List.mem_of_getElem? (i := 15) rfl)
  have hf24 := hts (.fieldLink RX2 24 "PlumbLine$City" "kinds" "[LPlumbLine$Man;") (List.mem_of_getElem? (i := 3) rfl)
  have hf9 := hts (.fieldLink RX2 9 "PlumbLine$City" "kind" "[I") (List.mem_of_getElem? (i := 4) rfl)
  have hf18 := hts (.fieldLink RX2 18 "PlumbLine$City" "lean" "[I") (List.mem_of_getElem? (i := 5) rfl)
  have hf15 := hts (.fieldLink RX2 15 "PlumbLine$City" "figure" "[I") (List.mem_of_getElem? (i := 6) rfl)
  have hiX2 : ∀ w ∈ u_ws RX2 TX2 12, w ∈ wsX2_passDay := fun w h => List.mem_cons_of_mem _ (List.mem_append_right _ h)
  replace hl : lv_has ls 4 [(0, .ref (aC 0))] := hl
  have h := hsem
  clear hsem
  rw [S_City_passDay] at h
  refine lv_aload_n hx hb dX2_passDay_0 rfl (lv_at hl 0 rfl) ?_
  refine lv_dup hx hb dX2_passDay_1 rfl ?_
  refine va_get (D := D) (ci := 2) (v := .int c_day) (C := RX2) (T := TX2) (N := 12) hx hb hts hiX2 hown hK hP 0 rfl rfl 8 (by decide) hf50 (fun _ z => z) rfl dX2_passDay_2 ?_
  refine lv_iconst (v := 1) hx hb dX2_passDay_5 (by decide) ?_
  refine lv_iadd hx hb dX2_passDay_6 ?_
  refine va_put (D := D) (ci := 2) (v := .int (c_day + 1)) (ty := .int) (C := RX2) (T := TX2) (N := 12) hx hb hts hiX2 tyX2 tyX2_ok nmX2 hown hK hP hD hS 0 rfl rfl 8 (by decide) hf50 (fun _ z => z) rfl (by decide +kernel) rfl rfl (Nat.le_of_ble_eq_true rfl) dX2_passDay_7 (fun H locs hP hD hS => ?_)
  replace hP : va_P D vwCl (Wd12 cI cM aC aK c_men c_propped c_place c_swings c_crashes (c_day + 1) c_crashedToday c_kind c_figure c_lean) H := hP
  replace hD : va_D A (Wd12 cI cM aC aK c_men c_propped c_place c_swings c_crashes (c_day + 1) c_crashedToday c_kind c_figure c_lean) := hD
  refine lv_aload_n hx hb dX2_passDay_10 rfl (lv_at hl 0 rfl) ?_
  refine va_get (D := D) (ci := 2) (v := .int c_men) (C := RX2) (T := TX2) (N := 12) hx hb hts hiX2 hown hK hP 0 rfl rfl 3 (by decide) hf34 (fun _ z => z) rfl dX2_passDay_11 ?_
  have B30 : ∀ (v0 : Int32) (c_place : Int32) (c_swings : Int32) (c_crashes : Int32) (c_day : Int32) (c_crashedToday : Int32) (c_lean : Nat → Int32) (H : Heap) (locs : List Loc) (ls : Array Slot), va_P D vwCl (Wd12 cI cM aC aK c_men c_propped c_place c_swings c_crashes c_day c_crashedToday c_kind c_figure c_lean) H → va_D A (Wd12 cI cM aC aK c_men c_propped c_place c_swings c_crashes c_day c_crashedToday c_kind c_figure c_lean) → va_S A s.heap H locs → lv_has ls 4 [(0, .ref (aC 0))] → S_City_passDay_J30 v0 c_men c_propped c_kind c_figure c_place c_swings c_crashes c_day c_lean = some o → W p l e rm_X2_passDay s m ([.ref (aC 0)] : List Value).toArray below meth c H locs 0 0 Q (F0 m 30 ls [.int v0]) := by
    intro v0 c_place c_swings c_crashes c_day c_crashedToday c_lean H locs ls hP hD hS hl h
    rw [S_City_passDay_J30] at h
    refine lv_istore_n (lv' := [(1, .int v0), (0, .ref (aC 0))]) hx hb dX2_passDay_30 rfl hl (by decide) rfl (fun ls hl => ?_)
    refine lv_iconst (v := 0) hx hb dX2_passDay_31 (by decide) ?_
    have B33 : ∀ (y1 : Int32) (c_place : Int32) (c_swings : Int32) (c_crashes : Int32) (c_day : Int32) (c_crashedToday : Int32) (n33 : Nat) (y2 : Int32) (c_lean : Nat → Int32) (H : Heap) (locs : List Loc) (ls : Array Slot), va_P D vwCl (Wd12 cI cM aC aK c_men c_propped c_place c_swings c_crashes c_day c_crashedToday c_kind c_figure c_lean) H → va_D A (Wd12 cI cM aC aK c_men c_propped c_place c_swings c_crashes c_day c_crashedToday c_kind c_figure c_lean) → va_S A s.heap H locs → lv_has ls 4 [(0, .ref (aC 0)), (1, .int y1), (2, .int y2)] → S_City_passDay_L33 y1 c_men c_propped c_kind c_figure c_place c_swings c_crashes c_day n33 y2 c_lean = some o → W p l e rm_X2_passDay s m ([.ref (aC 0)] : List Value).toArray below meth c H locs 0 0 Q (F0 m 33 ls []) := by
      intro y1 c_place c_swings c_crashes c_day c_crashedToday
      intro n33
      induction n33 with
      | zero => intro y2 c_lean H locs ls hP hD hS hl h; exact absurd h (by simp [S_City_passDay_L33])
      | succ n33 ih33 =>
        intro y2 c_lean H locs ls hP hD hS hl h
        rw [S_City_passDay_L33] at h
        refine lv_iload_n hx hb dX2_passDay_33 rfl (lv_at hl 2 rfl) ?_
        refine lv_aload_n hx hb dX2_passDay_34 rfl (lv_at hl 0 rfl) ?_
        refine va_get (D := D) (ci := 2) (v := .int c_men) (C := RX2) (T := TX2) (N := 12) hx hb hts hiX2 hown hK hP 0 rfl rfl 3 (by decide) hf34 (fun _ z => z) rfl dX2_passDay_35 ?_
        refine lv_icmp_ge (tgt := 111) hx hb dX2_passDay_38 (by decide) (fun c38 => ?_) (fun c38 => ?_)
        · have h := k_pos c38 h
          refine lv_aload_n hx hb dX2_passDay_111 rfl (lv_at hl 0 rfl) ?_
          refine lv_aload_n hx hb dX2_passDay_112 rfl (lv_at hl 0 rfl) ?_
          obtain ⟨r113, g113, h⟩ := k_bind h
          refine k_callV (As := []) (rest := [.ref (aC 0)]) (st1 := [.int r113, .ref (aC 0)]) (ws2 := (Wd12 cI cM aC aK c_men c_propped c_place c_swings c_crashes c_day c_crashedToday c_kind c_figure c_lean)) hx hb hml hown hts hK hN hA hP hD hS hl (c_City_upright l D cI cM cS cJ aC aK H.size c_men c_propped c_place c_swings c_crashes c_day c_crashedToday c_kind c_figure c_lean g113) gX2_passDay_X2_upright rfl kdV_X2_upright 0 2 rfl rfl rfl [0, 1, 2, 3, 4, 5, 6, 7, 8, 9, 10, 11, 12] ⟨rfl, rfl⟩ ⟨Nat.le_of_ble_eq_true rfl, Nat.le_of_ble_eq_true rfl⟩ ⟨Nat.zero_le _, Nat.zero_le _⟩ rfl rfl (by decide +kernel) rfl rfl rfl (Nat.le_of_ble_eq_true rfl) dX2_passDay_113 rfl (fun H locs hP hD hS => ?_)
          refine k_callS (As := [.int r113]) (rest := [.ref (aC 0)]) (st1 := [.int (S_J_bitCount r113), .ref (aC 0)]) (ws2 := (Wd12 cI cM aC aK c_men c_propped c_place c_swings c_crashes c_day c_crashedToday c_kind c_figure c_lean)) hx hb hml hown hts hK hN hA hP hD hS hl (c_J_bitCount l D cI cM cS cJ H.size r113 rfl) gX2_passDay_J6_bitCount_0f7a4 rfl kdS_J6_bitCount_0f7a4 [] ⟨rfl, rfl⟩ ⟨Nat.le_of_ble_eq_true rfl, Nat.le_of_ble_eq_true rfl⟩ ⟨Nat.zero_le _, Nat.zero_le _⟩ rfl rfl (by decide +kernel) rfl rfl rfl (Nat.le_of_ble_eq_true rfl) dX2_passDay_116 rfl (fun H locs hP hD hS => ?_)
          refine lv_aload_n hx hb dX2_passDay_119 rfl (lv_at hl 0 rfl) ?_
          refine va_get (D := D) (ci := 2) (v := .int c_men) (C := RX2) (T := TX2) (N := 12) hx hb hts hiX2 hown hK hP 0 rfl rfl 3 (by decide) hf34 (fun _ z => z) rfl dX2_passDay_120 ?_
          refine lv_iconst (v := 2) hx hb dX2_passDay_123 (by decide) ?_
          refine lv_idiv hx hb dX2_passDay_124 (by decide) ?_
          refine lv_icmp_ge (tgt := 132) hx hb dX2_passDay_125 (by decide) (fun c125 => ?_) (fun c125 => ?_)
          · have h := k_pos c125 h
            refine lv_iconst (v := 0) hx hb dX2_passDay_132 (by decide) ?_
            refine va_put (D := D) (ci := 2) (v := .int 0) (ty := .boolean) (C := RX2) (T := TX2) (N := 12) hx hb hts hiX2 tyX2 tyX2_ok nmX2 hown hK hP hD hS 0 rfl rfl 9 (by decide) hf102 (fun _ z => z) rfl (by decide +kernel) rfl rfl (Nat.le_of_ble_eq_true rfl) dX2_passDay_133 (fun H locs hP hD hS => ?_)
            replace hP : va_P D vwCl (Wd12 cI cM aC aK c_men c_propped c_place c_swings c_crashes c_day 0 c_kind c_figure c_lean) H := hP
            replace hD : va_D A (Wd12 cI cM aC aK c_men c_propped c_place c_swings c_crashes c_day 0 c_kind c_figure c_lean) := hD
            refine lv_aload_n hx hb dX2_passDay_136 rfl (lv_at hl 0 rfl) ?_
            refine va_get (D := D) (ci := 2) (v := .int 0) (C := RX2) (T := TX2) (N := 12) hx hb hts hiX2 hown hK hP 0 rfl rfl 9 (by decide) hf102 (fun _ z => z) rfl dX2_passDay_137 ?_
            refine lv_if_eq (tgt := 172) hx hb dX2_passDay_140 (by decide) (fun _ => ?_) (fun z => absurd z (by decide))
            refine lv_aload_n hx hb dX2_passDay_172 rfl (lv_at hl 0 rfl) ?_
            refine lv_iconst (v := 0) hx hb dX2_passDay_173 (by decide) ?_
            refine lv_aload_n hx hb dX2_passDay_174 rfl (lv_at hl 0 rfl) ?_
            refine va_get (D := D) (ci := 2) (v := .int c_swings) (C := RX2) (T := TX2) (N := 12) hx hb hts hiX2 hown hK hP 0 rfl rfl 6 (by decide) hf44 (fun _ z => z) rfl dX2_passDay_175 ?_
            refine lv_iconst (v := 1) hx hb dX2_passDay_178 (by decide) ?_
            refine lv_isub hx hb dX2_passDay_179 ?_
            refine k_mmax (own := RX2) (index := 125) hx hb (hml.trans hl.1.symm) hown (hts _ (List.mem_of_getElem? (i := 11) rfl)) (hts _ (List.mem_of_getElem? (i := 12) rfl)) (hts _ (List.mem_of_getElem? (i := 9) rfl)) (hts _ (List.mem_of_getElem? (i := 13) rfl)) (Nat.le_of_ble_eq_true rfl) (Nat.le_of_ble_eq_true rfl) (Nat.zero_le _) (Nat.zero_le _) dX2_passDay_180 ?_
            refine va_put (D := D) (ci := 2) (v := .int (jmax 0 (c_swings - 1))) (ty := .int) (C := RX2) (T := TX2) (N := 12) hx hb hts hiX2 tyX2 tyX2_ok nmX2 hown hK hP hD hS 0 rfl rfl 6 (by decide) hf44 (fun _ z => z) rfl (by decide +kernel) rfl rfl (Nat.le_of_ble_eq_true rfl) dX2_passDay_183 (fun H locs hP hD hS => ?_)
            replace hP : va_P D vwCl (Wd12 cI cM aC aK c_men c_propped c_place (jmax 0 (c_swings - 1)) c_crashes c_day 0 c_kind c_figure c_lean) H := hP
            replace hD : va_D A (Wd12 cI cM aC aK c_men c_propped c_place (jmax 0 (c_swings - 1)) c_crashes c_day 0 c_kind c_figure c_lean) := hD
            refine lv_aload_n hx hb dX2_passDay_186 rfl (lv_at hl 0 rfl) ?_
            obtain ⟨r187, g187, h⟩ := k_bind h
            refine k_callV (As := []) (rest := []) (st1 := []) (ws2 := (Wd12 cI cM aC aK c_men c_propped r187 (jmax 0 (c_swings - 1)) c_crashes c_day 0 c_kind c_figure c_lean)) hx hb hml hown hts hK hN hA hP hD hS hl (c_City_moveLead l D cI cM cS cJ aC aK H.size c_men c_propped c_place (jmax 0 (c_swings - 1)) c_crashes c_day 0 c_lean g187) gX2_passDay_X2_moveLead rfl kdV_X2_moveLead 0 2 rfl rfl rfl [0, 3] ⟨rfl, rfl⟩ ⟨Nat.le_of_ble_eq_true rfl, Nat.le_of_ble_eq_true rfl⟩ ⟨Nat.zero_le _, Nat.zero_le _⟩ rfl rfl (by decide +kernel) rfl rfl rfl (Nat.le_of_ble_eq_true rfl) dX2_passDay_187 rfl (fun H locs hP hD hS => ?_)
            cases h
            exact hret _ _ _ _ hP hS dX2_passDay_190
          · have h := k_neg c125 h
            refine lv_iconst (v := 1) hx hb dX2_passDay_128 (by decide) ?_
            refine lv_goto (tgt := 133) hx hb dX2_passDay_129 (by decide) ?_
            refine va_put (D := D) (ci := 2) (v := .int 1) (ty := .boolean) (C := RX2) (T := TX2) (N := 12) hx hb hts hiX2 tyX2 tyX2_ok nmX2 hown hK hP hD hS 0 rfl rfl 9 (by decide) hf102 (fun _ z => z) rfl (by decide +kernel) rfl rfl (Nat.le_of_ble_eq_true rfl) dX2_passDay_133 (fun H locs hP hD hS => ?_)
            replace hP : va_P D vwCl (Wd12 cI cM aC aK c_men c_propped c_place c_swings c_crashes c_day 1 c_kind c_figure c_lean) H := hP
            replace hD : va_D A (Wd12 cI cM aC aK c_men c_propped c_place c_swings c_crashes c_day 1 c_kind c_figure c_lean) := hD
            refine lv_aload_n hx hb dX2_passDay_136 rfl (lv_at hl 0 rfl) ?_
            refine va_get (D := D) (ci := 2) (v := .int 1) (C := RX2) (T := TX2) (N := 12) hx hb hts hiX2 hown hK hP 0 rfl rfl 9 (by decide) hf102 (fun _ z => z) rfl dX2_passDay_137 ?_
            refine lv_if_eq (tgt := 172) hx hb dX2_passDay_140 (by decide) (fun z => absurd z (by decide)) (fun _ => ?_)
            refine lv_aload_n hx hb dX2_passDay_143 rfl (lv_at hl 0 rfl) ?_
            refine lv_sipush (v := 999) hx hb dX2_passDay_144 (by decide) ?_
            refine lv_aload_n hx hb dX2_passDay_147 rfl (lv_at hl 0 rfl) ?_
            refine va_get (D := D) (ci := 2) (v := .int c_crashes) (C := RX2) (T := TX2) (N := 12) hx hb hts hiX2 hown hK hP 0 rfl rfl 7 (by decide) hf47 (fun _ z => z) rfl dX2_passDay_148 ?_
            refine lv_iconst (v := 1) hx hb dX2_passDay_151 (by decide) ?_
            refine lv_iadd hx hb dX2_passDay_152 ?_
            refine k_mmin (own := RX2) (index := 119) hx hb (hml.trans hl.1.symm) hown (hts _ (List.mem_of_getElem? (i := 7) rfl)) (hts _ (List.mem_of_getElem? (i := 8) rfl)) (hts _ (List.mem_of_getElem? (i := 9) rfl)) (hts _ (List.mem_of_getElem? (i := 10) rfl)) (Nat.le_of_ble_eq_true rfl) (Nat.le_of_ble_eq_true rfl) (Nat.zero_le _) (Nat.zero_le _) dX2_passDay_153 ?_
            refine va_put (D := D) (ci := 2) (v := .int (jmin 999 (c_crashes + 1))) (ty := .int) (C := RX2) (T := TX2) (N := 12) hx hb hts hiX2 tyX2 tyX2_ok nmX2 hown hK hP hD hS 0 rfl rfl 7 (by decide) hf47 (fun _ z => z) rfl (by decide +kernel) rfl rfl (Nat.le_of_ble_eq_true rfl) dX2_passDay_156 (fun H locs hP hD hS => ?_)
            replace hP : va_P D vwCl (Wd12 cI cM aC aK c_men c_propped c_place c_swings (jmin 999 (c_crashes + 1)) c_day 1 c_kind c_figure c_lean) H := hP
            replace hD : va_D A (Wd12 cI cM aC aK c_men c_propped c_place c_swings (jmin 999 (c_crashes + 1)) c_day 1 c_kind c_figure c_lean) := hD
            refine lv_aload_n hx hb dX2_passDay_159 rfl (lv_at hl 0 rfl) ?_
            refine lv_bipush (v := 9) hx hb dX2_passDay_160 (by decide) ?_
            refine va_put (D := D) (ci := 2) (v := .int 9) (ty := .int) (C := RX2) (T := TX2) (N := 12) hx hb hts hiX2 tyX2 tyX2_ok nmX2 hown hK hP hD hS 0 rfl rfl 6 (by decide) hf44 (fun _ z => z) rfl (by decide +kernel) rfl rfl (Nat.le_of_ble_eq_true rfl) dX2_passDay_162 (fun H locs hP hD hS => ?_)
            replace hP : va_P D vwCl (Wd12 cI cM aC aK c_men c_propped c_place 9 (jmin 999 (c_crashes + 1)) c_day 1 c_kind c_figure c_lean) H := hP
            replace hD : va_D A (Wd12 cI cM aC aK c_men c_propped c_place 9 (jmin 999 (c_crashes + 1)) c_day 1 c_kind c_figure c_lean) := hD
            refine lv_aload_n hx hb dX2_passDay_165 rfl (lv_at hl 0 rfl) ?_
            obtain ⟨r166, g166, h⟩ := k_bind h
            refine k_callV (As := []) (rest := []) (st1 := []) (ws2 := (Wd12 cI cM aC aK c_men c_propped c_place 9 (jmin 999 (c_crashes + 1)) c_day 1 c_kind c_figure r166)) hx hb hml hown hts hK hN hA hP hD hS hl (c_City_turnSigns l D cI cM cS cJ aC aK H.size c_men c_propped c_place 9 (jmin 999 (c_crashes + 1)) c_day 1 c_lean g166) gX2_passDay_X2_turnSigns rfl kdV_X2_turnSigns 0 2 rfl rfl rfl [0, 3] ⟨rfl, rfl⟩ ⟨Nat.le_of_ble_eq_true rfl, Nat.le_of_ble_eq_true rfl⟩ ⟨Nat.zero_le _, Nat.zero_le _⟩ rfl rfl (by decide +kernel) rfl rfl rfl (Nat.le_of_ble_eq_true rfl) dX2_passDay_166 rfl (fun H locs hP hD hS => ?_)
            refine lv_goto (tgt := 186) hx hb dX2_passDay_169 (by decide) ?_
            refine lv_aload_n hx hb dX2_passDay_186 rfl (lv_at hl 0 rfl) ?_
            obtain ⟨r187, g187, h⟩ := k_bind h
            refine k_callV (As := []) (rest := []) (st1 := []) (ws2 := (Wd12 cI cM aC aK c_men c_propped r187 9 (jmin 999 (c_crashes + 1)) c_day 1 c_kind c_figure r166)) hx hb hml hown hts hK hN hA hP hD hS hl (c_City_moveLead l D cI cM cS cJ aC aK H.size c_men c_propped c_place 9 (jmin 999 (c_crashes + 1)) c_day 1 r166 g187) gX2_passDay_X2_moveLead rfl kdV_X2_moveLead 0 2 rfl rfl rfl [0, 3] ⟨rfl, rfl⟩ ⟨Nat.le_of_ble_eq_true rfl, Nat.le_of_ble_eq_true rfl⟩ ⟨Nat.zero_le _, Nat.zero_le _⟩ rfl rfl (by decide +kernel) rfl rfl rfl (Nat.le_of_ble_eq_true rfl) dX2_passDay_187 rfl (fun H locs hP hD hS => ?_)
            cases h
            exact hret _ _ _ _ hP hS dX2_passDay_190
        · have h := k_neg c38 h
          refine lv_aload_n hx hb dX2_passDay_41 rfl (lv_at hl 0 rfl) ?_
          refine lv_iload_n hx hb dX2_passDay_42 rfl (lv_at hl 2 rfl) ?_
          refine k_callV (As := [.int y2]) (rest := []) (st1 := [.int (S_City_isPropped y2 c_propped)]) (ws2 := (Wd12 cI cM aC aK c_men c_propped c_place c_swings c_crashes c_day c_crashedToday c_kind c_figure c_lean)) hx hb hml hown hts hK hN hA hP hD hS hl (c_City_isPropped l D cI cM cS cJ aC aK H.size y2 c_men c_propped c_place c_swings c_crashes c_day c_crashedToday rfl) gX2_passDay_X2_isPropped rfl kdV_X2_isPropped 0 2 rfl rfl rfl [0] ⟨rfl, rfl⟩ ⟨Nat.le_of_ble_eq_true rfl, Nat.le_of_ble_eq_true rfl⟩ ⟨Nat.zero_le _, Nat.zero_le _⟩ rfl rfl (by decide +kernel) rfl rfl rfl (Nat.le_of_ble_eq_true rfl) dX2_passDay_43 rfl (fun H locs hP hD hS => ?_)
          refine lv_if_ne (tgt := 105) hx hb dX2_passDay_46 (by decide) (fun c46 => ?_) (fun c46 => ?_)
          · have h := k_neg c46 h
            refine lv_iinc (v := (y2 + 1)) (lv' := [(2, .int (y2 + 1)), (0, .ref (aC 0)), (1, .int y1)]) hx hb dX2_passDay_105 hl (k := 2) rfl (by first | rfl | decide) (by decide) rfl (fun ls hl => ?_)
            refine lv_goto (tgt := 33) hx hb dX2_passDay_108 (by decide) ?_
            exact ih33 (y2 + 1) c_lean H locs ls hP hD hS (lv_sub hl [1, 2, 0] rfl) h
          · have h := k_pos c46 h
            refine lv_aload_n hx hb dX2_passDay_49 rfl (lv_at hl 0 rfl) ?_
            refine va_get (D := D) (ci := 2) (v := .ref (aK 8)) (C := RX2) (T := TX2) (N := 12) hx hb hts hiX2 hown hK hP 0 rfl rfl 10 (by decide) hf24 (fun _ z => z) rfl dX2_passDay_50 ?_
            refine lv_aload_n hx hb dX2_passDay_53 rfl (lv_at hl 0 rfl) ?_
            refine va_get (D := D) (ci := 2) (v := .ref (aC 1)) (C := RX2) (T := TX2) (N := 12) hx hb hts hiX2 hown hK hP 0 rfl rfl 0 (by decide) hf9 (fun _ z => z) rfl dX2_passDay_54 ?_
            refine lv_iload_n hx hb dX2_passDay_57 rfl (lv_at hl 2 rfl) ?_
            obtain ⟨g58, h⟩ := k_guard h
            refine va_iald hx hb hK hP 1 0 rfl rfl g58 dX2_passDay_58 ?_
            obtain ⟨g59, h⟩ := k_guard h
            refine k_aldR (f := aK) hx hb hK hP 4 1 rfl rfl g59 dX2_passDay_59 ?_
            refine lv_aload_n hx hb dX2_passDay_60 rfl (lv_at hl 0 rfl) ?_
            refine va_get (D := D) (ci := 2) (v := .ref (aC 3)) (C := RX2) (T := TX2) (N := 12) hx hb hts hiX2 hown hK hP 0 rfl rfl 2 (by decide) hf18 (fun _ z => z) rfl dX2_passDay_61 ?_
            refine lv_iload_n hx hb dX2_passDay_64 rfl (lv_at hl 2 rfl) ?_
            refine va_iald hx hb hK hP 3 0 rfl rfl g58 dX2_passDay_65 ?_
            refine lv_aload_n hx hb dX2_passDay_66 rfl (lv_at hl 0 rfl) ?_
            refine va_get (D := D) (ci := 2) (v := .ref (aC 2)) (C := RX2) (T := TX2) (N := 12) hx hb hts hiX2 hown hK hP 0 rfl rfl 1 (by decide) hf15 (fun _ z => z) rfl dX2_passDay_67 ?_
            refine lv_iload_n hx hb dX2_passDay_70 rfl (lv_at hl 2 rfl) ?_
            refine va_iald hx hb hK hP 2 0 rfl rfl g58 dX2_passDay_71 ?_
            refine lv_iload_n hx hb dX2_passDay_72 rfl (lv_at hl 1 rfl) ?_
            refine lv_aload_n hx hb dX2_passDay_73 rfl (lv_at hl 0 rfl) ?_
            refine va_get (D := D) (ci := 2) (v := .int c_day) (C := RX2) (T := TX2) (N := 12) hx hb hts hiX2 hown hK hP 0 rfl rfl 8 (by decide) hf50 (fun _ z => z) rfl dX2_passDay_74 ?_
            have V77 : ∀ (H : Heap) (locs : List Loc), va_P D vwCl (Wd12 cI cM aC aK c_men c_propped c_place c_swings c_crashes c_day c_crashedToday c_kind c_figure c_lean) H → va_D A (Wd12 cI cM aC aK c_men c_propped c_place c_swings c_crashes c_day c_crashedToday c_kind c_figure c_lean) → va_S A s.heap H locs → W p l e rm_X2_passDay s m ([.ref (aC 0)] : List Value).toArray below meth c H locs 0 0 Q (F0 m 80 ls [.int (V_leansMore (c_kind y2.toNatClampNeg).toNatClampNeg (c_lean y2.toNatClampNeg) (c_figure y2.toNatClampNeg) y1 c_day)]) := by
              intro H locs hP hD hS
              refine lv_istore_n (lv' := [(3, .int (V_leansMore (c_kind y2.toNatClampNeg).toNatClampNeg (c_lean y2.toNatClampNeg) (c_figure y2.toNatClampNeg) y1 c_day)), (0, .ref (aC 0)), (1, .int y1), (2, .int y2)]) hx hb dX2_passDay_80 rfl hl (by decide) rfl (fun ls hl => ?_)
              refine lv_aload_n hx hb dX2_passDay_81 rfl (lv_at hl 1 rfl) ?_
              refine va_get (D := D) (ci := 2) (v := .ref (aC 3)) (C := RX2) (T := TX2) (N := 12) hx hb hts hiX2 hown hK hP 0 rfl rfl 2 (by decide) hf18 (fun _ z => z) rfl dX2_passDay_82 ?_
              refine lv_iload_n hx hb dX2_passDay_85 rfl (lv_at hl 3 rfl) ?_
              refine lv_bipush (v := (-45)) hx hb dX2_passDay_86 (by decide) ?_
              refine lv_bipush (v := 45) hx hb dX2_passDay_88 (by decide) ?_
              refine lv_aload_n hx hb dX2_passDay_90 rfl (lv_at hl 1 rfl) ?_
              refine va_get (D := D) (ci := 2) (v := .ref (aC 3)) (C := RX2) (T := TX2) (N := 12) hx hb hts hiX2 hown hK hP 0 rfl rfl 2 (by decide) hf18 (fun _ z => z) rfl dX2_passDay_91 ?_
              refine lv_iload_n hx hb dX2_passDay_94 rfl (lv_at hl 3 rfl) ?_
              refine va_iald hx hb hK hP 3 0 rfl rfl g58 dX2_passDay_95 ?_
              refine lv_iload_n hx hb dX2_passDay_96 rfl (lv_at hl 0 rfl) ?_
              refine lv_iadd hx hb dX2_passDay_97 ?_
              refine k_mmin (own := RX2) (index := 119) hx hb (hml.trans hl.1.symm) hown (hts _ (List.mem_of_getElem? (i := 7) rfl)) (hts _ (List.mem_of_getElem? (i := 8) rfl)) (hts _ (List.mem_of_getElem? (i := 9) rfl)) (hts _ (List.mem_of_getElem? (i := 10) rfl)) (Nat.le_of_ble_eq_true rfl) (Nat.le_of_ble_eq_true rfl) (Nat.zero_le _) (Nat.zero_le _) dX2_passDay_98 ?_
              refine k_mmax (own := RX2) (index := 125) hx hb (hml.trans hl.1.symm) hown (hts _ (List.mem_of_getElem? (i := 11) rfl)) (hts _ (List.mem_of_getElem? (i := 12) rfl)) (hts _ (List.mem_of_getElem? (i := 9) rfl)) (hts _ (List.mem_of_getElem? (i := 13) rfl)) (Nat.le_of_ble_eq_true rfl) (Nat.le_of_ble_eq_true rfl) (Nat.zero_le _) (Nat.zero_le _) dX2_passDay_101 ?_
              refine va_iast hx hb hK hP hD hS 3 0 rfl rfl g58 dX2_passDay_104 (fun H locs hP hD hS => ?_)
              replace hP : va_P D vwCl (Wd12 cI cM aC aK c_men c_propped c_place c_swings c_crashes c_day c_crashedToday c_kind c_figure (upd c_lean y2.toNatClampNeg (jmax (-45) (jmin 45 ((c_lean y2.toNatClampNeg) + (V_leansMore (c_kind y2.toNatClampNeg).toNatClampNeg (c_lean y2.toNatClampNeg) (c_figure y2.toNatClampNeg) y1 c_day)))))) H := hP
              replace hD : va_D A (Wd12 cI cM aC aK c_men c_propped c_place c_swings c_crashes c_day c_crashedToday c_kind c_figure (upd c_lean y2.toNatClampNeg (jmax (-45) (jmin 45 ((c_lean y2.toNatClampNeg) + (V_leansMore (c_kind y2.toNatClampNeg).toNatClampNeg (c_lean y2.toNatClampNeg) (c_figure y2.toNatClampNeg) y1 c_day)))))) := hD
              refine lv_iinc (v := (y2 + 1)) (lv' := [(2, .int (y2 + 1)), (3, .int (V_leansMore (c_kind y2.toNatClampNeg).toNatClampNeg (c_lean y2.toNatClampNeg) (c_figure y2.toNatClampNeg) y1 c_day)), (0, .ref (aC 0)), (1, .int y1)]) hx hb dX2_passDay_105 hl (k := 3) rfl (by first | rfl | decide) (by decide) rfl (fun ls hl => ?_)
              refine lv_goto (tgt := 33) hx hb dX2_passDay_108 (by decide) ?_
              exact ih33 (y2 + 1) (upd c_lean y2.toNatClampNeg (jmax (-45) (jmin 45 ((c_lean y2.toNatClampNeg) + (V_leansMore (c_kind y2.toNatClampNeg).toNatClampNeg (c_lean y2.toNatClampNeg) (c_figure y2.toNatClampNeg) y1 c_day))))) H locs ls hP hD hS (lv_sub hl [2, 3, 0] rfl) h
            generalize hk77 : (c_kind y2.toNatClampNeg).toNatClampNeg = k77 at V77 ⊢
            have hb77 : k77 < 8 := by rw [← hk77]; exact Nat.not_le.mp (fun z => g59 (Or.inr z))
            rcases k_8 hb77 with e | e | e | e | e | e | e | e <;> subst e
            · exact k_callV (As := [.int (c_lean y2.toNatClampNeg), .int (c_figure y2.toNatClampNeg), .int y1, .int c_day]) (rest := []) (st1 := [.int (S_Man_leansMore (c_lean y2.toNatClampNeg) (c_figure y2.toNatClampNeg) y1 c_day)]) hx hb hml hown hts hK hN hA hP hD hS hl (c_Man_leansMore l D cI cM cS cJ (aK 0) 4 H.size (c_lean y2.toNatClampNeg) (c_figure y2.toNatClampNeg) y1 c_day rfl) gX2_passDay_X4_leansMore rfl kdV_X4_leansMore 0 4 rfl rfl rfl [5] ⟨rfl, rfl⟩ ⟨Nat.le_of_ble_eq_true rfl, Nat.le_of_ble_eq_true rfl⟩ ⟨Nat.zero_le _, Nat.zero_le _⟩ rfl rfl (by decide +kernel) rfl rfl rfl (Nat.le_of_ble_eq_true rfl) dX2_passDay_77 rfl V77
            · exact k_callU (As := [.int (c_lean y2.toNatClampNeg), .int (c_figure y2.toNatClampNeg), .int y1, .int c_day]) (rest := []) (st1 := [.int (S_Banker_leansMore (c_lean y2.toNatClampNeg) (c_figure y2.toNatClampNeg) y1 c_day)]) hx hb hml hown hts hK hN hA hP hD hS hl (c_Banker_leansMore l D cI cM cS cJ (aK 1) 0 H.size (c_lean y2.toNatClampNeg) (c_figure y2.toNatClampNeg) y1 c_day rfl) (va_cwO 4 hts gX2_passDay_X0_leansMore_u113X0 rfl rfl rfl (List.mem_of_getElem? (i := 34) rfl) kdM_leansMore ⟨Nat.le_of_ble_eq_true rfl, Nat.le_of_ble_eq_true rfl⟩) 0 0 rfl rfl rfl [6] ⟨Nat.zero_le _, Nat.zero_le _⟩ rfl rfl (by decide +kernel) rfl rfl rfl (Nat.le_of_ble_eq_true rfl) dX2_passDay_77 rfl V77
            · exact k_callU (As := [.int (c_lean y2.toNatClampNeg), .int (c_figure y2.toNatClampNeg), .int y1, .int c_day]) (rest := []) (st1 := [.int (S_Quaker_leansMore (c_lean y2.toNatClampNeg) (c_figure y2.toNatClampNeg) y1 c_day)]) hx hb hml hown hts hK hN hA hP hD hS hl (c_Quaker_leansMore l D cI cM cS cJ (aK 2) 7 H.size (c_lean y2.toNatClampNeg) (c_figure y2.toNatClampNeg) y1 c_day rfl) (va_cwO 4 hts gX2_passDay_X7_leansMore_u113X7 rfl rfl rfl (List.mem_of_getElem? (i := 34) rfl) kdM_leansMore ⟨Nat.le_of_ble_eq_true rfl, Nat.le_of_ble_eq_true rfl⟩) 0 7 rfl rfl rfl [7] ⟨Nat.zero_le _, Nat.zero_le _⟩ rfl rfl (by decide +kernel) rfl rfl rfl (Nat.le_of_ble_eq_true rfl) dX2_passDay_77 rfl V77
            · exact k_callU (As := [.int (c_lean y2.toNatClampNeg), .int (c_figure y2.toNatClampNeg), .int y1, .int c_day]) (rest := []) (st1 := [.int (S_Clerk_leansMore (c_lean y2.toNatClampNeg) (c_figure y2.toNatClampNeg) y1 c_day)]) hx hb hml hown hts hK hN hA hP hD hS hl (c_Clerk_leansMore l D cI cM cS cJ (aK 3) 3 H.size (c_lean y2.toNatClampNeg) (c_figure y2.toNatClampNeg) y1 c_day rfl) (va_cwO 4 hts gX2_passDay_X3_leansMore_u113X3 rfl rfl rfl (List.mem_of_getElem? (i := 34) rfl) kdM_leansMore ⟨Nat.le_of_ble_eq_true rfl, Nat.le_of_ble_eq_true rfl⟩) 0 3 rfl rfl rfl [8] ⟨Nat.zero_le _, Nat.zero_le _⟩ rfl rfl (by decide +kernel) rfl rfl rfl (Nat.le_of_ble_eq_true rfl) dX2_passDay_77 rfl V77
            · exact k_callU (As := [.int (c_lean y2.toNatClampNeg), .int (c_figure y2.toNatClampNeg), .int y1, .int c_day]) (rest := []) (st1 := [.int (S_Broker_leansMore (c_lean y2.toNatClampNeg) (c_figure y2.toNatClampNeg) y1 c_day)]) hx hb hml hown hts hK hN hA hP hD hS hl (c_Broker_leansMore l D cI cM cS cJ (aK 4) 1 H.size (c_lean y2.toNatClampNeg) (c_figure y2.toNatClampNeg) y1 c_day rfl) (va_cwO 4 hts gX2_passDay_X1_leansMore_u113X1 rfl rfl rfl (List.mem_of_getElem? (i := 34) rfl) kdM_leansMore ⟨Nat.le_of_ble_eq_true rfl, Nat.le_of_ble_eq_true rfl⟩) 0 1 rfl rfl rfl [9] ⟨Nat.zero_le _, Nat.zero_le _⟩ rfl rfl (by decide +kernel) rfl rfl rfl (Nat.le_of_ble_eq_true rfl) dX2_passDay_77 rfl V77
            · exact k_callU (As := [.int (c_lean y2.toNatClampNeg), .int (c_figure y2.toNatClampNeg), .int y1, .int c_day]) (rest := []) (st1 := [.int (S_Scrubber_leansMore (c_lean y2.toNatClampNeg) (c_figure y2.toNatClampNeg) y1 c_day)]) hx hb hml hown hts hK hN hA hP hD hS hl (c_Scrubber_leansMore l D cI cM cS cJ (aK 5) 8 H.size (c_lean y2.toNatClampNeg) (c_figure y2.toNatClampNeg) y1 c_day rfl) (va_cwO 4 hts gX2_passDay_X8_leansMore_u113X8 rfl rfl rfl (List.mem_of_getElem? (i := 34) rfl) kdM_leansMore ⟨Nat.le_of_ble_eq_true rfl, Nat.le_of_ble_eq_true rfl⟩) 0 8 rfl rfl rfl [10] ⟨Nat.zero_le _, Nat.zero_le _⟩ rfl rfl (by decide +kernel) rfl rfl rfl (Nat.le_of_ble_eq_true rfl) dX2_passDay_77 rfl V77
            · exact k_callU (As := [.int (c_lean y2.toNatClampNeg), .int (c_figure y2.toNatClampNeg), .int y1, .int c_day]) (rest := []) (st1 := [.int (S_Swindler_leansMore (c_lean y2.toNatClampNeg) (c_figure y2.toNatClampNeg) y1 c_day)]) hx hb hml hown hts hK hN hA hP hD hS hl (c_Swindler_leansMore l D cI cM cS cJ (aK 6) 10 H.size (c_lean y2.toNatClampNeg) (c_figure y2.toNatClampNeg) y1 c_day rfl rfl) (va_cwO 4 hts gX2_passDay_X10_leansMore_u113X10 rfl rfl rfl (List.mem_of_getElem? (i := 34) rfl) kdM_leansMore ⟨Nat.le_of_ble_eq_true rfl, Nat.le_of_ble_eq_true rfl⟩) 0 10 rfl rfl rfl [11] ⟨Nat.zero_le _, Nat.zero_le _⟩ rfl rfl (by decide +kernel) rfl rfl rfl (Nat.le_of_ble_eq_true rfl) dX2_passDay_77 rfl V77
            · exact k_callU (As := [.int (c_lean y2.toNatClampNeg), .int (c_figure y2.toNatClampNeg), .int y1, .int c_day]) (rest := []) (st1 := [.int (S_Partner_leansMore (c_lean y2.toNatClampNeg) (c_figure y2.toNatClampNeg) y1 c_day)]) hx hb hml hown hts hK hN hA hP hD hS hl (c_Partner_leansMore l D cI cM cS cJ (aK 7) 6 H.size (c_lean y2.toNatClampNeg) (c_figure y2.toNatClampNeg) y1 c_day rfl rfl) (va_cwO 4 hts gX2_passDay_X6_leansMore_u113X6 rfl rfl rfl (List.mem_of_getElem? (i := 34) rfl) kdM_leansMore ⟨Nat.le_of_ble_eq_true rfl, Nat.le_of_ble_eq_true rfl⟩) 0 6 rfl rfl rfl [12] ⟨Nat.zero_le _, Nat.zero_le _⟩ rfl rfl (by decide +kernel) rfl rfl rfl (Nat.le_of_ble_eq_true rfl) dX2_passDay_77 rfl V77
    refine lv_istore_n (lv' := [(2, .int 0), (1, .int v0), (0, .ref (aC 0))]) hx hb dX2_passDay_32 rfl hl (by decide) rfl (fun ls hl => ?_)
    exact B33 v0 c_place c_swings c_crashes c_day c_crashedToday lfu 0 c_lean H locs ls hP hD hS (lv_sub hl [2, 1, 0] rfl) h
  refine lv_if_ne (tgt := 21) hx hb dX2_passDay_14 (by decide) (fun c14 => ?_) (fun c14 => ?_)
  · have h := k_neg c14 h
    refine lv_aload_n hx hb dX2_passDay_21 rfl (lv_at hl 0 rfl) ?_
    obtain ⟨r22, g22, h⟩ := k_bind h
    refine k_callV (As := []) (rest := []) (st1 := [.int r22]) (ws2 := (Wd12 cI cM aC aK c_men c_propped c_place c_swings c_crashes (c_day + 1) c_crashedToday c_kind c_figure c_lean)) hx hb hml hown hts hK hN hA hP hD hS hl (c_City_sumOfLeans l D cI cM cS cJ aC aK H.size c_men c_propped c_place c_swings c_crashes (c_day + 1) c_crashedToday c_lean g22) gX2_passDay_X2_sumOfLeans rfl kdV_X2_sumOfLeans 0 2 rfl rfl rfl [0, 3] ⟨rfl, rfl⟩ ⟨Nat.le_of_ble_eq_true rfl, Nat.le_of_ble_eq_true rfl⟩ ⟨Nat.zero_le _, Nat.zero_le _⟩ rfl rfl (by decide +kernel) rfl rfl rfl (Nat.le_of_ble_eq_true rfl) dX2_passDay_22 rfl (fun H locs hP hD hS => ?_)
    refine lv_aload_n hx hb dX2_passDay_25 rfl (lv_at hl 0 rfl) ?_
    refine va_get (D := D) (ci := 2) (v := .int c_men) (C := RX2) (T := TX2) (N := 12) hx hb hts hiX2 hown hK hP 0 rfl rfl 3 (by decide) hf34 (fun _ z => z) rfl dX2_passDay_26 ?_
    refine lv_idiv hx hb dX2_passDay_29 c14 ?_
    exact B30 (r22 / c_men) c_place c_swings c_crashes (c_day + 1) c_crashedToday c_lean H locs ls hP hD hS hl h
  · have h := k_pos c14 h
    refine lv_iconst (v := 0) hx hb dX2_passDay_17 (by decide) ?_
    refine lv_goto (tgt := 30) hx hb dX2_passDay_18 (by decide) ?_
    exact B30 0 c_place c_swings c_crashes (c_day + 1) c_crashedToday c_lean H locs ls hP hD hS hl h
theorem kdV_X2_passDay : yX2_passDay.cls = RX2 ∧ yX2_passDay.cls ≠ "java/lang/invoke/MethodHandle" ∧ yX2_passDay.cls ≠ "java/lang/invoke/VarHandle" ∧ (parseMethodDescriptor yX2_passDay.desc).map (fun d => d.parameters.length) = some 0 := by decide +kernel
abbrev rm_X2_passDays : Room := { frames := 4, cells := 0, slots := 0, locals := 105 }
set_option maxHeartbeats 4000000 in
set_option maxRecDepth 100000 in
theorem c_City_passDays (l : Launch) (D : va_G) (cI cM cS cJ : ClassId) (aC : Nat → Nat) (aK : Nat → Nat) (sz : Nat) (x1 : Int32) (c_men : Int32) (c_propped : Int32) (c_place : Int32) (c_swings : Int32) (c_crashes : Int32) (c_day : Int32) (c_crashedToday : Int32) (c_kind : Nat → Int32) (c_figure : Nat → Int32) (c_lean : Nat → Int32) {o : (Int32) × (Int32) × (Int32) × (Int32) × (Int32) × (Int32) × (Nat → Int32)} (hsem : S_City_passDays x1 c_men c_propped c_place c_swings c_crashes c_day c_crashedToday c_kind c_figure c_lean = some o) : kMet l yX2_passDays wsX2_passDays rm_X2_passDays [.ref (aC 0), .int x1] D (kT cI cM cS cJ) (Wd12 cI cM aC aK c_men c_propped c_place c_swings c_crashes c_day c_crashedToday c_kind c_figure c_lean) sz (some (.int o.1)) (Wd12 cI cM aC aK c_men c_propped o.2.1 o.2.2.1 o.2.2.2.1 o.2.2.2.2.1 o.2.2.2.2.2.1 c_kind c_figure o.2.2.2.2.2.2) := by
  refine k_metI (by decide) rfl rfl (Nat.le_of_ble_eq_true rfl) ?_
  intro p e s m below meth c ls Q A hx hb hml hts hown hK hN hA hP hD hS hl hsz hnm hret
  have hown : s.vm.findClass RX2 = some m.cls := hown
  have hf102 := hts (.fieldLink RX2 102 "PlumbLine$City" "crashedToday" "Z") (List.mem_of_getElem? (i := 1) rfl)
  have hiX2 : ∀ w ∈ u_ws RX2 TX2 12, w ∈ wsX2_passDays := fun w h => List.mem_cons_of_mem _ (List.mem_append_right _ h)
  replace hl : lv_has ls 4 [(0, .ref (aC 0)), (1, .int x1)] := hl
  have h := hsem
  clear hsem
  rw [S_City_passDays] at h
  refine lv_iconst (v := 0) hx hb dX2_passDays_0 (by decide) ?_
  refine lv_istore_n (lv' := [(2, .int 0), (0, .ref (aC 0)), (1, .int x1)]) hx hb dX2_passDays_1 rfl hl (by decide) rfl (fun ls hl => ?_)
  refine lv_iconst (v := 0) hx hb dX2_passDays_2 (by decide) ?_
  have B4 : ∀ (n4 : Nat) (y2 : Int32) (y3 : Int32) (c_place : Int32) (c_swings : Int32) (c_crashes : Int32) (c_day : Int32) (c_crashedToday : Int32) (c_lean : Nat → Int32) (H : Heap) (locs : List Loc) (ls : Array Slot), va_P D vwCl (Wd12 cI cM aC aK c_men c_propped c_place c_swings c_crashes c_day c_crashedToday c_kind c_figure c_lean) H → va_D A (Wd12 cI cM aC aK c_men c_propped c_place c_swings c_crashes c_day c_crashedToday c_kind c_figure c_lean) → va_S A s.heap H locs → lv_has ls 4 [(0, .ref (aC 0)), (1, .int x1), (2, .int y2), (3, .int y3)] → S_City_passDays_L4 x1 c_men c_propped c_kind c_figure n4 y2 y3 c_place c_swings c_crashes c_day c_crashedToday c_lean = some o → W p l e rm_X2_passDays s m ([.ref (aC 0), .int x1] : List Value).toArray below meth c H locs 0 0 Q (F0 m 4 ls []) := by
    intro n4
    induction n4 with
    | zero => intro y2 y3 c_place c_swings c_crashes c_day c_crashedToday c_lean H locs ls hP hD hS hl h; exact absurd h (by simp [S_City_passDays_L4])
    | succ n4 ih4 =>
      intro y2 y3 c_place c_swings c_crashes c_day c_crashedToday c_lean H locs ls hP hD hS hl h
      rw [S_City_passDays_L4] at h
      refine lv_iload_n hx hb dX2_passDays_4 rfl (lv_at hl 3 rfl) ?_
      refine lv_iload_n hx hb dX2_passDays_5 rfl (lv_at hl 1 rfl) ?_
      refine lv_icmp_ge (tgt := 29) hx hb dX2_passDays_6 (by decide) (fun c6 => ?_) (fun c6 => ?_)
      · have h := k_pos c6 h
        refine lv_iload_n hx hb dX2_passDays_29 rfl (lv_at hl 2 rfl) ?_
        cases h
        exact hret _ _ _ _ hP hS dX2_passDays_30
      · have h := k_neg c6 h
        refine lv_aload_n hx hb dX2_passDays_9 rfl (lv_at hl 0 rfl) ?_
        obtain ⟨r10, g10, h⟩ := k_bind h
        refine k_callV (As := []) (rest := []) (st1 := []) (ws2 := (Wd12 cI cM aC aK c_men c_propped r10.1 r10.2.1 r10.2.2.1 r10.2.2.2.1 r10.2.2.2.2.1 c_kind c_figure r10.2.2.2.2.2)) hx hb hml hown hts hK hN hA hP hD hS hl (c_City_passDay l D cI cM cS cJ aC aK H.size c_men c_propped c_place c_swings c_crashes c_day c_crashedToday c_kind c_figure c_lean g10) gX2_passDays_X2_passDay rfl kdV_X2_passDay 0 2 rfl rfl rfl [0, 1, 2, 3, 4, 5, 6, 7, 8, 9, 10, 11, 12] ⟨rfl, rfl⟩ ⟨Nat.le_of_ble_eq_true rfl, Nat.le_of_ble_eq_true rfl⟩ ⟨Nat.zero_le _, Nat.zero_le _⟩ rfl rfl (by decide +kernel) rfl rfl rfl (Nat.le_of_ble_eq_true rfl) dX2_passDays_10 rfl (fun H locs hP hD hS => ?_)
        refine lv_aload_n hx hb dX2_passDays_13 rfl (lv_at hl 0 rfl) ?_
        refine va_get (D := D) (ci := 2) (v := .int r10.2.2.2.2.1) (C := RX2) (T := TX2) (N := 12) hx hb hts hiX2 hown hK hP 0 rfl rfl 9 (by decide) hf102 (fun _ z => z) rfl dX2_passDays_14 ?_
        refine lv_if_eq (tgt := 23) hx hb dX2_passDays_17 (by decide) (fun c17 => ?_) (fun c17 => ?_)
        · have h := k_pos c17 h
          refine lv_iinc (v := (y3 + 1)) (lv' := [(3, .int (y3 + 1)), (0, .ref (aC 0)), (1, .int x1), (2, .int y2)]) hx hb dX2_passDays_23 hl (k := 3) rfl (by first | rfl | decide) (by decide) rfl (fun ls hl => ?_)
          refine lv_goto (tgt := 4) hx hb dX2_passDays_26 (by decide) ?_
          exact ih4 y2 (y3 + 1) r10.1 r10.2.1 r10.2.2.1 r10.2.2.2.1 r10.2.2.2.2.1 r10.2.2.2.2.2 H locs ls hP hD hS (lv_sub hl [1, 2, 3, 0] rfl) h
        · have h := k_neg c17 h
          refine lv_iinc (v := (y2 + 1)) (lv' := [(2, .int (y2 + 1)), (0, .ref (aC 0)), (1, .int x1), (3, .int y3)]) hx hb dX2_passDays_20 hl (k := 2) rfl (by first | rfl | decide) (by decide) rfl (fun ls hl => ?_)
          refine lv_iinc (v := (y3 + 1)) (lv' := [(3, .int (y3 + 1)), (2, .int (y2 + 1)), (0, .ref (aC 0)), (1, .int x1)]) hx hb dX2_passDays_23 hl (k := 3) rfl (by first | rfl | decide) (by decide) rfl (fun ls hl => ?_)
          refine lv_goto (tgt := 4) hx hb dX2_passDays_26 (by decide) ?_
          exact ih4 (y2 + 1) (y3 + 1) r10.1 r10.2.1 r10.2.2.1 r10.2.2.2.1 r10.2.2.2.2.1 r10.2.2.2.2.2 H locs ls hP hD hS (lv_sub hl [2, 3, 1, 0] rfl) h
  refine lv_istore_n (lv' := [(3, .int 0), (2, .int 0), (0, .ref (aC 0)), (1, .int x1)]) hx hb dX2_passDays_3 rfl hl (by decide) rfl (fun ls hl => ?_)
  exact B4 lfu 0 0 c_place c_swings c_crashes c_day c_crashedToday c_lean s.heap [] ls hP hD hS (lv_sub hl [2, 3, 1, 0] rfl) h
abbrev Wd13 (cI : ClassId) (cM : ClassId) (aC : Nat → Nat) (aD : Nat → Nat) (aK : Nat → Nat) (c_men : Int32) (c_propped : Int32) (c_place : Int32) (c_swings : Int32) (c_crashes : Int32) (c_day : Int32) (c_crashedToday : Int32) (c_kind : Nat → Int32) (c_figure : Nat → Int32) (c_lean : Nat → Int32) (d_kind : Int32) (d_figure : Int32) (d_sort : Int32) (d_size : Int32) (d_held : Int32) (d_el : Nat → Int32) : va_W := [((aC 0), .inr (2, [.ref (aC 1), .ref (aC 2), .ref (aC 3), .int c_men, .int c_propped, .int c_place, .int c_swings, .int c_crashes, .int c_day, .int c_crashedToday, .ref (aK 8), .ref (aC 4)])), ((aC 1), .inl (cI, 8, .inl c_kind)), ((aC 2), .inl (cI, 8, .inl c_figure)), ((aC 3), .inl (cI, 8, .inl c_lean)), ((aD 0), .inr (9, [.ref (aD 1), .int d_kind, .int d_figure, .int d_sort, .int d_size, .int d_held, .ref (aK 8)])), ((aD 1), .inl (cI, 100, .inl d_el)), ((aK 8), .inl (cM, 8, .inr (.inr (.inr (.inr (fun k => some (aK k))))))), ((aK 0), .inr (4, [])), ((aK 1), .inr (0, [])), ((aK 2), .inr (7, [])), ((aK 3), .inr (3, [])), ((aK 4), .inr (1, [])), ((aK 5), .inr (8, [])), ((aK 6), .inr (10, [])), ((aK 7), .inr (6, []))]
theorem kdV_X2_passDays : yX2_passDays.cls = RX2 ∧ yX2_passDays.cls ≠ "java/lang/invoke/MethodHandle" ∧ yX2_passDays.cls ≠ "java/lang/invoke/VarHandle" ∧ (parseMethodDescriptor yX2_passDays.desc).map (fun d => d.parameters.length) = some 1 := by decide +kernel
abbrev rm_X2_takesDaysTold : Room := { frames := 5, cells := 0, slots := 0, locals := 128 }
set_option maxHeartbeats 4000000 in
set_option maxRecDepth 100000 in
theorem c_City_takesDaysTold (l : Launch) (D : va_G) (cI cM cS cJ : ClassId) (aC : Nat → Nat) (aD : Nat → Nat) (aK : Nat → Nat) (sz : Nat) (x2 : Int32) (c_men : Int32) (c_propped : Int32) (c_place : Int32) (c_swings : Int32) (c_crashes : Int32) (c_day : Int32) (c_crashedToday : Int32) (c_kind : Nat → Int32) (c_figure : Nat → Int32) (c_lean : Nat → Int32) (d_kind : Int32) (d_figure : Int32) (d_sort : Int32) (d_size : Int32) (d_held : Int32) (d_el : Nat → Int32) {o : (Int32) × (Int32) × (Int32) × (Int32) × (Int32) × (Int32) × (Nat → Int32)} (hsem : S_City_takesDaysTold x2 c_men c_propped c_place c_swings c_crashes c_day c_crashedToday c_kind c_figure c_lean d_size d_el = some o) : kMet l yX2_takesDaysTold wsX2_takesDaysTold rm_X2_takesDaysTold [.ref (aC 0), .ref (aD 0), .int x2] D (kT cI cM cS cJ) (Wd13 cI cM aC aD aK c_men c_propped c_place c_swings c_crashes c_day c_crashedToday c_kind c_figure c_lean d_kind d_figure d_sort d_size d_held d_el) sz (some (.int o.1)) (Wd13 cI cM aC aD aK c_men c_propped o.2.1 o.2.2.1 o.2.2.2.1 o.2.2.2.2.1 o.2.2.2.2.2.1 c_kind c_figure o.2.2.2.2.2.2 d_kind d_figure d_sort d_size d_held d_el) := by
  refine k_metZ (by decide) rfl rfl (Nat.le_of_ble_eq_true rfl) ?_
  intro p e s m below meth c ls Q A hx hb hml hts hown hK hN hA hP hD hS hl hsz hnm hret
  have hown : s.vm.findClass RX2 = some m.cls := hown
  have hf50 := hts (.fieldLink RX2 50 "PlumbLine$City" "day" "I") (List.mem_of_getElem? (i := 1) rfl)
  have hiX2 : ∀ w ∈ u_ws RX2 TX2 12, w ∈ wsX2_takesDaysTold := fun w h => List.mem_cons_of_mem _ (List.mem_append_left _ (List.mem_append_right _ h))
  replace hl : lv_has ls 4 [(0, .ref (aC 0)), (1, .ref (aD 0)), (2, .int x2)] := hl
  have h := hsem
  clear hsem
  rw [S_City_takesDaysTold] at h
  refine lv_aload_n hx hb dX2_takesDaysTold_0 rfl (lv_at hl 1 rfl) ?_
  refine lv_iload_n hx hb dX2_takesDaysTold_1 rfl (lv_at hl 2 rfl) ?_
  refine lv_iconst (v := 1) hx hb dX2_takesDaysTold_2 (by decide) ?_
  refine lv_iadd hx hb dX2_takesDaysTold_3 ?_
  obtain ⟨r4, g4, h⟩ := k_bind h
  refine k_callV (As := [.int (x2 + 1)]) (rest := []) (st1 := [.int r4]) (ws2 := (Wd13 cI cM aC aD aK c_men c_propped c_place c_swings c_crashes c_day c_crashedToday c_kind c_figure c_lean d_kind d_figure d_sort d_size d_held d_el)) hx hb hml hown hts hK hN hA hP hD hS hl (c_Shelf_twoDigits l D cI cM cS cJ aD aK s.heap.size (x2 + 1) d_kind d_figure d_sort d_size d_held d_el g4) gX2_takesDaysTold_X9_twoDigits rfl kdV_X9_twoDigits 0 9 rfl rfl rfl [4, 5] ⟨rfl, rfl⟩ ⟨Nat.le_of_ble_eq_true rfl, Nat.le_of_ble_eq_true rfl⟩ ⟨Nat.zero_le _, Nat.zero_le _⟩ rfl rfl (by decide +kernel) rfl rfl rfl (Nat.le_of_ble_eq_true rfl) dX2_takesDaysTold_4 rfl (fun H locs hP hD hS => ?_)
  refine lv_istore_n (lv' := [(3, .int r4), (0, .ref (aC 0)), (1, .ref (aD 0)), (2, .int x2)]) hx hb dX2_takesDaysTold_7 rfl hl (by decide) rfl (fun ls hl => ?_)
  refine lv_iload_n hx hb dX2_takesDaysTold_8 rfl (lv_at hl 0 rfl) ?_
  refine lv_iconst (v := 1) hx hb dX2_takesDaysTold_9 (by decide) ?_
  refine lv_bipush (v := 60) hx hb dX2_takesDaysTold_10 (by decide) ?_
  refine k_callN (As := [.int r4, .int 1, .int 60]) (rest := []) (st1 := [.int (S_PL_isIn r4 1 60)]) (ws2 := (Wd13 cI cM aC aD aK c_men c_propped c_place c_swings c_crashes c_day c_crashedToday c_kind c_figure c_lean d_kind d_figure d_sort d_size d_held d_el)) hx hb hml hown hts hK hN hA hP hD hS hl (c_PL_isIn l D cI cM cS cJ H.size r4 1 60 rfl) gX2_takesDaysTold_X11_isIn_n93 rfl (List.mem_of_getElem? (i := 15) rfl) (hts _ (List.mem_of_getElem? (i := 18) rfl)) (hts _ (List.mem_of_getElem? (i := 17) rfl)) kdS_X11_isIn [] ⟨rfl, rfl⟩ ⟨Nat.le_of_ble_eq_true rfl, Nat.le_of_ble_eq_true rfl⟩ ⟨Nat.zero_le _, Nat.zero_le _⟩ rfl rfl (by decide +kernel) rfl rfl rfl (Nat.le_of_ble_eq_true rfl) dX2_takesDaysTold_12 rfl (fun H locs hP hD hS => ?_)
  refine lv_if_eq (tgt := 30) hx hb dX2_takesDaysTold_15 (by decide) (fun c15 => ?_) (fun c15 => ?_)
  · have h := k_pos c15 h
    refine lv_iconst (v := 0) hx hb dX2_takesDaysTold_30 (by decide) ?_
    cases h
    exact hret _ _ _ _ rfl hP hS dX2_takesDaysTold_31
  · have h := k_neg c15 h
    refine lv_aload_n hx hb dX2_takesDaysTold_18 rfl (lv_at hl 1 rfl) ?_
    refine va_get (D := D) (ci := 2) (v := .int c_day) (C := RX2) (T := TX2) (N := 12) hx hb hts hiX2 hown hK hP 0 rfl rfl 8 (by decide) hf50 (fun _ z => z) rfl dX2_takesDaysTold_19 ?_
    refine lv_iload_n hx hb dX2_takesDaysTold_22 rfl (lv_at hl 0 rfl) ?_
    refine lv_iadd hx hb dX2_takesDaysTold_23 ?_
    refine lv_sipush (v := 999) hx hb dX2_takesDaysTold_24 (by decide) ?_
    refine lv_icmp_le (tgt := 32) hx hb dX2_takesDaysTold_27 (by decide) (fun c27 => ?_) (fun c27 => ?_)
    · have h := k_pos c27 h
      refine lv_aload_n hx hb dX2_takesDaysTold_32 rfl (lv_at hl 1 rfl) ?_
      refine lv_iload_n hx hb dX2_takesDaysTold_33 rfl (lv_at hl 0 rfl) ?_
      obtain ⟨r34, g34, h⟩ := k_bind h
      refine k_callV (As := [.int r4]) (rest := []) (st1 := [.int r34.1]) (ws2 := (Wd13 cI cM aC aD aK c_men c_propped r34.2.1 r34.2.2.1 r34.2.2.2.1 r34.2.2.2.2.1 r34.2.2.2.2.2.1 c_kind c_figure r34.2.2.2.2.2.2 d_kind d_figure d_sort d_size d_held d_el)) hx hb hml hown hts hK hN hA hP hD hS hl (c_City_passDays l D cI cM cS cJ aC aK H.size r4 c_men c_propped c_place c_swings c_crashes c_day c_crashedToday c_kind c_figure c_lean g34) gX2_takesDaysTold_X2_passDays rfl kdV_X2_passDays 0 2 rfl rfl rfl [0, 1, 2, 3, 6, 7, 8, 9, 10, 11, 12, 13, 14] ⟨rfl, rfl⟩ ⟨Nat.le_of_ble_eq_true rfl, Nat.le_of_ble_eq_true rfl⟩ ⟨Nat.zero_le _, Nat.zero_le _⟩ rfl rfl (by decide +kernel) rfl rfl rfl (Nat.le_of_ble_eq_true rfl) dX2_takesDaysTold_34 rfl (fun H locs hP hD hS => ?_)
      refine lv_pop hx hb dX2_takesDaysTold_37 rfl ?_
      refine lv_iconst (v := 1) hx hb dX2_takesDaysTold_38 (by decide) ?_
      cases h
      exact hret _ _ _ _ rfl hP hS dX2_takesDaysTold_39
    · have h := k_neg c27 h
      refine lv_iconst (v := 0) hx hb dX2_takesDaysTold_30 (by decide) ?_
      cases h
      exact hret _ _ _ _ rfl hP hS dX2_takesDaysTold_31
theorem kdV_X2_takesLeanTold : yX2_takesLeanTold.cls = RX2 ∧ yX2_takesLeanTold.cls ≠ "java/lang/invoke/MethodHandle" ∧ yX2_takesLeanTold.cls ≠ "java/lang/invoke/VarHandle" ∧ (parseMethodDescriptor yX2_takesLeanTold.desc).map (fun d => d.parameters.length) = some 2 := by decide +kernel
theorem kdV_X2_takesManTold : yX2_takesManTold.cls = RX2 ∧ yX2_takesManTold.cls ≠ "java/lang/invoke/MethodHandle" ∧ yX2_takesManTold.cls ≠ "java/lang/invoke/VarHandle" ∧ (parseMethodDescriptor yX2_takesManTold.desc).map (fun d => d.parameters.length) = some 2 := by decide +kernel
theorem kdV_X2_takesPropTold : yX2_takesPropTold.cls = RX2 ∧ yX2_takesPropTold.cls ≠ "java/lang/invoke/MethodHandle" ∧ yX2_takesPropTold.cls ≠ "java/lang/invoke/VarHandle" ∧ (parseMethodDescriptor yX2_takesPropTold.desc).map (fun d => d.parameters.length) = some 2 := by decide +kernel
theorem kdV_X2_takesLeadTold : yX2_takesLeadTold.cls = RX2 ∧ yX2_takesLeadTold.cls ≠ "java/lang/invoke/MethodHandle" ∧ yX2_takesLeadTold.cls ≠ "java/lang/invoke/VarHandle" ∧ (parseMethodDescriptor yX2_takesLeadTold.desc).map (fun d => d.parameters.length) = some 2 := by decide +kernel
theorem kdV_X2_takesDaysTold : yX2_takesDaysTold.cls = RX2 ∧ yX2_takesDaysTold.cls ≠ "java/lang/invoke/MethodHandle" ∧ yX2_takesDaysTold.cls ≠ "java/lang/invoke/VarHandle" ∧ (parseMethodDescriptor yX2_takesDaysTold.desc).map (fun d => d.parameters.length) = some 2 := by decide +kernel
abbrev rm_X2_takesStatement : Room := { frames := 6, cells := 0, slots := 0, locals := 151 }
set_option maxHeartbeats 4000000 in
set_option maxRecDepth 100000 in
theorem c_City_takesStatement (l : Launch) (D : va_G) (cI cM cS cJ : ClassId) (aC : Nat → Nat) (aD : Nat → Nat) (aK : Nat → Nat) (sz : Nat) (x2 : Int32) (c_men : Int32) (c_propped : Int32) (c_place : Int32) (c_swings : Int32) (c_crashes : Int32) (c_day : Int32) (c_crashedToday : Int32) (c_kind : Nat → Int32) (c_figure : Nat → Int32) (c_lean : Nat → Int32) (d_kind : Int32) (d_figure : Int32) (d_sort : Int32) (d_size : Int32) (d_held : Int32) (d_el : Nat → Int32) {o : (Int32) × (Int32) × (Int32) × (Int32) × (Int32) × (Int32) × (Int32) × (Int32) × (Nat → Int32) × (Nat → Int32) × (Nat → Int32)} (hsem : S_City_takesStatement x2 c_men c_propped c_place c_swings c_crashes c_day c_crashedToday c_kind c_figure c_lean d_size d_el = some o) : kMet l yX2_takesStatement wsX2_takesStatement rm_X2_takesStatement [.ref (aC 0), .ref (aD 0), .int x2] D (kT cI cM cS cJ) (Wd13 cI cM aC aD aK c_men c_propped c_place c_swings c_crashes c_day c_crashedToday c_kind c_figure c_lean d_kind d_figure d_sort d_size d_held d_el) sz (some (.int o.1)) (Wd13 cI cM aC aD aK o.2.1 o.2.2.1 o.2.2.2.1 o.2.2.2.2.1 o.2.2.2.2.2.1 o.2.2.2.2.2.2.1 o.2.2.2.2.2.2.2.1 o.2.2.2.2.2.2.2.2.1 o.2.2.2.2.2.2.2.2.2.1 o.2.2.2.2.2.2.2.2.2.2 d_kind d_figure d_sort d_size d_held d_el) := by
  refine k_metZ (by decide) rfl rfl (Nat.le_of_ble_eq_true rfl) ?_
  intro p e s m below meth c ls Q A hx hb hml hts hown hK hN hA hP hD hS hl hsz hnm hret
  have hown : s.vm.findClass RX2 = some m.cls := hown
  have hf53 := hts (.fieldLink RX2 53 "PlumbLine$Shelf" "elements" "[I") (List.mem_of_getElem? (i := 1) rfl)
  have hiX9 : ∀ w ∈ u_ws RX9 TX9 7, w ∈ wsX2_takesStatement := fun w h => List.mem_cons_of_mem _ (List.mem_append_left _ (List.mem_append_right _ h))
  replace hl : lv_has ls 3 [(0, .ref (aC 0)), (1, .ref (aD 0)), (2, .int x2)] := hl
  have h := hsem
  clear hsem
  rw [S_City_takesStatement] at h
  refine lv_aload_n hx hb dX2_takesStatement_0 rfl (lv_at hl 1 rfl) ?_
  refine va_get (D := D) (ci := 9) (v := .ref (aD 1)) (C := RX9) (T := TX9) (N := 7) hx hb hts hiX9 hown hK hP 4 rfl rfl 0 (by decide) hf53 (fun _ z => z) rfl dX2_takesStatement_1 ?_
  refine lv_iload_n hx hb dX2_takesStatement_4 rfl (lv_at hl 2 rfl) ?_
  obtain ⟨g5, h⟩ := k_guard h
  refine va_iald hx hb hK hP 5 0 rfl rfl g5 dX2_takesStatement_5 ?_
  by_cases s6_108 : (d_el x2.toNatClampNeg) = 108
  · refine k_lkI (tgt := 55) (v := 108) hx hb dX2_takesStatement_6 s6_108 rfl rfl (by decide) ?_
    have h := k_pos s6_108 h
    refine lv_aload_n hx hb dX2_takesStatement_55 rfl (lv_at hl 0 rfl) ?_
    refine lv_aload_n hx hb dX2_takesStatement_56 rfl (lv_at hl 1 rfl) ?_
    refine lv_iload_n hx hb dX2_takesStatement_57 rfl (lv_at hl 2 rfl) ?_
    obtain ⟨r58, g58, h⟩ := k_bind h
    refine k_callV (As := [.ref (aD 0), .int x2]) (rest := []) (st1 := [.int r58.1]) (ws2 := (Wd13 cI cM aC aD aK c_men c_propped c_place c_swings c_crashes c_day c_crashedToday c_kind c_figure r58.2 d_kind d_figure d_sort d_size d_held d_el)) hx hb hml hown hts hK hN hA hP hD hS hl (c_City_takesLeanTold l D cI cM cS cJ aC aD aK s.heap.size x2 c_men c_propped c_place c_swings c_crashes c_day c_crashedToday c_lean d_kind d_figure d_sort d_size d_held d_el g58) gX2_takesStatement_X2_takesLeanTold rfl kdV_X2_takesLeanTold 0 2 rfl rfl rfl [0, 3, 4, 5] ⟨rfl, rfl⟩ ⟨Nat.le_of_ble_eq_true rfl, Nat.le_of_ble_eq_true rfl⟩ ⟨Nat.zero_le _, Nat.zero_le _⟩ rfl rfl (by decide +kernel) rfl rfl rfl (Nat.le_of_ble_eq_true rfl) dX2_takesStatement_58 rfl (fun H locs hP hD hS => ?_)
    obtain ⟨g61, h⟩ := k_guard h
    cases h
    exact hret _ _ _ _ (k_z01 g61) hP hS dX2_takesStatement_61
  · have h := k_neg s6_108 h
    by_cases s6_109 : (d_el x2.toNatClampNeg) = 109
    · refine k_lkI (tgt := 48) (v := 109) hx hb dX2_takesStatement_6 s6_109 rfl rfl (by decide) ?_
      have h := k_pos s6_109 h
      refine lv_aload_n hx hb dX2_takesStatement_48 rfl (lv_at hl 0 rfl) ?_
      refine lv_aload_n hx hb dX2_takesStatement_49 rfl (lv_at hl 1 rfl) ?_
      refine lv_iload_n hx hb dX2_takesStatement_50 rfl (lv_at hl 2 rfl) ?_
      obtain ⟨r51, g51, h⟩ := k_bind h
      refine k_callV (As := [.ref (aD 0), .int x2]) (rest := []) (st1 := [.int r51.1]) (ws2 := (Wd13 cI cM aC aD aK r51.2.1 c_propped c_place c_swings c_crashes c_day c_crashedToday r51.2.2.1 r51.2.2.2.1 r51.2.2.2.2 d_kind d_figure d_sort d_size d_held d_el)) hx hb hml hown hts hK hN hA hP hD hS hl (c_City_takesManTold l D cI cM cS cJ aC aD aK s.heap.size x2 c_men c_propped c_place c_swings c_crashes c_day c_crashedToday c_kind c_figure c_lean d_kind d_figure d_sort d_size d_held d_el g51) gX2_takesStatement_X2_takesManTold rfl kdV_X2_takesManTold 0 2 rfl rfl rfl [0, 1, 2, 3, 4, 5] ⟨rfl, rfl⟩ ⟨Nat.le_of_ble_eq_true rfl, Nat.le_of_ble_eq_true rfl⟩ ⟨Nat.zero_le _, Nat.zero_le _⟩ rfl rfl (by decide +kernel) rfl rfl rfl (Nat.le_of_ble_eq_true rfl) dX2_takesStatement_51 rfl (fun H locs hP hD hS => ?_)
      obtain ⟨g54, h⟩ := k_guard h
      cases h
      exact hret _ _ _ _ (k_z01 g54) hP hS dX2_takesStatement_54
    · have h := k_neg s6_109 h
      by_cases s6_114 : (d_el x2.toNatClampNeg) = 114
      · refine k_lkI (tgt := 62) (v := 114) hx hb dX2_takesStatement_6 s6_114 rfl rfl (by decide) ?_
        have h := k_pos s6_114 h
        refine lv_aload_n hx hb dX2_takesStatement_62 rfl (lv_at hl 0 rfl) ?_
        refine lv_aload_n hx hb dX2_takesStatement_63 rfl (lv_at hl 1 rfl) ?_
        refine lv_iload_n hx hb dX2_takesStatement_64 rfl (lv_at hl 2 rfl) ?_
        obtain ⟨r65, g65, h⟩ := k_bind h
        refine k_callV (As := [.ref (aD 0), .int x2]) (rest := []) (st1 := [.int r65.1]) (ws2 := (Wd13 cI cM aC aD aK c_men r65.2 c_place c_swings c_crashes c_day c_crashedToday c_kind c_figure c_lean d_kind d_figure d_sort d_size d_held d_el)) hx hb hml hown hts hK hN hA hP hD hS hl (c_City_takesPropTold l D cI cM cS cJ aC aD aK s.heap.size x2 c_men c_propped c_place c_swings c_crashes c_day c_crashedToday d_kind d_figure d_sort d_size d_held d_el g65) gX2_takesStatement_X2_takesPropTold rfl kdV_X2_takesPropTold 0 2 rfl rfl rfl [0, 4, 5] ⟨rfl, rfl⟩ ⟨Nat.le_of_ble_eq_true rfl, Nat.le_of_ble_eq_true rfl⟩ ⟨Nat.zero_le _, Nat.zero_le _⟩ rfl rfl (by decide +kernel) rfl rfl rfl (Nat.le_of_ble_eq_true rfl) dX2_takesStatement_65 rfl (fun H locs hP hD hS => ?_)
        obtain ⟨g68, h⟩ := k_guard h
        cases h
        exact hret _ _ _ _ (k_z01 g68) hP hS dX2_takesStatement_68
      · have h := k_neg s6_114 h
        by_cases s6_119 : (d_el x2.toNatClampNeg) = 119
        · refine k_lkI (tgt := 69) (v := 119) hx hb dX2_takesStatement_6 s6_119 rfl rfl (by decide) ?_
          have h := k_pos s6_119 h
          refine lv_aload_n hx hb dX2_takesStatement_69 rfl (lv_at hl 0 rfl) ?_
          refine lv_aload_n hx hb dX2_takesStatement_70 rfl (lv_at hl 1 rfl) ?_
          refine lv_iload_n hx hb dX2_takesStatement_71 rfl (lv_at hl 2 rfl) ?_
          obtain ⟨r72, g72, h⟩ := k_bind h
          refine k_callV (As := [.ref (aD 0), .int x2]) (rest := []) (st1 := [.int r72.1]) (ws2 := (Wd13 cI cM aC aD aK c_men c_propped r72.2.1 r72.2.2 c_crashes c_day c_crashedToday c_kind c_figure c_lean d_kind d_figure d_sort d_size d_held d_el)) hx hb hml hown hts hK hN hA hP hD hS hl (c_City_takesLeadTold l D cI cM cS cJ aC aD aK s.heap.size x2 c_men c_propped c_place c_swings c_crashes c_day c_crashedToday d_kind d_figure d_sort d_size d_held d_el g72) gX2_takesStatement_X2_takesLeadTold rfl kdV_X2_takesLeadTold 0 2 rfl rfl rfl [0, 4, 5] ⟨rfl, rfl⟩ ⟨Nat.le_of_ble_eq_true rfl, Nat.le_of_ble_eq_true rfl⟩ ⟨Nat.zero_le _, Nat.zero_le _⟩ rfl rfl (by decide +kernel) rfl rfl rfl (Nat.le_of_ble_eq_true rfl) dX2_takesStatement_72 rfl (fun H locs hP hD hS => ?_)
          obtain ⟨g75, h⟩ := k_guard h
          cases h
          exact hret _ _ _ _ (k_z01 g75) hP hS dX2_takesStatement_75
        · have h := k_neg s6_119 h
          refine lv_lookup (tgt := 76) hx hb dX2_takesStatement_6 rfl (k_lkN _ _ _ (List.forall_mem_cons.mpr ⟨k_ne s6_108 rfl, (List.forall_mem_cons.mpr ⟨k_ne s6_109 rfl, (List.forall_mem_cons.mpr ⟨k_ne s6_114 rfl, (List.forall_mem_cons.mpr ⟨k_ne s6_119 rfl, (fun _ z => absurd z List.not_mem_nil)⟩)⟩)⟩)⟩)) (by decide) ?_
          refine lv_aload_n hx hb dX2_takesStatement_76 rfl (lv_at hl 0 rfl) ?_
          refine lv_aload_n hx hb dX2_takesStatement_77 rfl (lv_at hl 1 rfl) ?_
          refine lv_iload_n hx hb dX2_takesStatement_78 rfl (lv_at hl 2 rfl) ?_
          obtain ⟨r79, g79, h⟩ := k_bind h
          refine k_callV (As := [.ref (aD 0), .int x2]) (rest := []) (st1 := [.int r79.1]) (ws2 := (Wd13 cI cM aC aD aK c_men c_propped r79.2.1 r79.2.2.1 r79.2.2.2.1 r79.2.2.2.2.1 r79.2.2.2.2.2.1 c_kind c_figure r79.2.2.2.2.2.2 d_kind d_figure d_sort d_size d_held d_el)) hx hb hml hown hts hK hN hA hP hD hS hl (c_City_takesDaysTold l D cI cM cS cJ aC aD aK s.heap.size x2 c_men c_propped c_place c_swings c_crashes c_day c_crashedToday c_kind c_figure c_lean d_kind d_figure d_sort d_size d_held d_el g79) gX2_takesStatement_X2_takesDaysTold rfl kdV_X2_takesDaysTold 0 2 rfl rfl rfl [0, 1, 2, 3, 4, 5, 6, 7, 8, 9, 10, 11, 12, 13, 14] ⟨rfl, rfl⟩ ⟨Nat.le_of_ble_eq_true rfl, Nat.le_of_ble_eq_true rfl⟩ ⟨Nat.zero_le _, Nat.zero_le _⟩ rfl rfl (by decide +kernel) rfl rfl rfl (Nat.le_of_ble_eq_true rfl) dX2_takesStatement_79 rfl (fun H locs hP hD hS => ?_)
          obtain ⟨g82, h⟩ := k_guard h
          cases h
          exact hret _ _ _ _ (k_z01 g82) hP hS dX2_takesStatement_82
abbrev rm_X2_far : Room := { frames := 1, cells := 0, slots := 0, locals := 40 }
set_option maxHeartbeats 4000000 in
set_option maxRecDepth 100000 in
theorem c_City_far (l : Launch) (D : va_G) (cI cM cS cJ : ClassId) (aC : Nat → Nat) (aK : Nat → Nat) (sz : Nat) (x1 : Int32) (c_men : Int32) (c_propped : Int32) (c_place : Int32) (c_swings : Int32) (c_crashes : Int32) (c_day : Int32) (c_crashedToday : Int32) (c_lean : Nat → Int32) {o : (Int32)} (hsem : S_City_far x1 c_lean = some o) : kMet l yX2_far wsX2_far rm_X2_far [.ref (aC 0), .int x1] D (kT cI cM cS cJ) (Wd11 cI aC aK c_men c_propped c_place c_swings c_crashes c_day c_crashedToday c_lean) sz (some (.int o)) (Wd11 cI aC aK c_men c_propped c_place c_swings c_crashes c_day c_crashedToday c_lean) := by
  refine k_metI (by decide) rfl rfl (Nat.le_of_ble_eq_true rfl) ?_
  intro p e s m below meth c ls Q A hx hb hml hts hown hK hN hA hP hD hS hl hsz hnm hret
  have hown : s.vm.findClass RX2 = some m.cls := hown
  have hf18 := hts (.fieldLink RX2 18 "PlumbLine$City" "lean" "[I") (List.mem_of_getElem? (i := 1) rfl)
  have hiX2 : ∀ w ∈ u_ws RX2 TX2 12, w ∈ wsX2_far := fun w h => List.mem_cons_of_mem _ (List.mem_append_right _ h)
  replace hl : lv_has ls 2 [(0, .ref (aC 0)), (1, .int x1)] := hl
  have h := hsem
  clear hsem
  rw [S_City_far] at h
  refine lv_aload_n hx hb dX2_far_0 rfl (lv_at hl 0 rfl) ?_
  refine va_get (D := D) (ci := 2) (v := .ref (aC 3)) (C := RX2) (T := TX2) (N := 12) hx hb hts hiX2 hown hK hP 0 rfl rfl 2 (by decide) hf18 (fun _ z => z) rfl dX2_far_1 ?_
  refine lv_iload_n hx hb dX2_far_4 rfl (lv_at hl 1 rfl) ?_
  obtain ⟨g5, h⟩ := k_guard h
  refine va_iald hx hb hK hP 1 0 rfl rfl g5 dX2_far_5 ?_
  refine k_mabs (own := RX2) (index := 149) hx hb (hml.trans hl.1.symm) hown (hts _ (List.mem_of_getElem? (i := 2) rfl)) (hts _ (List.mem_of_getElem? (i := 3) rfl)) (hts _ (List.mem_of_getElem? (i := 4) rfl)) (hts _ (List.mem_of_getElem? (i := 5) rfl)) (Nat.le_of_ble_eq_true rfl) (Nat.le_of_ble_eq_true rfl) (Nat.zero_le _) (Nat.zero_le _) dX2_far_6 ?_
  cases h
  exact hret _ _ _ _ hP hS dX2_far_9
abbrev Wd14 (cI : ClassId) (cM : ClassId) (aC : Nat → Nat) (aK : Nat → Nat) (c_men : Int32) (c_propped : Int32) (c_place : Int32) (c_swings : Int32) (c_crashes : Int32) (c_day : Int32) (c_crashedToday : Int32) (c_kind : Nat → Int32) (c_figure : Nat → Int32) : va_W := [((aC 0), .inr (2, [.ref (aC 1), .ref (aC 2), .ref (aC 3), .int c_men, .int c_propped, .int c_place, .int c_swings, .int c_crashes, .int c_day, .int c_crashedToday, .ref (aK 8), .ref (aC 4)])), ((aC 1), .inl (cI, 8, .inl c_kind)), ((aC 2), .inl (cI, 8, .inl c_figure)), ((aK 8), .inl (cM, 8, .inr (.inr (.inr (.inr (fun k => some (aK k))))))), ((aK 0), .inr (4, [])), ((aK 1), .inr (0, [])), ((aK 2), .inr (7, [])), ((aK 3), .inr (3, [])), ((aK 4), .inr (1, [])), ((aK 5), .inr (8, [])), ((aK 6), .inr (10, [])), ((aK 7), .inr (6, []))]
abbrev rm_X2_isUprightAt : Room := { frames := 2, cells := 0, slots := 0, locals := 42 }
set_option maxHeartbeats 4000000 in
set_option maxRecDepth 100000 in
theorem c_City_isUprightAt (l : Launch) (D : va_G) (cI cM cS cJ : ClassId) (aC : Nat → Nat) (aK : Nat → Nat) (sz : Nat) (x1 : Int32) (x2 : Int32) (c_men : Int32) (c_propped : Int32) (c_place : Int32) (c_swings : Int32) (c_crashes : Int32) (c_day : Int32) (c_crashedToday : Int32) (c_kind : Nat → Int32) (c_figure : Nat → Int32) {o : (Int32)} (hsem : S_City_isUprightAt x1 x2 c_kind c_figure = some o) : kMet l yX2_isUprightAt wsX2_isUprightAt rm_X2_isUprightAt [.ref (aC 0), .int x1, .int x2] D (kT cI cM cS cJ) (Wd14 cI cM aC aK c_men c_propped c_place c_swings c_crashes c_day c_crashedToday c_kind c_figure) sz (some (.int o)) (Wd14 cI cM aC aK c_men c_propped c_place c_swings c_crashes c_day c_crashedToday c_kind c_figure) := by
  refine k_metZ (by decide) rfl rfl (Nat.le_of_ble_eq_true rfl) ?_
  intro p e s m below meth c ls Q A hx hb hml hts hown hK hN hA hP hD hS hl hsz hnm hret
  have hown : s.vm.findClass RX2 = some m.cls := hown
  have hf24 := hts (.fieldLink RX2 24 "PlumbLine$City" "kinds" "[LPlumbLine$Man;") (List.mem_of_getElem? (i := 1) rfl)
  have hf9 := hts (.fieldLink RX2 9 "PlumbLine$City" "kind" "[I") (List.mem_of_getElem? (i := 2) rfl)
  have hf15 := hts (.fieldLink RX2 15 "PlumbLine$City" "figure" "[I") (List.mem_of_getElem? (i := 3) rfl)
  have hiX2 : ∀ w ∈ u_ws RX2 TX2 12, w ∈ wsX2_isUprightAt := fun w h => List.mem_cons_of_mem _ (List.mem_append_right _ h)
  replace hl : lv_has ls 3 [(0, .ref (aC 0)), (1, .int x1), (2, .int x2)] := hl
  have h := hsem
  clear hsem
  rw [S_City_isUprightAt] at h
  refine lv_iload_n hx hb dX2_isUprightAt_0 rfl (lv_at hl 2 rfl) ?_
  refine lv_aload_n hx hb dX2_isUprightAt_1 rfl (lv_at hl 0 rfl) ?_
  refine va_get (D := D) (ci := 2) (v := .ref (aK 8)) (C := RX2) (T := TX2) (N := 12) hx hb hts hiX2 hown hK hP 0 rfl rfl 10 (by decide) hf24 (fun _ z => z) rfl dX2_isUprightAt_2 ?_
  refine lv_aload_n hx hb dX2_isUprightAt_5 rfl (lv_at hl 0 rfl) ?_
  refine va_get (D := D) (ci := 2) (v := .ref (aC 1)) (C := RX2) (T := TX2) (N := 12) hx hb hts hiX2 hown hK hP 0 rfl rfl 0 (by decide) hf9 (fun _ z => z) rfl dX2_isUprightAt_6 ?_
  refine lv_iload_n hx hb dX2_isUprightAt_9 rfl (lv_at hl 1 rfl) ?_
  obtain ⟨g10, h⟩ := k_guard h
  refine va_iald hx hb hK hP 1 0 rfl rfl g10 dX2_isUprightAt_10 ?_
  obtain ⟨g11, h⟩ := k_guard h
  refine k_aldR (f := aK) hx hb hK hP 3 1 rfl rfl g11 dX2_isUprightAt_11 ?_
  refine lv_aload_n hx hb dX2_isUprightAt_12 rfl (lv_at hl 0 rfl) ?_
  refine va_get (D := D) (ci := 2) (v := .ref (aC 2)) (C := RX2) (T := TX2) (N := 12) hx hb hts hiX2 hown hK hP 0 rfl rfl 1 (by decide) hf15 (fun _ z => z) rfl dX2_isUprightAt_13 ?_
  refine lv_iload_n hx hb dX2_isUprightAt_16 rfl (lv_at hl 1 rfl) ?_
  refine va_iald hx hb hK hP 2 0 rfl rfl g10 dX2_isUprightAt_17 ?_
  have V18 : ∀ (H : Heap) (locs : List Loc), va_P D vwCl (Wd14 cI cM aC aK c_men c_propped c_place c_swings c_crashes c_day c_crashedToday c_kind c_figure) H → va_D A (Wd14 cI cM aC aK c_men c_propped c_place c_swings c_crashes c_day c_crashedToday c_kind c_figure) → va_S A s.heap H locs → W p l e rm_X2_isUprightAt s m ([.ref (aC 0), .int x1, .int x2] : List Value).toArray below meth c H locs 0 0 Q (F0 m 21 ls [.int (V_uprightWithin (c_kind x1.toNatClampNeg).toNatClampNeg (c_figure x1.toNatClampNeg)), .int x2]) := by
    intro H locs hP hD hS
    refine lv_icmp_gt (tgt := 28) hx hb dX2_isUprightAt_21 (by decide) (fun c21 => ?_) (fun c21 => ?_)
    · have h := k_pos c21 h
      refine lv_iconst (v := 0) hx hb dX2_isUprightAt_28 (by decide) ?_
      cases h
      exact hret _ _ _ _ rfl hP hS dX2_isUprightAt_29
    · have h := k_neg c21 h
      refine lv_iconst (v := 1) hx hb dX2_isUprightAt_24 (by decide) ?_
      refine lv_goto (tgt := 29) hx hb dX2_isUprightAt_25 (by decide) ?_
      cases h
      exact hret _ _ _ _ rfl hP hS dX2_isUprightAt_29
  generalize hk18 : (c_kind x1.toNatClampNeg).toNatClampNeg = k18 at V18 ⊢
  have hb18 : k18 < 8 := by rw [← hk18]; exact Nat.not_le.mp (fun z => g11 (Or.inr z))
  rcases k_8 hb18 with e | e | e | e | e | e | e | e <;> subst e
  · exact k_callV (As := [.int (c_figure x1.toNatClampNeg)]) (rest := [.int x2]) (st1 := [.int (S_Man_uprightWithin (c_figure x1.toNatClampNeg)), .int x2]) hx hb hml hown hts hK hN hA hP hD hS hl (c_Man_uprightWithin l D cI cM cS cJ (aK 0) 4 s.heap.size (c_figure x1.toNatClampNeg) rfl) gX2_isUprightAt_X4_uprightWithin rfl kdV_X4_uprightWithin 0 4 rfl rfl rfl [4] ⟨rfl, rfl⟩ ⟨Nat.le_of_ble_eq_true rfl, Nat.le_of_ble_eq_true rfl⟩ ⟨Nat.zero_le _, Nat.zero_le _⟩ rfl rfl (by decide +kernel) rfl rfl rfl (Nat.le_of_ble_eq_true rfl) dX2_isUprightAt_18 rfl V18
  · exact k_callU (As := [.int (c_figure x1.toNatClampNeg)]) (rest := [.int x2]) (st1 := [.int (S_Banker_uprightWithin (c_figure x1.toNatClampNeg)), .int x2]) hx hb hml hown hts hK hN hA hP hD hS hl (c_Banker_uprightWithin l D cI cM cS cJ (aK 1) 0 s.heap.size (c_figure x1.toNatClampNeg) rfl) (va_cwO 1 hts gX2_isUprightAt_X0_uprightWithin_u159X0 rfl rfl rfl (List.mem_of_getElem? (i := 11) rfl) kdM_uprightWithin ⟨Nat.le_of_ble_eq_true rfl, Nat.le_of_ble_eq_true rfl⟩) 0 0 rfl rfl rfl [5] ⟨Nat.zero_le _, Nat.zero_le _⟩ rfl rfl (by decide +kernel) rfl rfl rfl (Nat.le_of_ble_eq_true rfl) dX2_isUprightAt_18 rfl V18
  · exact k_callU (As := [.int (c_figure x1.toNatClampNeg)]) (rest := [.int x2]) (st1 := [.int (S_Quaker_uprightWithin (c_figure x1.toNatClampNeg)), .int x2]) hx hb hml hown hts hK hN hA hP hD hS hl (c_Quaker_uprightWithin l D cI cM cS cJ (aK 2) 7 s.heap.size (c_figure x1.toNatClampNeg) rfl) (va_cwO 1 hts gX2_isUprightAt_X7_uprightWithin_u159X7 rfl rfl rfl (List.mem_of_getElem? (i := 11) rfl) kdM_uprightWithin ⟨Nat.le_of_ble_eq_true rfl, Nat.le_of_ble_eq_true rfl⟩) 0 7 rfl rfl rfl [6] ⟨Nat.zero_le _, Nat.zero_le _⟩ rfl rfl (by decide +kernel) rfl rfl rfl (Nat.le_of_ble_eq_true rfl) dX2_isUprightAt_18 rfl V18
  · exact k_callU (As := [.int (c_figure x1.toNatClampNeg)]) (rest := [.int x2]) (st1 := [.int (S_Clerk_uprightWithin (c_figure x1.toNatClampNeg)), .int x2]) hx hb hml hown hts hK hN hA hP hD hS hl (c_Clerk_uprightWithin l D cI cM cS cJ (aK 3) 3 s.heap.size (c_figure x1.toNatClampNeg) rfl rfl) (va_cwO 1 hts gX2_isUprightAt_X3_uprightWithin_u159X3 rfl rfl rfl (List.mem_of_getElem? (i := 11) rfl) kdM_uprightWithin ⟨Nat.le_of_ble_eq_true rfl, Nat.le_of_ble_eq_true rfl⟩) 0 3 rfl rfl rfl [7] ⟨Nat.zero_le _, Nat.zero_le _⟩ rfl rfl (by decide +kernel) rfl rfl rfl (Nat.le_of_ble_eq_true rfl) dX2_isUprightAt_18 rfl V18
  · exact k_callU (As := [.int (c_figure x1.toNatClampNeg)]) (rest := [.int x2]) (st1 := [.int (S_Broker_uprightWithin (c_figure x1.toNatClampNeg)), .int x2]) hx hb hml hown hts hK hN hA hP hD hS hl (c_Broker_uprightWithin l D cI cM cS cJ (aK 4) 1 s.heap.size (c_figure x1.toNatClampNeg) rfl rfl) (va_cwO 1 hts gX2_isUprightAt_X1_uprightWithin_u159X1 rfl rfl rfl (List.mem_of_getElem? (i := 11) rfl) kdM_uprightWithin ⟨Nat.le_of_ble_eq_true rfl, Nat.le_of_ble_eq_true rfl⟩) 0 1 rfl rfl rfl [8] ⟨Nat.zero_le _, Nat.zero_le _⟩ rfl rfl (by decide +kernel) rfl rfl rfl (Nat.le_of_ble_eq_true rfl) dX2_isUprightAt_18 rfl V18
  · exact k_callU (As := [.int (c_figure x1.toNatClampNeg)]) (rest := [.int x2]) (st1 := [.int (S_Scrubber_uprightWithin (c_figure x1.toNatClampNeg)), .int x2]) hx hb hml hown hts hK hN hA hP hD hS hl (c_Scrubber_uprightWithin l D cI cM cS cJ (aK 5) 8 s.heap.size (c_figure x1.toNatClampNeg) rfl) (va_cwO 1 hts gX2_isUprightAt_X8_uprightWithin_u159X8 rfl rfl rfl (List.mem_of_getElem? (i := 11) rfl) kdM_uprightWithin ⟨Nat.le_of_ble_eq_true rfl, Nat.le_of_ble_eq_true rfl⟩) 0 8 rfl rfl rfl [9] ⟨Nat.zero_le _, Nat.zero_le _⟩ rfl rfl (by decide +kernel) rfl rfl rfl (Nat.le_of_ble_eq_true rfl) dX2_isUprightAt_18 rfl V18
  · exact k_callU (As := [.int (c_figure x1.toNatClampNeg)]) (rest := [.int x2]) (st1 := [.int (S_Broker_uprightWithin (c_figure x1.toNatClampNeg)), .int x2]) hx hb hml hown hts hK hN hA hP hD hS hl (c_Broker_uprightWithin l D cI cM cS cJ (aK 6) 10 s.heap.size (c_figure x1.toNatClampNeg) rfl rfl) (va_cwO 1 hts gX2_isUprightAt_X1_uprightWithin_u159X10 rfl rfl rfl (List.mem_of_getElem? (i := 11) rfl) kdM_uprightWithin ⟨Nat.le_of_ble_eq_true rfl, Nat.le_of_ble_eq_true rfl⟩) 0 10 rfl rfl rfl [10] ⟨Nat.zero_le _, Nat.zero_le _⟩ rfl rfl (by decide +kernel) rfl rfl rfl (Nat.le_of_ble_eq_true rfl) dX2_isUprightAt_18 rfl V18
  · exact k_callU (As := [.int (c_figure x1.toNatClampNeg)]) (rest := [.int x2]) (st1 := [.int (S_Clerk_uprightWithin (c_figure x1.toNatClampNeg)), .int x2]) hx hb hml hown hts hK hN hA hP hD hS hl (c_Clerk_uprightWithin l D cI cM cS cJ (aK 7) 6 s.heap.size (c_figure x1.toNatClampNeg) rfl rfl) (va_cwO 1 hts gX2_isUprightAt_X3_uprightWithin_u159X6 rfl rfl rfl (List.mem_of_getElem? (i := 11) rfl) kdM_uprightWithin ⟨Nat.le_of_ble_eq_true rfl, Nat.le_of_ble_eq_true rfl⟩) 0 6 rfl rfl rfl [11] ⟨Nat.zero_le _, Nat.zero_le _⟩ rfl rfl (by decide +kernel) rfl rfl rfl (Nat.le_of_ble_eq_true rfl) dX2_isUprightAt_18 rfl V18
theorem kdV_X2_far : yX2_far.cls = RX2 ∧ yX2_far.cls ≠ "java/lang/invoke/MethodHandle" ∧ yX2_far.cls ≠ "java/lang/invoke/VarHandle" ∧ (parseMethodDescriptor yX2_far.desc).map (fun d => d.parameters.length) = some 1 := by decide +kernel
theorem kdV_X2_isUprightAt : yX2_isUprightAt.cls = RX2 ∧ yX2_isUprightAt.cls ≠ "java/lang/invoke/MethodHandle" ∧ yX2_isUprightAt.cls ≠ "java/lang/invoke/VarHandle" ∧ (parseMethodDescriptor yX2_isUprightAt.desc).map (fun d => d.parameters.length) = some 2 := by decide +kernel
abbrev rm_X2_isUpright : Room := { frames := 3, cells := 0, slots := 0, locals := 64 }
set_option maxHeartbeats 4000000 in
set_option maxRecDepth 100000 in
theorem c_City_isUpright (l : Launch) (D : va_G) (cI cM cS cJ : ClassId) (aC : Nat → Nat) (aK : Nat → Nat) (sz : Nat) (x1 : Int32) (c_men : Int32) (c_propped : Int32) (c_place : Int32) (c_swings : Int32) (c_crashes : Int32) (c_day : Int32) (c_crashedToday : Int32) (c_kind : Nat → Int32) (c_figure : Nat → Int32) (c_lean : Nat → Int32) {o : (Int32)} (hsem : S_City_isUpright x1 c_kind c_figure c_lean = some o) : kMet l yX2_isUpright wsX2_isUpright rm_X2_isUpright [.ref (aC 0), .int x1] D (kT cI cM cS cJ) (Wd12 cI cM aC aK c_men c_propped c_place c_swings c_crashes c_day c_crashedToday c_kind c_figure c_lean) sz (some (.int o)) (Wd12 cI cM aC aK c_men c_propped c_place c_swings c_crashes c_day c_crashedToday c_kind c_figure c_lean) := by
  refine k_metZ (by decide) rfl rfl (Nat.le_of_ble_eq_true rfl) ?_
  intro p e s m below meth c ls Q A hx hb hml hts hown hK hN hA hP hD hS hl hsz hnm hret
  have hown : s.vm.findClass RX2 = some m.cls := hown
  replace hl : lv_has ls 2 [(0, .ref (aC 0)), (1, .int x1)] := hl
  have h := hsem
  clear hsem
  rw [S_City_isUpright] at h
  refine lv_aload_n hx hb dX2_isUpright_0 rfl (lv_at hl 0 rfl) ?_
  refine lv_iload_n hx hb dX2_isUpright_1 rfl (lv_at hl 1 rfl) ?_
  refine lv_aload_n hx hb dX2_isUpright_2 rfl (lv_at hl 0 rfl) ?_
  refine lv_iload_n hx hb dX2_isUpright_3 rfl (lv_at hl 1 rfl) ?_
  obtain ⟨r4, g4, h⟩ := k_bind h
  refine k_callV (As := [.int x1]) (rest := [.int x1, .ref (aC 0)]) (st1 := [.int r4, .int x1, .ref (aC 0)]) (ws2 := (Wd12 cI cM aC aK c_men c_propped c_place c_swings c_crashes c_day c_crashedToday c_kind c_figure c_lean)) hx hb hml hown hts hK hN hA hP hD hS hl (c_City_far l D cI cM cS cJ aC aK s.heap.size x1 c_men c_propped c_place c_swings c_crashes c_day c_crashedToday c_lean g4) gX2_isUpright_X2_far rfl kdV_X2_far 0 2 rfl rfl rfl [0, 3] ⟨rfl, rfl⟩ ⟨Nat.le_of_ble_eq_true rfl, Nat.le_of_ble_eq_true rfl⟩ ⟨Nat.zero_le _, Nat.zero_le _⟩ rfl rfl (by decide +kernel) rfl rfl rfl (Nat.le_of_ble_eq_true rfl) dX2_isUpright_4 rfl (fun H locs hP hD hS => ?_)
  obtain ⟨r7, g7, h⟩ := k_bind h
  refine k_callV (As := [.int x1, .int r4]) (rest := []) (st1 := [.int r7]) (ws2 := (Wd12 cI cM aC aK c_men c_propped c_place c_swings c_crashes c_day c_crashedToday c_kind c_figure c_lean)) hx hb hml hown hts hK hN hA hP hD hS hl (c_City_isUprightAt l D cI cM cS cJ aC aK H.size x1 r4 c_men c_propped c_place c_swings c_crashes c_day c_crashedToday c_kind c_figure g7) gX2_isUpright_X2_isUprightAt rfl kdV_X2_isUprightAt 0 2 rfl rfl rfl [0, 1, 2, 4, 5, 6, 7, 8, 9, 10, 11, 12] ⟨rfl, rfl⟩ ⟨Nat.le_of_ble_eq_true rfl, Nat.le_of_ble_eq_true rfl⟩ ⟨Nat.zero_le _, Nat.zero_le _⟩ rfl rfl (by decide +kernel) rfl rfl rfl (Nat.le_of_ble_eq_true rfl) dX2_isUpright_7 rfl (fun H locs hP hD hS => ?_)
  obtain ⟨g10, h⟩ := k_guard h
  cases h
  exact hret _ _ _ _ (k_z01 g10) hP hS dX2_isUpright_10
theorem kdV_X4_discountAt : yX4_discountAt.cls = RX4 ∧ yX4_discountAt.cls ≠ "java/lang/invoke/MethodHandle" ∧ yX4_discountAt.cls ≠ "java/lang/invoke/VarHandle" ∧ (parseMethodDescriptor yX4_discountAt.desc).map (fun d => d.parameters.length) = some 2 := by decide +kernel
theorem kdM_discountAt : "PlumbLine$Man" ≠ "java/lang/invoke/MethodHandle" ∧ "PlumbLine$Man" ≠ "java/lang/invoke/VarHandle" ∧ (parseMethodDescriptor "(II)I").map (fun d => d.parameters.length) = some 2 := by decide +kernel
abbrev rm_X2_discountOf : Room := { frames := 2, cells := 0, slots := 0, locals := 61 }
set_option maxHeartbeats 4000000 in
set_option maxRecDepth 100000 in
theorem c_City_discountOf (l : Launch) (D : va_G) (cI cM cS cJ : ClassId) (aC : Nat → Nat) (aK : Nat → Nat) (sz : Nat) (x1 : Int32) (c_men : Int32) (c_propped : Int32) (c_place : Int32) (c_swings : Int32) (c_crashes : Int32) (c_day : Int32) (c_crashedToday : Int32) (c_kind : Nat → Int32) (c_figure : Nat → Int32) (c_lean : Nat → Int32) {o : (Int32)} (hsem : S_City_discountOf x1 c_kind c_figure c_lean = some o) : kMet l yX2_discountOf wsX2_discountOf rm_X2_discountOf [.ref (aC 0), .int x1] D (kT cI cM cS cJ) (Wd12 cI cM aC aK c_men c_propped c_place c_swings c_crashes c_day c_crashedToday c_kind c_figure c_lean) sz (some (.int o)) (Wd12 cI cM aC aK c_men c_propped c_place c_swings c_crashes c_day c_crashedToday c_kind c_figure c_lean) := by
  refine k_metI (by decide) rfl rfl (Nat.le_of_ble_eq_true rfl) ?_
  intro p e s m below meth c ls Q A hx hb hml hts hown hK hN hA hP hD hS hl hsz hnm hret
  have hown : s.vm.findClass RX2 = some m.cls := hown
  have hf24 := hts (.fieldLink RX2 24 "PlumbLine$City" "kinds" "[LPlumbLine$Man;") (List.mem_of_getElem? (i := 1) rfl)
  have hf9 := hts (.fieldLink RX2 9 "PlumbLine$City" "kind" "[I") (List.mem_of_getElem? (i := 2) rfl)
  have hf15 := hts (.fieldLink RX2 15 "PlumbLine$City" "figure" "[I") (List.mem_of_getElem? (i := 3) rfl)
  have hiX2 : ∀ w ∈ u_ws RX2 TX2 12, w ∈ wsX2_discountOf := fun w h => List.mem_cons_of_mem _ (List.mem_append_right _ h)
  replace hl : lv_has ls 2 [(0, .ref (aC 0)), (1, .int x1)] := hl
  have h := hsem
  clear hsem
  rw [S_City_discountOf] at h
  refine lv_aload_n hx hb dX2_discountOf_0 rfl (lv_at hl 0 rfl) ?_
  refine va_get (D := D) (ci := 2) (v := .ref (aK 8)) (C := RX2) (T := TX2) (N := 12) hx hb hts hiX2 hown hK hP 0 rfl rfl 10 (by decide) hf24 (fun _ z => z) rfl dX2_discountOf_1 ?_
  refine lv_aload_n hx hb dX2_discountOf_4 rfl (lv_at hl 0 rfl) ?_
  refine va_get (D := D) (ci := 2) (v := .ref (aC 1)) (C := RX2) (T := TX2) (N := 12) hx hb hts hiX2 hown hK hP 0 rfl rfl 0 (by decide) hf9 (fun _ z => z) rfl dX2_discountOf_5 ?_
  refine lv_iload_n hx hb dX2_discountOf_8 rfl (lv_at hl 1 rfl) ?_
  obtain ⟨g9, h⟩ := k_guard h
  refine va_iald hx hb hK hP 1 0 rfl rfl g9 dX2_discountOf_9 ?_
  obtain ⟨g10, h⟩ := k_guard h
  refine k_aldR (f := aK) hx hb hK hP 4 1 rfl rfl g10 dX2_discountOf_10 ?_
  refine lv_aload_n hx hb dX2_discountOf_11 rfl (lv_at hl 0 rfl) ?_
  refine lv_iload_n hx hb dX2_discountOf_12 rfl (lv_at hl 1 rfl) ?_
  obtain ⟨r13, g13, h⟩ := k_bind h
  refine k_callV (As := [.int x1]) (rest := [.ref (aK (c_kind x1.toNatClampNeg).toNatClampNeg)]) (st1 := [.int r13, .ref (aK (c_kind x1.toNatClampNeg).toNatClampNeg)]) (ws2 := (Wd12 cI cM aC aK c_men c_propped c_place c_swings c_crashes c_day c_crashedToday c_kind c_figure c_lean)) hx hb hml hown hts hK hN hA hP hD hS hl (c_City_far l D cI cM cS cJ aC aK s.heap.size x1 c_men c_propped c_place c_swings c_crashes c_day c_crashedToday c_lean g13) gX2_discountOf_X2_far rfl kdV_X2_far 0 2 rfl rfl rfl [0, 3] ⟨rfl, rfl⟩ ⟨Nat.le_of_ble_eq_true rfl, Nat.le_of_ble_eq_true rfl⟩ ⟨Nat.zero_le _, Nat.zero_le _⟩ rfl rfl (by decide +kernel) rfl rfl rfl (Nat.le_of_ble_eq_true rfl) dX2_discountOf_13 rfl (fun H locs hP hD hS => ?_)
  refine lv_aload_n hx hb dX2_discountOf_16 rfl (lv_at hl 0 rfl) ?_
  refine va_get (D := D) (ci := 2) (v := .ref (aC 2)) (C := RX2) (T := TX2) (N := 12) hx hb hts hiX2 hown hK hP 0 rfl rfl 1 (by decide) hf15 (fun _ z => z) rfl dX2_discountOf_17 ?_
  refine lv_iload_n hx hb dX2_discountOf_20 rfl (lv_at hl 1 rfl) ?_
  refine va_iald hx hb hK hP 2 0 rfl rfl g9 dX2_discountOf_21 ?_
  have V22 : ∀ (H : Heap) (locs : List Loc), va_P D vwCl (Wd12 cI cM aC aK c_men c_propped c_place c_swings c_crashes c_day c_crashedToday c_kind c_figure c_lean) H → va_D A (Wd12 cI cM aC aK c_men c_propped c_place c_swings c_crashes c_day c_crashedToday c_kind c_figure c_lean) → va_S A s.heap H locs → W p l e rm_X2_discountOf s m ([.ref (aC 0), .int x1] : List Value).toArray below meth c H locs 0 0 Q (F0 m 25 ls [.int (V_discountAt (c_kind x1.toNatClampNeg).toNatClampNeg r13 (c_figure x1.toNatClampNeg))]) := by
    intro H locs hP hD hS
    cases h
    exact hret _ _ _ _ hP hS dX2_discountOf_25
  generalize hk22 : (c_kind x1.toNatClampNeg).toNatClampNeg = k22 at V22 ⊢
  have hb22 : k22 < 8 := by rw [← hk22]; exact Nat.not_le.mp (fun z => g10 (Or.inr z))
  rcases k_8 hb22 with e | e | e | e | e | e | e | e <;> subst e
  · exact k_callV (As := [.int r13, .int (c_figure x1.toNatClampNeg)]) (rest := []) (st1 := [.int (S_Man_discountAt r13 (c_figure x1.toNatClampNeg))]) hx hb hml hown hts hK hN hA hP hD hS hl (c_Man_discountAt l D cI cM cS cJ (aK 0) 4 H.size r13 (c_figure x1.toNatClampNeg) rfl) gX2_discountOf_X4_discountAt rfl kdV_X4_discountAt 0 4 rfl rfl rfl [5] ⟨rfl, rfl⟩ ⟨Nat.le_of_ble_eq_true rfl, Nat.le_of_ble_eq_true rfl⟩ ⟨Nat.zero_le _, Nat.zero_le _⟩ rfl rfl (by decide +kernel) rfl rfl rfl (Nat.le_of_ble_eq_true rfl) dX2_discountOf_22 rfl V22
  · exact k_callU (As := [.int r13, .int (c_figure x1.toNatClampNeg)]) (rest := []) (st1 := [.int (S_Banker_discountAt r13 (c_figure x1.toNatClampNeg))]) hx hb hml hown hts hK hN hA hP hD hS hl (c_Banker_discountAt l D cI cM cS cJ (aK 1) 0 H.size r13 (c_figure x1.toNatClampNeg) rfl) (va_cwO 2 hts gX2_discountOf_X0_discountAt_u162X0 rfl rfl rfl (List.mem_of_getElem? (i := 21) rfl) kdM_discountAt ⟨Nat.le_of_ble_eq_true rfl, Nat.le_of_ble_eq_true rfl⟩) 0 0 rfl rfl rfl [6] ⟨Nat.zero_le _, Nat.zero_le _⟩ rfl rfl (by decide +kernel) rfl rfl rfl (Nat.le_of_ble_eq_true rfl) dX2_discountOf_22 rfl V22
  · exact k_callU (As := [.int r13, .int (c_figure x1.toNatClampNeg)]) (rest := []) (st1 := [.int (S_Quaker_discountAt r13 (c_figure x1.toNatClampNeg))]) hx hb hml hown hts hK hN hA hP hD hS hl (c_Quaker_discountAt l D cI cM cS cJ (aK 2) 7 H.size r13 (c_figure x1.toNatClampNeg) rfl) (va_cwO 2 hts gX2_discountOf_X7_discountAt_u162X7 rfl rfl rfl (List.mem_of_getElem? (i := 21) rfl) kdM_discountAt ⟨Nat.le_of_ble_eq_true rfl, Nat.le_of_ble_eq_true rfl⟩) 0 7 rfl rfl rfl [7] ⟨Nat.zero_le _, Nat.zero_le _⟩ rfl rfl (by decide +kernel) rfl rfl rfl (Nat.le_of_ble_eq_true rfl) dX2_discountOf_22 rfl V22
  · exact k_callU (As := [.int r13, .int (c_figure x1.toNatClampNeg)]) (rest := []) (st1 := [.int (S_Man_discountAt r13 (c_figure x1.toNatClampNeg))]) hx hb hml hown hts hK hN hA hP hD hS hl (c_Man_discountAt l D cI cM cS cJ (aK 3) 3 H.size r13 (c_figure x1.toNatClampNeg) rfl) (va_cwU 2 hts gX2_discountOf_X4_discountAt_u162X3 rfl rfl rfl rfl kdM_discountAt ⟨Nat.le_of_ble_eq_true rfl, Nat.le_of_ble_eq_true rfl⟩) 0 3 rfl rfl rfl [8] ⟨Nat.zero_le _, Nat.zero_le _⟩ rfl rfl (by decide +kernel) rfl rfl rfl (Nat.le_of_ble_eq_true rfl) dX2_discountOf_22 rfl V22
  · exact k_callU (As := [.int r13, .int (c_figure x1.toNatClampNeg)]) (rest := []) (st1 := [.int (S_Broker_discountAt r13 (c_figure x1.toNatClampNeg))]) hx hb hml hown hts hK hN hA hP hD hS hl (c_Broker_discountAt l D cI cM cS cJ (aK 4) 1 H.size r13 (c_figure x1.toNatClampNeg) rfl rfl) (va_cwO 2 hts gX2_discountOf_X1_discountAt_u162X1 rfl rfl rfl (List.mem_of_getElem? (i := 21) rfl) kdM_discountAt ⟨Nat.le_of_ble_eq_true rfl, Nat.le_of_ble_eq_true rfl⟩) 0 1 rfl rfl rfl [9] ⟨Nat.zero_le _, Nat.zero_le _⟩ rfl rfl (by decide +kernel) rfl rfl rfl (Nat.le_of_ble_eq_true rfl) dX2_discountOf_22 rfl V22
  · exact k_callU (As := [.int r13, .int (c_figure x1.toNatClampNeg)]) (rest := []) (st1 := [.int (S_Scrubber_discountAt r13 (c_figure x1.toNatClampNeg))]) hx hb hml hown hts hK hN hA hP hD hS hl (c_Scrubber_discountAt l D cI cM cS cJ (aK 5) 8 H.size r13 (c_figure x1.toNatClampNeg) rfl) (va_cwO 2 hts gX2_discountOf_X8_discountAt_u162X8 rfl rfl rfl (List.mem_of_getElem? (i := 21) rfl) kdM_discountAt ⟨Nat.le_of_ble_eq_true rfl, Nat.le_of_ble_eq_true rfl⟩) 0 8 rfl rfl rfl [10] ⟨Nat.zero_le _, Nat.zero_le _⟩ rfl rfl (by decide +kernel) rfl rfl rfl (Nat.le_of_ble_eq_true rfl) dX2_discountOf_22 rfl V22
  · exact k_callU (As := [.int r13, .int (c_figure x1.toNatClampNeg)]) (rest := []) (st1 := [.int (S_Swindler_discountAt r13 (c_figure x1.toNatClampNeg))]) hx hb hml hown hts hK hN hA hP hD hS hl (c_Swindler_discountAt l D cI cM cS cJ (aK 6) 10 H.size r13 (c_figure x1.toNatClampNeg) rfl) (va_cwO 2 hts gX2_discountOf_X10_discountAt_u162X10 rfl rfl rfl (List.mem_of_getElem? (i := 21) rfl) kdM_discountAt ⟨Nat.le_of_ble_eq_true rfl, Nat.le_of_ble_eq_true rfl⟩) 0 10 rfl rfl rfl [11] ⟨Nat.zero_le _, Nat.zero_le _⟩ rfl rfl (by decide +kernel) rfl rfl rfl (Nat.le_of_ble_eq_true rfl) dX2_discountOf_22 rfl V22
  · exact k_callU (As := [.int r13, .int (c_figure x1.toNatClampNeg)]) (rest := []) (st1 := [.int (S_Partner_discountAt r13 (c_figure x1.toNatClampNeg))]) hx hb hml hown hts hK hN hA hP hD hS hl (c_Partner_discountAt l D cI cM cS cJ (aK 7) 6 H.size r13 (c_figure x1.toNatClampNeg) rfl rfl) (va_cwO 2 hts gX2_discountOf_X6_discountAt_u162X6 rfl rfl rfl (List.mem_of_getElem? (i := 21) rfl) kdM_discountAt ⟨Nat.le_of_ble_eq_true rfl, Nat.le_of_ble_eq_true rfl⟩) 0 6 rfl rfl rfl [12] ⟨Nat.zero_le _, Nat.zero_le _⟩ rfl rfl (by decide +kernel) rfl rfl rfl (Nat.le_of_ble_eq_true rfl) dX2_discountOf_22 rfl V22
theorem kdV_X2_discountOf : yX2_discountOf.cls = RX2 ∧ yX2_discountOf.cls ≠ "java/lang/invoke/MethodHandle" ∧ yX2_discountOf.cls ≠ "java/lang/invoke/VarHandle" ∧ (parseMethodDescriptor yX2_discountOf.desc).map (fun d => d.parameters.length) = some 1 := by decide +kernel
abbrev rm_X2_discountOfAll : Room := { frames := 3, cells := 0, slots := 0, locals := 82 }
set_option maxHeartbeats 4000000 in
set_option maxRecDepth 100000 in
theorem c_City_discountOfAll (l : Launch) (D : va_G) (cI cM cS cJ : ClassId) (aC : Nat → Nat) (aK : Nat → Nat) (sz : Nat) (c_men : Int32) (c_propped : Int32) (c_place : Int32) (c_swings : Int32) (c_crashes : Int32) (c_day : Int32) (c_crashedToday : Int32) (c_kind : Nat → Int32) (c_figure : Nat → Int32) (c_lean : Nat → Int32) {o : (Int32)} (hsem : S_City_discountOfAll c_men c_kind c_figure c_lean = some o) : kMet l yX2_discountOfAll wsX2_discountOfAll rm_X2_discountOfAll [.ref (aC 0)] D (kT cI cM cS cJ) (Wd12 cI cM aC aK c_men c_propped c_place c_swings c_crashes c_day c_crashedToday c_kind c_figure c_lean) sz (some (.int o)) (Wd12 cI cM aC aK c_men c_propped c_place c_swings c_crashes c_day c_crashedToday c_kind c_figure c_lean) := by
  refine k_metI (by decide) rfl rfl (Nat.le_of_ble_eq_true rfl) ?_
  intro p e s m below meth c ls Q A hx hb hml hts hown hK hN hA hP hD hS hl hsz hnm hret
  have hown : s.vm.findClass RX2 = some m.cls := hown
  have hf34 := hts (.fieldLink RX2 34 "PlumbLine$City" "men" "I") (List.mem_of_getElem? (i := 1) rfl)
  have hiX2 : ∀ w ∈ u_ws RX2 TX2 12, w ∈ wsX2_discountOfAll := fun w h => List.mem_cons_of_mem _ (List.mem_append_right _ h)
  replace hl : lv_has ls 3 [(0, .ref (aC 0))] := hl
  have h := hsem
  clear hsem
  rw [S_City_discountOfAll] at h
  refine lv_iconst (v := 0) hx hb dX2_discountOfAll_0 (by decide) ?_
  refine lv_istore_n (lv' := [(1, .int 0), (0, .ref (aC 0))]) hx hb dX2_discountOfAll_1 rfl hl (by decide) rfl (fun ls hl => ?_)
  refine lv_iconst (v := 0) hx hb dX2_discountOfAll_2 (by decide) ?_
  have B4 : ∀ (n4 : Nat) (y1 : Int32) (y2 : Int32) (H : Heap) (locs : List Loc) (ls : Array Slot), va_P D vwCl (Wd12 cI cM aC aK c_men c_propped c_place c_swings c_crashes c_day c_crashedToday c_kind c_figure c_lean) H → va_D A (Wd12 cI cM aC aK c_men c_propped c_place c_swings c_crashes c_day c_crashedToday c_kind c_figure c_lean) → va_S A s.heap H locs → lv_has ls 3 [(0, .ref (aC 0)), (1, .int y1), (2, .int y2)] → S_City_discountOfAll_L4 c_men c_kind c_figure c_lean n4 y1 y2 = some o → W p l e rm_X2_discountOfAll s m ([.ref (aC 0)] : List Value).toArray below meth c H locs 0 0 Q (F0 m 4 ls []) := by
    intro n4
    induction n4 with
    | zero => intro y1 y2 H locs ls hP hD hS hl h; exact absurd h (by simp [S_City_discountOfAll_L4])
    | succ n4 ih4 =>
      intro y1 y2 H locs ls hP hD hS hl h
      rw [S_City_discountOfAll_L4] at h
      refine lv_iload_n hx hb dX2_discountOfAll_4 rfl (lv_at hl 2 rfl) ?_
      refine lv_aload_n hx hb dX2_discountOfAll_5 rfl (lv_at hl 0 rfl) ?_
      refine va_get (D := D) (ci := 2) (v := .int c_men) (C := RX2) (T := TX2) (N := 12) hx hb hts hiX2 hown hK hP 0 rfl rfl 3 (by decide) hf34 (fun _ z => z) rfl dX2_discountOfAll_6 ?_
      refine lv_icmp_ge (tgt := 26) hx hb dX2_discountOfAll_9 (by decide) (fun c9 => ?_) (fun c9 => ?_)
      · have h := k_pos c9 h
        refine lv_iload_n hx hb dX2_discountOfAll_26 rfl (lv_at hl 1 rfl) ?_
        cases h
        exact hret _ _ _ _ hP hS dX2_discountOfAll_27
      · have h := k_neg c9 h
        refine lv_iload_n hx hb dX2_discountOfAll_12 rfl (lv_at hl 1 rfl) ?_
        refine lv_aload_n hx hb dX2_discountOfAll_13 rfl (lv_at hl 0 rfl) ?_
        refine lv_iload_n hx hb dX2_discountOfAll_14 rfl (lv_at hl 2 rfl) ?_
        obtain ⟨r15, g15, h⟩ := k_bind h
        refine k_callV (As := [.int y2]) (rest := [.int y1]) (st1 := [.int r15, .int y1]) (ws2 := (Wd12 cI cM aC aK c_men c_propped c_place c_swings c_crashes c_day c_crashedToday c_kind c_figure c_lean)) hx hb hml hown hts hK hN hA hP hD hS hl (c_City_discountOf l D cI cM cS cJ aC aK H.size y2 c_men c_propped c_place c_swings c_crashes c_day c_crashedToday c_kind c_figure c_lean g15) gX2_discountOfAll_X2_discountOf rfl kdV_X2_discountOf 0 2 rfl rfl rfl [0, 1, 2, 3, 4, 5, 6, 7, 8, 9, 10, 11, 12] ⟨rfl, rfl⟩ ⟨Nat.le_of_ble_eq_true rfl, Nat.le_of_ble_eq_true rfl⟩ ⟨Nat.zero_le _, Nat.zero_le _⟩ rfl rfl (by decide +kernel) rfl rfl rfl (Nat.le_of_ble_eq_true rfl) dX2_discountOfAll_15 rfl (fun H locs hP hD hS => ?_)
        refine lv_iadd hx hb dX2_discountOfAll_18 ?_
        refine lv_istore_n (lv' := [(1, .int (y1 + r15)), (0, .ref (aC 0)), (2, .int y2)]) hx hb dX2_discountOfAll_19 rfl hl (by decide) rfl (fun ls hl => ?_)
        refine lv_iinc (v := (y2 + 1)) (lv' := [(2, .int (y2 + 1)), (1, .int (y1 + r15)), (0, .ref (aC 0))]) hx hb dX2_discountOfAll_20 hl (k := 2) rfl (by first | rfl | decide) (by decide) rfl (fun ls hl => ?_)
        refine lv_goto (tgt := 4) hx hb dX2_discountOfAll_23 (by decide) ?_
        exact ih4 (y1 + r15) (y2 + 1) H locs ls hP hD hS (lv_sub hl [2, 1, 0] rfl) h
  refine lv_istore_n (lv' := [(2, .int 0), (1, .int 0), (0, .ref (aC 0))]) hx hb dX2_discountOfAll_3 rfl hl (by decide) rfl (fun ls hl => ?_)
  exact B4 lfu 0 0 s.heap [] ls hP hD hS (lv_sub hl [2, 1, 0] rfl) h
abbrev rm_X2_east : Room := { frames := 0, cells := 0, slots := 0, locals := 0 }
set_option maxHeartbeats 4000000 in
set_option maxRecDepth 100000 in
theorem c_City_east (l : Launch) (D : va_G) (cI cM cS cJ : ClassId) (aC : Nat → Nat) (aK : Nat → Nat) (sz : Nat) (c_men : Int32) (c_propped : Int32) (c_place : Int32) (c_swings : Int32) (c_crashes : Int32) (c_day : Int32) (c_crashedToday : Int32) (c_lean : Nat → Int32) {o : (Int32)} (hsem : S_City_east c_men c_lean = some o) : kMet l yX2_east wsX2_east rm_X2_east [.ref (aC 0)] D (kT cI cM cS cJ) (Wd11 cI aC aK c_men c_propped c_place c_swings c_crashes c_day c_crashedToday c_lean) sz (some (.int o)) (Wd11 cI aC aK c_men c_propped c_place c_swings c_crashes c_day c_crashedToday c_lean) := by
  refine k_metI (by decide) rfl rfl (Nat.le_of_ble_eq_true rfl) ?_
  intro p e s m below meth c ls Q A hx hb hml hts hown hK hN hA hP hD hS hl hsz hnm hret
  have hown : s.vm.findClass RX2 = some m.cls := hown
  have hf34 := hts (.fieldLink RX2 34 "PlumbLine$City" "men" "I") (List.mem_of_getElem? (i := 1) rfl)
  have hf18 := hts (.fieldLink RX2 18 "PlumbLine$City" "lean" "[I") (List.mem_of_getElem? (i := 2) rfl)
  have hiX2 : ∀ w ∈ u_ws RX2 TX2 12, w ∈ wsX2_east := fun w h => List.mem_cons_of_mem _ (List.mem_append_right _ h)
  replace hl : lv_has ls 3 [(0, .ref (aC 0))] := hl
  have h := hsem
  clear hsem
  rw [S_City_east] at h
  refine lv_iconst (v := 0) hx hb dX2_east_0 (by decide) ?_
  refine lv_istore_n (lv' := [(1, .int 0), (0, .ref (aC 0))]) hx hb dX2_east_1 rfl hl (by decide) rfl (fun ls hl => ?_)
  refine lv_iconst (v := 0) hx hb dX2_east_2 (by decide) ?_
  have B4 : ∀ (n4 : Nat) (y1 : Int32) (y2 : Int32) (H : Heap) (locs : List Loc) (ls : Array Slot), va_P D vwCl (Wd11 cI aC aK c_men c_propped c_place c_swings c_crashes c_day c_crashedToday c_lean) H → va_D A (Wd11 cI aC aK c_men c_propped c_place c_swings c_crashes c_day c_crashedToday c_lean) → va_S A s.heap H locs → lv_has ls 3 [(0, .ref (aC 0)), (1, .int y1), (2, .int y2)] → S_City_east_L4 c_men c_lean n4 y1 y2 = some o → W p l e rm_X2_east s m ([.ref (aC 0)] : List Value).toArray below meth c H locs 0 0 Q (F0 m 4 ls []) := by
    intro n4
    induction n4 with
    | zero => intro y1 y2 H locs ls hP hD hS hl h; exact absurd h (by simp [S_City_east_L4])
    | succ n4 ih4 =>
      intro y1 y2 H locs ls hP hD hS hl h
      rw [S_City_east_L4] at h
      refine lv_iload_n hx hb dX2_east_4 rfl (lv_at hl 2 rfl) ?_
      refine lv_aload_n hx hb dX2_east_5 rfl (lv_at hl 0 rfl) ?_
      refine va_get (D := D) (ci := 2) (v := .int c_men) (C := RX2) (T := TX2) (N := 12) hx hb hts hiX2 hown hK hP 0 rfl rfl 3 (by decide) hf34 (fun _ z => z) rfl dX2_east_6 ?_
      refine lv_icmp_ge (tgt := 30) hx hb dX2_east_9 (by decide) (fun c9 => ?_) (fun c9 => ?_)
      · have h := k_pos c9 h
        refine lv_iload_n hx hb dX2_east_30 rfl (lv_at hl 1 rfl) ?_
        cases h
        exact hret _ _ _ _ hP hS dX2_east_31
      · have h := k_neg c9 h
        refine lv_aload_n hx hb dX2_east_12 rfl (lv_at hl 0 rfl) ?_
        refine va_get (D := D) (ci := 2) (v := .ref (aC 3)) (C := RX2) (T := TX2) (N := 12) hx hb hts hiX2 hown hK hP 0 rfl rfl 2 (by decide) hf18 (fun _ z => z) rfl dX2_east_13 ?_
        refine lv_iload_n hx hb dX2_east_16 rfl (lv_at hl 2 rfl) ?_
        obtain ⟨g17, h⟩ := k_guard h
        refine va_iald hx hb hK hP 1 0 rfl rfl g17 dX2_east_17 ?_
        refine lv_if_le (tgt := 24) hx hb dX2_east_18 (by decide) (fun c18 => ?_) (fun c18 => ?_)
        · have h := k_pos c18 h
          refine lv_iinc (v := (y2 + 1)) (lv' := [(2, .int (y2 + 1)), (0, .ref (aC 0)), (1, .int y1)]) hx hb dX2_east_24 hl (k := 2) rfl (by first | rfl | decide) (by decide) rfl (fun ls hl => ?_)
          refine lv_goto (tgt := 4) hx hb dX2_east_27 (by decide) ?_
          exact ih4 y1 (y2 + 1) H locs ls hP hD hS (lv_sub hl [1, 2, 0] rfl) h
        · have h := k_neg c18 h
          refine lv_iinc (v := (y1 + 1)) (lv' := [(1, .int (y1 + 1)), (0, .ref (aC 0)), (2, .int y2)]) hx hb dX2_east_21 hl (k := 1) rfl (by first | rfl | decide) (by decide) rfl (fun ls hl => ?_)
          refine lv_iinc (v := (y2 + 1)) (lv' := [(2, .int (y2 + 1)), (1, .int (y1 + 1)), (0, .ref (aC 0))]) hx hb dX2_east_24 hl (k := 2) rfl (by first | rfl | decide) (by decide) rfl (fun ls hl => ?_)
          refine lv_goto (tgt := 4) hx hb dX2_east_27 (by decide) ?_
          exact ih4 (y1 + 1) (y2 + 1) H locs ls hP hD hS (lv_sub hl [2, 1, 0] rfl) h
  refine lv_istore_n (lv' := [(2, .int 0), (1, .int 0), (0, .ref (aC 0))]) hx hb dX2_east_3 rfl hl (by decide) rfl (fun ls hl => ?_)
  exact B4 lfu 0 0 s.heap [] ls hP hD hS (lv_sub hl [2, 1, 0] rfl) h
abbrev rm_X2_uprightFrom : Room := { frames := 3, cells := 0, slots := 0, locals := 64 }
set_option maxHeartbeats 4000000 in
set_option maxRecDepth 100000 in
theorem c_City_uprightFrom (l : Launch) (D : va_G) (cI cM cS cJ : ClassId) (aC : Nat → Nat) (aK : Nat → Nat) (sz : Nat) (x1 : Int32) (c_men : Int32) (c_propped : Int32) (c_place : Int32) (c_swings : Int32) (c_crashes : Int32) (c_day : Int32) (c_crashedToday : Int32) (c_kind : Nat → Int32) (c_figure : Nat → Int32) (c_lean : Nat → Int32) {o : (Int32)} (hsem : S_City_uprightFrom x1 c_men c_kind c_figure c_lean = some o) : kMet l yX2_uprightFrom wsX2_uprightFrom rm_X2_uprightFrom [.ref (aC 0), .int x1] D (kT cI cM cS cJ) (Wd12 cI cM aC aK c_men c_propped c_place c_swings c_crashes c_day c_crashedToday c_kind c_figure c_lean) sz (some (.int o)) (Wd12 cI cM aC aK c_men c_propped c_place c_swings c_crashes c_day c_crashedToday c_kind c_figure c_lean) := by
  refine k_metI (by decide) rfl rfl (Nat.le_of_ble_eq_true rfl) ?_
  intro p e s m below meth c ls Q A hx hb hml hts hown hK hN hA hP hD hS hl hsz hnm hret
  have hown : s.vm.findClass RX2 = some m.cls := hown
  have hf34 := hts (.fieldLink RX2 34 "PlumbLine$City" "men" "I") (List.mem_of_getElem? (i := 1) rfl)
  have hf18 := hts (.fieldLink RX2 18 "PlumbLine$City" "lean" "[I") (List.mem_of_getElem? (i := 2) rfl)
  have hiX2 : ∀ w ∈ u_ws RX2 TX2 12, w ∈ wsX2_uprightFrom := fun w h => List.mem_cons_of_mem _ (List.mem_append_right _ h)
  replace hl : lv_has ls 4 [(0, .ref (aC 0)), (1, .int x1)] := hl
  have h := hsem
  clear hsem
  rw [S_City_uprightFrom] at h
  refine lv_iconst (v := 0) hx hb dX2_uprightFrom_0 (by decide) ?_
  refine lv_istore_n (lv' := [(2, .int 0), (0, .ref (aC 0)), (1, .int x1)]) hx hb dX2_uprightFrom_1 rfl hl (by decide) rfl (fun ls hl => ?_)
  refine lv_iconst (v := 0) hx hb dX2_uprightFrom_2 (by decide) ?_
  have B4 : ∀ (n4 : Nat) (y2 : Int32) (y3 : Int32) (H : Heap) (locs : List Loc) (ls : Array Slot), va_P D vwCl (Wd12 cI cM aC aK c_men c_propped c_place c_swings c_crashes c_day c_crashedToday c_kind c_figure c_lean) H → va_D A (Wd12 cI cM aC aK c_men c_propped c_place c_swings c_crashes c_day c_crashedToday c_kind c_figure c_lean) → va_S A s.heap H locs → lv_has ls 4 [(0, .ref (aC 0)), (1, .int x1), (2, .int y2), (3, .int y3)] → S_City_uprightFrom_L4 x1 c_men c_kind c_figure c_lean n4 y2 y3 = some o → W p l e rm_X2_uprightFrom s m ([.ref (aC 0), .int x1] : List Value).toArray below meth c H locs 0 0 Q (F0 m 4 ls []) := by
    intro n4
    induction n4 with
    | zero => intro y2 y3 H locs ls hP hD hS hl h; exact absurd h (by simp [S_City_uprightFrom_L4])
    | succ n4 ih4 =>
      intro y2 y3 H locs ls hP hD hS hl h
      rw [S_City_uprightFrom_L4] at h
      refine lv_iload_n hx hb dX2_uprightFrom_4 rfl (lv_at hl 3 rfl) ?_
      refine lv_aload_n hx hb dX2_uprightFrom_5 rfl (lv_at hl 0 rfl) ?_
      refine va_get (D := D) (ci := 2) (v := .int c_men) (C := RX2) (T := TX2) (N := 12) hx hb hts hiX2 hown hK hP 0 rfl rfl 3 (by decide) hf34 (fun _ z => z) rfl dX2_uprightFrom_6 ?_
      refine lv_icmp_ge (tgt := 50) hx hb dX2_uprightFrom_9 (by decide) (fun c9 => ?_) (fun c9 => ?_)
      · have h := k_pos c9 h
        refine lv_iload_n hx hb dX2_uprightFrom_50 rfl (lv_at hl 2 rfl) ?_
        cases h
        exact hret _ _ _ _ hP hS dX2_uprightFrom_51
      · have h := k_neg c9 h
        refine lv_iload_n hx hb dX2_uprightFrom_12 rfl (lv_at hl 3 rfl) ?_
        refine lv_iload_n hx hb dX2_uprightFrom_13 rfl (lv_at hl 1 rfl) ?_
        refine lv_icmp_eq (tgt := 44) hx hb dX2_uprightFrom_14 (by decide) (fun c14 => ?_) (fun c14 => ?_)
        · have h := k_pos c14 h
          refine lv_iinc (v := (y3 + 1)) (lv' := [(3, .int (y3 + 1)), (0, .ref (aC 0)), (1, .int x1), (2, .int y2)]) hx hb dX2_uprightFrom_44 hl (k := 3) rfl (by first | rfl | decide) (by decide) rfl (fun ls hl => ?_)
          refine lv_goto (tgt := 4) hx hb dX2_uprightFrom_47 (by decide) ?_
          exact ih4 y2 (y3 + 1) H locs ls hP hD hS (lv_sub hl [1, 2, 3, 0] rfl) h
        · have h := k_neg c14 h
          refine lv_aload_n hx hb dX2_uprightFrom_17 rfl (lv_at hl 0 rfl) ?_
          refine lv_iload_n hx hb dX2_uprightFrom_18 rfl (lv_at hl 3 rfl) ?_
          refine lv_aload_n hx hb dX2_uprightFrom_19 rfl (lv_at hl 0 rfl) ?_
          refine va_get (D := D) (ci := 2) (v := .ref (aC 3)) (C := RX2) (T := TX2) (N := 12) hx hb hts hiX2 hown hK hP 0 rfl rfl 2 (by decide) hf18 (fun _ z => z) rfl dX2_uprightFrom_20 ?_
          refine lv_iload_n hx hb dX2_uprightFrom_23 rfl (lv_at hl 3 rfl) ?_
          obtain ⟨g24, h⟩ := k_guard h
          refine va_iald hx hb hK hP 3 0 rfl rfl g24 dX2_uprightFrom_24 ?_
          refine lv_aload_n hx hb dX2_uprightFrom_25 rfl (lv_at hl 0 rfl) ?_
          refine va_get (D := D) (ci := 2) (v := .ref (aC 3)) (C := RX2) (T := TX2) (N := 12) hx hb hts hiX2 hown hK hP 0 rfl rfl 2 (by decide) hf18 (fun _ z => z) rfl dX2_uprightFrom_26 ?_
          refine lv_iload_n hx hb dX2_uprightFrom_29 rfl (lv_at hl 1 rfl) ?_
          obtain ⟨g30, h⟩ := k_guard h
          refine va_iald hx hb hK hP 3 0 rfl rfl g30 dX2_uprightFrom_30 ?_
          refine lv_isub hx hb dX2_uprightFrom_31 ?_
          refine k_mabs (own := RX2) (index := 149) hx hb (hml.trans hl.1.symm) hown (hts _ (List.mem_of_getElem? (i := 3) rfl)) (hts _ (List.mem_of_getElem? (i := 4) rfl)) (hts _ (List.mem_of_getElem? (i := 5) rfl)) (hts _ (List.mem_of_getElem? (i := 6) rfl)) (Nat.le_of_ble_eq_true rfl) (Nat.le_of_ble_eq_true rfl) (Nat.zero_le _) (Nat.zero_le _) dX2_uprightFrom_32 ?_
          obtain ⟨r35, g35, h⟩ := k_bind h
          refine k_callV (As := [.int y3, .int (jabs ((c_lean y3.toNatClampNeg) - (c_lean x1.toNatClampNeg)))]) (rest := []) (st1 := [.int r35]) (ws2 := (Wd12 cI cM aC aK c_men c_propped c_place c_swings c_crashes c_day c_crashedToday c_kind c_figure c_lean)) hx hb hml hown hts hK hN hA hP hD hS hl (c_City_isUprightAt l D cI cM cS cJ aC aK H.size y3 (jabs ((c_lean y3.toNatClampNeg) - (c_lean x1.toNatClampNeg))) c_men c_propped c_place c_swings c_crashes c_day c_crashedToday c_kind c_figure g35) gX2_uprightFrom_X2_isUprightAt rfl kdV_X2_isUprightAt 0 2 rfl rfl rfl [0, 1, 2, 4, 5, 6, 7, 8, 9, 10, 11, 12] ⟨rfl, rfl⟩ ⟨Nat.le_of_ble_eq_true rfl, Nat.le_of_ble_eq_true rfl⟩ ⟨Nat.zero_le _, Nat.zero_le _⟩ rfl rfl (by decide +kernel) rfl rfl rfl (Nat.le_of_ble_eq_true rfl) dX2_uprightFrom_35 rfl (fun H locs hP hD hS => ?_)
          refine lv_if_eq (tgt := 44) hx hb dX2_uprightFrom_38 (by decide) (fun c38 => ?_) (fun c38 => ?_)
          · have h := k_pos c38 h
            refine lv_iinc (v := (y3 + 1)) (lv' := [(3, .int (y3 + 1)), (0, .ref (aC 0)), (1, .int x1), (2, .int y2)]) hx hb dX2_uprightFrom_44 hl (k := 3) rfl (by first | rfl | decide) (by decide) rfl (fun ls hl => ?_)
            refine lv_goto (tgt := 4) hx hb dX2_uprightFrom_47 (by decide) ?_
            exact ih4 y2 (y3 + 1) H locs ls hP hD hS (lv_sub hl [1, 2, 3, 0] rfl) h
          · have h := k_neg c38 h
            refine lv_iinc (v := (y2 + 1)) (lv' := [(2, .int (y2 + 1)), (0, .ref (aC 0)), (1, .int x1), (3, .int y3)]) hx hb dX2_uprightFrom_41 hl (k := 2) rfl (by first | rfl | decide) (by decide) rfl (fun ls hl => ?_)
            refine lv_iinc (v := (y3 + 1)) (lv' := [(3, .int (y3 + 1)), (2, .int (y2 + 1)), (0, .ref (aC 0)), (1, .int x1)]) hx hb dX2_uprightFrom_44 hl (k := 3) rfl (by first | rfl | decide) (by decide) rfl (fun ls hl => ?_)
            refine lv_goto (tgt := 4) hx hb dX2_uprightFrom_47 (by decide) ?_
            exact ih4 (y2 + 1) (y3 + 1) H locs ls hP hD hS (lv_sub hl [2, 3, 1, 0] rfl) h
  refine lv_istore_n (lv' := [(3, .int 0), (2, .int 0), (0, .ref (aC 0)), (1, .int x1)]) hx hb dX2_uprightFrom_3 rfl hl (by decide) rfl (fun ls hl => ?_)
  exact B4 lfu 0 0 s.heap [] ls hP hD hS (lv_sub hl [2, 3, 1, 0] rfl) h
theorem kdV_X2_uprightFrom : yX2_uprightFrom.cls = RX2 ∧ yX2_uprightFrom.cls ≠ "java/lang/invoke/MethodHandle" ∧ yX2_uprightFrom.cls ≠ "java/lang/invoke/VarHandle" ∧ (parseMethodDescriptor yX2_uprightFrom.desc).map (fun d => d.parameters.length) = some 1 := by decide +kernel
abbrev rm_X2_rightOne : Room := { frames := 4, cells := 0, slots := 0, locals := 87 }
set_option maxHeartbeats 4000000 in
set_option maxRecDepth 100000 in
theorem c_City_rightOne (l : Launch) (D : va_G) (cI cM cS cJ : ClassId) (aC : Nat → Nat) (aK : Nat → Nat) (sz : Nat) (c_men : Int32) (c_propped : Int32) (c_place : Int32) (c_swings : Int32) (c_crashes : Int32) (c_day : Int32) (c_crashedToday : Int32) (c_kind : Nat → Int32) (c_figure : Nat → Int32) (c_lean : Nat → Int32) {o : (Int32)} (hsem : S_City_rightOne c_men c_kind c_figure c_lean = some o) : kMet l yX2_rightOne wsX2_rightOne rm_X2_rightOne [.ref (aC 0)] D (kT cI cM cS cJ) (Wd12 cI cM aC aK c_men c_propped c_place c_swings c_crashes c_day c_crashedToday c_kind c_figure c_lean) sz (some (.int o)) (Wd12 cI cM aC aK c_men c_propped c_place c_swings c_crashes c_day c_crashedToday c_kind c_figure c_lean) := by
  refine k_metI (by decide) rfl rfl (Nat.le_of_ble_eq_true rfl) ?_
  intro p e s m below meth c ls Q A hx hb hml hts hown hK hN hA hP hD hS hl hsz hnm hret
  have hown : s.vm.findClass RX2 = some m.cls := hown
  have hf34 := hts (.fieldLink RX2 34 "PlumbLine$City" "men" "I") (List.mem_of_getElem? (i := 1) rfl)
  have hiX2 : ∀ w ∈ u_ws RX2 TX2 12, w ∈ wsX2_rightOne := fun w h => List.mem_cons_of_mem _ (List.mem_append_right _ h)
  replace hl : lv_has ls 5 [(0, .ref (aC 0))] := hl
  have h := hsem
  clear hsem
  rw [S_City_rightOne] at h
  refine lv_bipush (v := (-4)) hx hb dX2_rightOne_0 (by decide) ?_
  refine lv_istore_n (lv' := [(1, .int (-4)), (0, .ref (aC 0))]) hx hb dX2_rightOne_2 rfl hl (by decide) rfl (fun ls hl => ?_)
  refine lv_iconst (v := (-1)) hx hb dX2_rightOne_3 (by decide) ?_
  refine lv_istore_n (lv' := [(2, .int (-1)), (1, .int (-4)), (0, .ref (aC 0))]) hx hb dX2_rightOne_4 rfl hl (by decide) rfl (fun ls hl => ?_)
  refine lv_iconst (v := 0) hx hb dX2_rightOne_5 (by decide) ?_
  have B7 : ∀ (n7 : Nat) (y1 : Int32) (y2 : Int32) (y3 : Int32) (H : Heap) (locs : List Loc) (ls : Array Slot), va_P D vwCl (Wd12 cI cM aC aK c_men c_propped c_place c_swings c_crashes c_day c_crashedToday c_kind c_figure c_lean) H → va_D A (Wd12 cI cM aC aK c_men c_propped c_place c_swings c_crashes c_day c_crashedToday c_kind c_figure c_lean) → va_S A s.heap H locs → lv_has ls 5 [(0, .ref (aC 0)), (1, .int y1), (2, .int y2), (3, .int y3)] → S_City_rightOne_L7 c_men c_kind c_figure c_lean n7 y1 y2 y3 = some o → W p l e rm_X2_rightOne s m ([.ref (aC 0)] : List Value).toArray below meth c H locs 0 0 Q (F0 m 7 ls []) := by
    intro n7
    induction n7 with
    | zero => intro y1 y2 y3 H locs ls hP hD hS hl h; exact absurd h (by simp [S_City_rightOne_L7])
    | succ n7 ih7 =>
      intro y1 y2 y3 H locs ls hP hD hS hl h
      rw [S_City_rightOne_L7] at h
      refine lv_iload_n hx hb dX2_rightOne_7 rfl (lv_at hl 3 rfl) ?_
      refine lv_aload_n hx hb dX2_rightOne_8 rfl (lv_at hl 0 rfl) ?_
      refine va_get (D := D) (ci := 2) (v := .int c_men) (C := RX2) (T := TX2) (N := 12) hx hb hts hiX2 hown hK hP 0 rfl rfl 3 (by decide) hf34 (fun _ z => z) rfl dX2_rightOne_9 ?_
      refine lv_icmp_ge (tgt := 39) hx hb dX2_rightOne_12 (by decide) (fun c12 => ?_) (fun c12 => ?_)
      · have h := k_pos c12 h
        refine lv_iload_n hx hb dX2_rightOne_39 rfl (lv_at hl 1 rfl) ?_
        cases h
        exact hret _ _ _ _ hP hS dX2_rightOne_40
      · have h := k_neg c12 h
        refine lv_aload_n hx hb dX2_rightOne_15 rfl (lv_at hl 0 rfl) ?_
        refine lv_iload_n hx hb dX2_rightOne_16 rfl (lv_at hl 3 rfl) ?_
        obtain ⟨r17, g17, h⟩ := k_bind h
        refine k_callV (As := [.int y3]) (rest := []) (st1 := [.int r17]) (ws2 := (Wd12 cI cM aC aK c_men c_propped c_place c_swings c_crashes c_day c_crashedToday c_kind c_figure c_lean)) hx hb hml hown hts hK hN hA hP hD hS hl (c_City_uprightFrom l D cI cM cS cJ aC aK H.size y3 c_men c_propped c_place c_swings c_crashes c_day c_crashedToday c_kind c_figure c_lean g17) gX2_rightOne_X2_uprightFrom rfl kdV_X2_uprightFrom 0 2 rfl rfl rfl [0, 1, 2, 3, 4, 5, 6, 7, 8, 9, 10, 11, 12] ⟨rfl, rfl⟩ ⟨Nat.le_of_ble_eq_true rfl, Nat.le_of_ble_eq_true rfl⟩ ⟨Nat.zero_le _, Nat.zero_le _⟩ rfl rfl (by decide +kernel) rfl rfl rfl (Nat.le_of_ble_eq_true rfl) dX2_rightOne_17 rfl (fun H locs hP hD hS => ?_)
        refine lv_istore (lv' := [(4, .int r17), (0, .ref (aC 0)), (1, .int y1), (2, .int y2), (3, .int y3)]) hx hb dX2_rightOne_20 hl (by decide) rfl (fun ls hl => ?_)
        refine lv_iload hx hb dX2_rightOne_22 (lv_at hl 0 rfl) ?_
        refine lv_iload_n hx hb dX2_rightOne_24 rfl (lv_at hl 3 rfl) ?_
        refine lv_icmp_le (tgt := 33) hx hb dX2_rightOne_25 (by decide) (fun c25 => ?_) (fun c25 => ?_)
        · have h := k_pos c25 h
          refine lv_iinc (v := (y3 + 1)) (lv' := [(3, .int (y3 + 1)), (4, .int r17), (0, .ref (aC 0)), (1, .int y1), (2, .int y2)]) hx hb dX2_rightOne_33 hl (k := 4) rfl (by first | rfl | decide) (by decide) rfl (fun ls hl => ?_)
          refine lv_goto (tgt := 7) hx hb dX2_rightOne_36 (by decide) ?_
          exact ih7 y1 y2 (y3 + 1) H locs ls hP hD hS (lv_sub hl [2, 3, 4, 0] rfl) h
        · have h := k_neg c25 h
          refine lv_iload hx hb dX2_rightOne_28 (lv_at hl 0 rfl) ?_
          refine lv_istore_n (lv' := [(2, .int r17), (4, .int r17), (0, .ref (aC 0)), (1, .int y1), (3, .int y3)]) hx hb dX2_rightOne_30 rfl hl (by decide) rfl (fun ls hl => ?_)
          refine lv_iload_n hx hb dX2_rightOne_31 rfl (lv_at hl 4 rfl) ?_
          refine lv_istore_n (lv' := [(1, .int y3), (2, .int r17), (4, .int r17), (0, .ref (aC 0)), (3, .int y3)]) hx hb dX2_rightOne_32 rfl hl (by decide) rfl (fun ls hl => ?_)
          refine lv_iinc (v := (y3 + 1)) (lv' := [(3, .int (y3 + 1)), (1, .int y3), (2, .int r17), (4, .int r17), (0, .ref (aC 0))]) hx hb dX2_rightOne_33 hl (k := 4) rfl (by first | rfl | decide) (by decide) rfl (fun ls hl => ?_)
          refine lv_goto (tgt := 7) hx hb dX2_rightOne_36 (by decide) ?_
          exact ih7 y3 r17 (y3 + 1) H locs ls hP hD hS (lv_sub hl [4, 1, 2, 0] rfl) h
  refine lv_istore_n (lv' := [(3, .int 0), (2, .int (-1)), (1, .int (-4)), (0, .ref (aC 0))]) hx hb dX2_rightOne_6 rfl hl (by decide) rfl (fun ls hl => ?_)
  exact B7 lfu (-4) (-1) 0 s.heap [] ls hP hD hS (lv_sub hl [3, 2, 1, 0] rfl) h
abbrev Wd15 (cI : ClassId) (aC : Nat → Nat) (aK : Nat → Nat) (c_men : Int32) (c_propped : Int32) (c_place : Int32) (c_swings : Int32) (c_crashes : Int32) (c_day : Int32) (c_crashedToday : Int32) (c_lean : Nat → Int32) (c_seated : Nat → Int32) : va_W := [((aC 0), .inr (2, [.ref (aC 1), .ref (aC 2), .ref (aC 3), .int c_men, .int c_propped, .int c_place, .int c_swings, .int c_crashes, .int c_day, .int c_crashedToday, .ref (aK 8), .ref (aC 4)])), ((aC 3), .inl (cI, 8, .inl c_lean)), ((aC 4), .inl (cI, 8, .inl c_seated))]
abbrev rm_X2_walls : Room := { frames := 1, cells := 0, slots := 0, locals := 40 }
set_option maxHeartbeats 4000000 in
set_option maxRecDepth 100000 in
theorem c_City_walls (l : Launch) (D : va_G) (cI cM cS cJ : ClassId) (aC : Nat → Nat) (aK : Nat → Nat) (sz : Nat) (c_men : Int32) (c_propped : Int32) (c_place : Int32) (c_swings : Int32) (c_crashes : Int32) (c_day : Int32) (c_crashedToday : Int32) (c_lean : Nat → Int32) (c_seated : Nat → Int32) {o : (Int32) × (Nat → Int32)} (hsem : S_City_walls c_men c_lean c_seated = some o) : kMet l yX2_walls wsX2_walls rm_X2_walls [.ref (aC 0)] D (kT cI cM cS cJ) (Wd15 cI aC aK c_men c_propped c_place c_swings c_crashes c_day c_crashedToday c_lean c_seated) sz (some (.int o.1)) (Wd15 cI aC aK c_men c_propped c_place c_swings c_crashes c_day c_crashedToday c_lean o.2) := by
  refine k_metI (by decide) rfl rfl (Nat.le_of_ble_eq_true rfl) ?_
  intro p e s m below meth c ls Q A hx hb hml hts hown hK hN hA hP hD hS hl hsz hnm hret
  have hown : s.vm.findClass RX2 = some m.cls := hown
  have hf34 := hts (.fieldLink RX2 34 "PlumbLine$City" "men" "I") (List.mem_of_getElem? (i := 1) rfl)
  have hf21 := hts (.fieldLink RX2 21 "PlumbLine$City" "seated" "[I") (List.mem_of_getElem? (i := 2) rfl)
  have hf18 := hts (.fieldLink RX2 18 "PlumbLine$City" "lean" "[I") (List.mem_of_getElem? (i := 3) rfl)
  have hiX2 : ∀ w ∈ u_ws RX2 TX2 12, w ∈ wsX2_walls := fun w h => List.mem_cons_of_mem _ (List.mem_append_right _ h)
  replace hl : lv_has ls 4 [(0, .ref (aC 0))] := hl
  have h := hsem
  clear hsem
  rw [S_City_walls] at h
  refine lv_bipush (v := (-4)) hx hb dX2_walls_0 (by decide) ?_
  refine lv_istore_n (lv' := [(1, .int (-4)), (0, .ref (aC 0))]) hx hb dX2_walls_2 rfl hl (by decide) rfl (fun ls hl => ?_)
  refine lv_iconst (v := 0) hx hb dX2_walls_3 (by decide) ?_
  have B5 : ∀ (n5 : Nat) (y1 : Int32) (y2 : Int32) (c_seated : Nat → Int32) (H : Heap) (locs : List Loc) (ls : Array Slot), va_P D vwCl (Wd15 cI aC aK c_men c_propped c_place c_swings c_crashes c_day c_crashedToday c_lean c_seated) H → va_D A (Wd15 cI aC aK c_men c_propped c_place c_swings c_crashes c_day c_crashedToday c_lean c_seated) → va_S A s.heap H locs → lv_has ls 4 [(0, .ref (aC 0)), (1, .int y1), (2, .int y2)] → S_City_walls_L5 c_men c_lean n5 y1 y2 c_seated = some o → W p l e rm_X2_walls s m ([.ref (aC 0)] : List Value).toArray below meth c H locs 0 0 Q (F0 m 5 ls []) := by
    intro n5
    induction n5 with
    | zero => intro y1 y2 c_seated H locs ls hP hD hS hl h; exact absurd h (by simp [S_City_walls_L5])
    | succ n5 ih5 =>
      intro y1 y2 c_seated H locs ls hP hD hS hl h
      rw [S_City_walls_L5] at h
      refine lv_iload_n hx hb dX2_walls_5 rfl (lv_at hl 2 rfl) ?_
      refine lv_aload_n hx hb dX2_walls_6 rfl (lv_at hl 0 rfl) ?_
      refine va_get (D := D) (ci := 2) (v := .int c_men) (C := RX2) (T := TX2) (N := 12) hx hb hts hiX2 hown hK hP 0 rfl rfl 3 (by decide) hf34 (fun _ z => z) rfl dX2_walls_7 ?_
      refine lv_icmp_ge (tgt := 88) hx hb dX2_walls_10 (by decide) (fun c10 => ?_) (fun c10 => ?_)
      · have h := k_pos c10 h
        refine lv_iload_n hx hb dX2_walls_88 rfl (lv_at hl 1 rfl) ?_
        cases h
        exact hret _ _ _ _ hP hS dX2_walls_89
      · have h := k_neg c10 h
        refine lv_aload_n hx hb dX2_walls_13 rfl (lv_at hl 0 rfl) ?_
        refine va_get (D := D) (ci := 2) (v := .ref (aC 4)) (C := RX2) (T := TX2) (N := 12) hx hb hts hiX2 hown hK hP 0 rfl rfl 11 (by decide) hf21 (fun _ z => z) rfl dX2_walls_14 ?_
        refine lv_iload_n hx hb dX2_walls_17 rfl (lv_at hl 2 rfl) ?_
        refine lv_iconst (v := 1) hx hb dX2_walls_18 (by decide) ?_
        obtain ⟨g19, h⟩ := k_guard h
        refine va_iast hx hb hK hP hD hS 2 0 rfl rfl g19 dX2_walls_19 (fun H locs hP hD hS => ?_)
        replace hP : va_P D vwCl (Wd15 cI aC aK c_men c_propped c_place c_swings c_crashes c_day c_crashedToday c_lean (upd c_seated y2.toNatClampNeg 1)) H := hP
        replace hD : va_D A (Wd15 cI aC aK c_men c_propped c_place c_swings c_crashes c_day c_crashedToday c_lean (upd c_seated y2.toNatClampNeg 1)) := hD
        refine lv_iconst (v := 0) hx hb dX2_walls_20 (by decide) ?_
        have B22 : ∀ (y1 : Int32) (y2 : Int32) (n22 : Nat) (y3 : Int32) (c_seated : Nat → Int32) (H : Heap) (locs : List Loc) (ls : Array Slot), va_P D vwCl (Wd15 cI aC aK c_men c_propped c_place c_swings c_crashes c_day c_crashedToday c_lean c_seated) H → va_D A (Wd15 cI aC aK c_men c_propped c_place c_swings c_crashes c_day c_crashedToday c_lean c_seated) → va_S A s.heap H locs → lv_has ls 4 [(0, .ref (aC 0)), (1, .int y1), (2, .int y2), (3, .int y3)] → S_City_walls_L22 (S_City_walls_L5 c_men c_lean n5) y1 y2 c_lean n22 y3 c_seated = some o → W p l e rm_X2_walls s m ([.ref (aC 0)] : List Value).toArray below meth c H locs 0 0 Q (F0 m 22 ls []) := by
          intro y1 y2
          intro n22
          induction n22 with
          | zero => intro y3 c_seated H locs ls hP hD hS hl h; exact absurd h (by simp [S_City_walls_L22])
          | succ n22 ih22 =>
            intro y3 c_seated H locs ls hP hD hS hl h
            rw [S_City_walls_L22] at h
            refine lv_iload_n hx hb dX2_walls_22 rfl (lv_at hl 3 rfl) ?_
            refine lv_iload_n hx hb dX2_walls_23 rfl (lv_at hl 2 rfl) ?_
            refine lv_icmp_ge (tgt := 71) hx hb dX2_walls_24 (by decide) (fun c24 => ?_) (fun c24 => ?_)
            · have h := k_pos c24 h
              refine lv_iload_n hx hb dX2_walls_71 rfl (lv_at hl 1 rfl) ?_
              refine lv_aload_n hx hb dX2_walls_72 rfl (lv_at hl 0 rfl) ?_
              refine va_get (D := D) (ci := 2) (v := .ref (aC 4)) (C := RX2) (T := TX2) (N := 12) hx hb hts hiX2 hown hK hP 0 rfl rfl 11 (by decide) hf21 (fun _ z => z) rfl dX2_walls_73 ?_
              refine lv_iload_n hx hb dX2_walls_76 rfl (lv_at hl 2 rfl) ?_
              obtain ⟨g77, h⟩ := k_guard h
              refine va_iald hx hb hK hP 2 0 rfl rfl g77 dX2_walls_77 ?_
              refine k_mmax (own := RX2) (index := 125) hx hb (hml.trans hl.1.symm) hown (hts _ (List.mem_of_getElem? (i := 4) rfl)) (hts _ (List.mem_of_getElem? (i := 5) rfl)) (hts _ (List.mem_of_getElem? (i := 6) rfl)) (hts _ (List.mem_of_getElem? (i := 7) rfl)) (Nat.le_of_ble_eq_true rfl) (Nat.le_of_ble_eq_true rfl) (Nat.zero_le _) (Nat.zero_le _) dX2_walls_78 ?_
              refine lv_istore_n (lv' := [(1, .int (jmax y1 (c_seated y2.toNatClampNeg))), (0, .ref (aC 0)), (2, .int y2), (3, .int y3)]) hx hb dX2_walls_81 rfl hl (by decide) rfl (fun ls hl => ?_)
              refine lv_iinc (v := (y2 + 1)) (lv' := [(2, .int (y2 + 1)), (1, .int (jmax y1 (c_seated y2.toNatClampNeg))), (0, .ref (aC 0)), (3, .int y3)]) hx hb dX2_walls_82 hl (k := 2) rfl (by first | rfl | decide) (by decide) rfl (fun ls hl => ?_)
              refine lv_goto (tgt := 5) hx hb dX2_walls_85 (by decide) ?_
              exact ih5 (jmax y1 (c_seated y2.toNatClampNeg)) (y2 + 1) c_seated H locs ls hP hD hS (lv_sub hl [2, 1, 0] rfl) h
            · have h := k_neg c24 h
              refine lv_aload_n hx hb dX2_walls_27 rfl (lv_at hl 0 rfl) ?_
              refine va_get (D := D) (ci := 2) (v := .ref (aC 3)) (C := RX2) (T := TX2) (N := 12) hx hb hts hiX2 hown hK hP 0 rfl rfl 2 (by decide) hf18 (fun _ z => z) rfl dX2_walls_28 ?_
              refine lv_iload_n hx hb dX2_walls_31 rfl (lv_at hl 3 rfl) ?_
              obtain ⟨g32, h⟩ := k_guard h
              refine va_iald hx hb hK hP 1 0 rfl rfl g32 dX2_walls_32 ?_
              refine lv_aload_n hx hb dX2_walls_33 rfl (lv_at hl 0 rfl) ?_
              refine va_get (D := D) (ci := 2) (v := .ref (aC 3)) (C := RX2) (T := TX2) (N := 12) hx hb hts hiX2 hown hK hP 0 rfl rfl 2 (by decide) hf18 (fun _ z => z) rfl dX2_walls_34 ?_
              refine lv_iload_n hx hb dX2_walls_37 rfl (lv_at hl 2 rfl) ?_
              obtain ⟨g38, h⟩ := k_guard h
              refine va_iald hx hb hK hP 1 0 rfl rfl g38 dX2_walls_38 ?_
              refine lv_icmp_gt (tgt := 65) hx hb dX2_walls_39 (by decide) (fun c39 => ?_) (fun c39 => ?_)
              · have h := k_pos c39 h
                refine lv_iinc (v := (y3 + 1)) (lv' := [(3, .int (y3 + 1)), (0, .ref (aC 0)), (1, .int y1), (2, .int y2)]) hx hb dX2_walls_65 hl (k := 3) rfl (by first | rfl | decide) (by decide) rfl (fun ls hl => ?_)
                refine lv_goto (tgt := 22) hx hb dX2_walls_68 (by decide) ?_
                exact ih22 (y3 + 1) c_seated H locs ls hP hD hS (lv_sub hl [1, 2, 3, 0] rfl) h
              · have h := k_neg c39 h
                refine lv_aload_n hx hb dX2_walls_42 rfl (lv_at hl 0 rfl) ?_
                refine va_get (D := D) (ci := 2) (v := .ref (aC 4)) (C := RX2) (T := TX2) (N := 12) hx hb hts hiX2 hown hK hP 0 rfl rfl 11 (by decide) hf21 (fun _ z => z) rfl dX2_walls_43 ?_
                refine lv_iload_n hx hb dX2_walls_46 rfl (lv_at hl 2 rfl) ?_
                refine lv_aload_n hx hb dX2_walls_47 rfl (lv_at hl 0 rfl) ?_
                refine va_get (D := D) (ci := 2) (v := .ref (aC 4)) (C := RX2) (T := TX2) (N := 12) hx hb hts hiX2 hown hK hP 0 rfl rfl 11 (by decide) hf21 (fun _ z => z) rfl dX2_walls_48 ?_
                refine lv_iload_n hx hb dX2_walls_51 rfl (lv_at hl 2 rfl) ?_
                refine va_iald hx hb hK hP 2 0 rfl rfl g38 dX2_walls_52 ?_
                refine lv_aload_n hx hb dX2_walls_53 rfl (lv_at hl 0 rfl) ?_
                refine va_get (D := D) (ci := 2) (v := .ref (aC 4)) (C := RX2) (T := TX2) (N := 12) hx hb hts hiX2 hown hK hP 0 rfl rfl 11 (by decide) hf21 (fun _ z => z) rfl dX2_walls_54 ?_
                refine lv_iload_n hx hb dX2_walls_57 rfl (lv_at hl 3 rfl) ?_
                refine va_iald hx hb hK hP 2 0 rfl rfl g32 dX2_walls_58 ?_
                refine lv_iconst (v := 1) hx hb dX2_walls_59 (by decide) ?_
                refine lv_iadd hx hb dX2_walls_60 ?_
                refine k_mmax (own := RX2) (index := 125) hx hb (hml.trans hl.1.symm) hown (hts _ (List.mem_of_getElem? (i := 4) rfl)) (hts _ (List.mem_of_getElem? (i := 5) rfl)) (hts _ (List.mem_of_getElem? (i := 6) rfl)) (hts _ (List.mem_of_getElem? (i := 7) rfl)) (Nat.le_of_ble_eq_true rfl) (Nat.le_of_ble_eq_true rfl) (Nat.zero_le _) (Nat.zero_le _) dX2_walls_61 ?_
                refine va_iast hx hb hK hP hD hS 2 0 rfl rfl g38 dX2_walls_64 (fun H locs hP hD hS => ?_)
                replace hP : va_P D vwCl (Wd15 cI aC aK c_men c_propped c_place c_swings c_crashes c_day c_crashedToday c_lean (upd c_seated y2.toNatClampNeg (jmax (c_seated y2.toNatClampNeg) ((c_seated y3.toNatClampNeg) + 1)))) H := hP
                replace hD : va_D A (Wd15 cI aC aK c_men c_propped c_place c_swings c_crashes c_day c_crashedToday c_lean (upd c_seated y2.toNatClampNeg (jmax (c_seated y2.toNatClampNeg) ((c_seated y3.toNatClampNeg) + 1)))) := hD
                refine lv_iinc (v := (y3 + 1)) (lv' := [(3, .int (y3 + 1)), (0, .ref (aC 0)), (1, .int y1), (2, .int y2)]) hx hb dX2_walls_65 hl (k := 3) rfl (by first | rfl | decide) (by decide) rfl (fun ls hl => ?_)
                refine lv_goto (tgt := 22) hx hb dX2_walls_68 (by decide) ?_
                exact ih22 (y3 + 1) (upd c_seated y2.toNatClampNeg (jmax (c_seated y2.toNatClampNeg) ((c_seated y3.toNatClampNeg) + 1))) H locs ls hP hD hS (lv_sub hl [1, 2, 3, 0] rfl) h
        refine lv_istore_n (lv' := [(3, .int 0), (0, .ref (aC 0)), (1, .int y1), (2, .int y2)]) hx hb dX2_walls_21 rfl hl (by decide) rfl (fun ls hl => ?_)
        exact B22 y1 y2 lfu 0 (upd c_seated y2.toNatClampNeg 1) H locs ls hP hD hS (lv_sub hl [1, 2, 3, 0] rfl) h
  refine lv_istore_n (lv' := [(2, .int 0), (1, .int (-4)), (0, .ref (aC 0))]) hx hb dX2_walls_4 rfl hl (by decide) rfl (fun ls hl => ?_)
  exact B5 lfu (-4) 0 c_seated s.heap [] ls hP hD hS (lv_sub hl [2, 1, 0] rfl) h
abbrev rm_X2_sumOf : Room := { frames := 0, cells := 0, slots := 0, locals := 0 }
set_option maxHeartbeats 4000000 in
set_option maxRecDepth 100000 in
theorem c_City_sumOf (l : Launch) (D : va_G) (cI cM cS cJ : ClassId) (aC : Nat → Nat) (aK : Nat → Nat) (sz : Nat) (x1 : Int32) (c_men : Int32) (c_propped : Int32) (c_place : Int32) (c_swings : Int32) (c_crashes : Int32) (c_day : Int32) (c_crashedToday : Int32) (c_lean : Nat → Int32) {o : (Int32)} (hsem : S_City_sumOf x1 c_men c_lean = some o) : kMet l yX2_sumOf wsX2_sumOf rm_X2_sumOf [.ref (aC 0), .int x1] D (kT cI cM cS cJ) (Wd11 cI aC aK c_men c_propped c_place c_swings c_crashes c_day c_crashedToday c_lean) sz (some (.int o)) (Wd11 cI aC aK c_men c_propped c_place c_swings c_crashes c_day c_crashedToday c_lean) := by
  refine k_metI (by decide) rfl rfl (Nat.le_of_ble_eq_true rfl) ?_
  intro p e s m below meth c ls Q A hx hb hml hts hown hK hN hA hP hD hS hl hsz hnm hret
  have hown : s.vm.findClass RX2 = some m.cls := hown
  have hf34 := hts (.fieldLink RX2 34 "PlumbLine$City" "men" "I") (List.mem_of_getElem? (i := 1) rfl)
  have hf18 := hts (.fieldLink RX2 18 "PlumbLine$City" "lean" "[I") (List.mem_of_getElem? (i := 2) rfl)
  have hiX2 : ∀ w ∈ u_ws RX2 TX2 12, w ∈ wsX2_sumOf := fun w h => List.mem_cons_of_mem _ (List.mem_append_right _ h)
  replace hl : lv_has ls 4 [(0, .ref (aC 0)), (1, .int x1)] := hl
  have h := hsem
  clear hsem
  rw [S_City_sumOf] at h
  refine lv_iconst (v := 0) hx hb dX2_sumOf_0 (by decide) ?_
  refine lv_istore_n (lv' := [(2, .int 0), (0, .ref (aC 0)), (1, .int x1)]) hx hb dX2_sumOf_1 rfl hl (by decide) rfl (fun ls hl => ?_)
  refine lv_iconst (v := 0) hx hb dX2_sumOf_2 (by decide) ?_
  have B4 : ∀ (n4 : Nat) (y2 : Int32) (y3 : Int32) (H : Heap) (locs : List Loc) (ls : Array Slot), va_P D vwCl (Wd11 cI aC aK c_men c_propped c_place c_swings c_crashes c_day c_crashedToday c_lean) H → va_D A (Wd11 cI aC aK c_men c_propped c_place c_swings c_crashes c_day c_crashedToday c_lean) → va_S A s.heap H locs → lv_has ls 4 [(0, .ref (aC 0)), (1, .int x1), (2, .int y2), (3, .int y3)] → S_City_sumOf_L4 x1 c_men c_lean n4 y2 y3 = some o → W p l e rm_X2_sumOf s m ([.ref (aC 0), .int x1] : List Value).toArray below meth c H locs 0 0 Q (F0 m 4 ls []) := by
    intro n4
    induction n4 with
    | zero => intro y2 y3 H locs ls hP hD hS hl h; exact absurd h (by simp [S_City_sumOf_L4])
    | succ n4 ih4 =>
      intro y2 y3 H locs ls hP hD hS hl h
      rw [S_City_sumOf_L4] at h
      refine lv_iload_n hx hb dX2_sumOf_4 rfl (lv_at hl 3 rfl) ?_
      refine lv_aload_n hx hb dX2_sumOf_5 rfl (lv_at hl 0 rfl) ?_
      refine va_get (D := D) (ci := 2) (v := .int c_men) (C := RX2) (T := TX2) (N := 12) hx hb hts hiX2 hown hK hP 0 rfl rfl 3 (by decide) hf34 (fun _ z => z) rfl dX2_sumOf_6 ?_
      refine lv_icmp_ge (tgt := 35) hx hb dX2_sumOf_9 (by decide) (fun c9 => ?_) (fun c9 => ?_)
      · have h := k_pos c9 h
        refine lv_iload_n hx hb dX2_sumOf_35 rfl (lv_at hl 2 rfl) ?_
        cases h
        exact hret _ _ _ _ hP hS dX2_sumOf_36
      · have h := k_neg c9 h
        refine lv_iload_n hx hb dX2_sumOf_12 rfl (lv_at hl 1 rfl) ?_
        refine lv_iconst (v := 1) hx hb dX2_sumOf_13 (by decide) ?_
        refine lv_iload_n hx hb dX2_sumOf_14 rfl (lv_at hl 3 rfl) ?_
        refine lv_ishl hx hb dX2_sumOf_15 ?_
        refine lv_iand hx hb dX2_sumOf_16 ?_
        refine lv_if_eq (tgt := 29) hx hb dX2_sumOf_17 (by decide) (fun c17 => ?_) (fun c17 => ?_)
        · have h := k_pos c17 h
          refine lv_iinc (v := (y3 + 1)) (lv' := [(3, .int (y3 + 1)), (0, .ref (aC 0)), (1, .int x1), (2, .int y2)]) hx hb dX2_sumOf_29 hl (k := 3) rfl (by first | rfl | decide) (by decide) rfl (fun ls hl => ?_)
          refine lv_goto (tgt := 4) hx hb dX2_sumOf_32 (by decide) ?_
          exact ih4 y2 (y3 + 1) H locs ls hP hD hS (lv_sub hl [1, 2, 3, 0] rfl) h
        · have h := k_neg c17 h
          refine lv_iload_n hx hb dX2_sumOf_20 rfl (lv_at hl 2 rfl) ?_
          refine lv_aload_n hx hb dX2_sumOf_21 rfl (lv_at hl 0 rfl) ?_
          refine va_get (D := D) (ci := 2) (v := .ref (aC 3)) (C := RX2) (T := TX2) (N := 12) hx hb hts hiX2 hown hK hP 0 rfl rfl 2 (by decide) hf18 (fun _ z => z) rfl dX2_sumOf_22 ?_
          refine lv_iload_n hx hb dX2_sumOf_25 rfl (lv_at hl 3 rfl) ?_
          obtain ⟨g26, h⟩ := k_guard h
          refine va_iald hx hb hK hP 1 0 rfl rfl g26 dX2_sumOf_26 ?_
          refine lv_iadd hx hb dX2_sumOf_27 ?_
          refine lv_istore_n (lv' := [(2, .int (y2 + (c_lean y3.toNatClampNeg))), (0, .ref (aC 0)), (1, .int x1), (3, .int y3)]) hx hb dX2_sumOf_28 rfl hl (by decide) rfl (fun ls hl => ?_)
          refine lv_iinc (v := (y3 + 1)) (lv' := [(3, .int (y3 + 1)), (2, .int (y2 + (c_lean y3.toNatClampNeg))), (0, .ref (aC 0)), (1, .int x1)]) hx hb dX2_sumOf_29 hl (k := 3) rfl (by first | rfl | decide) (by decide) rfl (fun ls hl => ?_)
          refine lv_goto (tgt := 4) hx hb dX2_sumOf_32 (by decide) ?_
          exact ih4 (y2 + (c_lean y3.toNatClampNeg)) (y3 + 1) H locs ls hP hD hS (lv_sub hl [2, 3, 1, 0] rfl) h
  refine lv_istore_n (lv' := [(3, .int 0), (2, .int 0), (0, .ref (aC 0)), (1, .int x1)]) hx hb dX2_sumOf_3 rfl hl (by decide) rfl (fun ls hl => ?_)
  exact B4 lfu 0 0 s.heap [] ls hP hD hS (lv_sub hl [2, 3, 1, 0] rfl) h
theorem kdV_X2_sumOf : yX2_sumOf.cls = RX2 ∧ yX2_sumOf.cls ≠ "java/lang/invoke/MethodHandle" ∧ yX2_sumOf.cls ≠ "java/lang/invoke/VarHandle" ∧ (parseMethodDescriptor yX2_sumOf.desc).map (fun d => d.parameters.length) = some 1 := by decide +kernel
abbrev rm_X2_balance : Room := { frames := 1, cells := 0, slots := 0, locals := 23 }
set_option maxHeartbeats 4000000 in
set_option maxRecDepth 100000 in
theorem c_City_balance (l : Launch) (D : va_G) (cI cM cS cJ : ClassId) (aC : Nat → Nat) (aK : Nat → Nat) (sz : Nat) (c_men : Int32) (c_propped : Int32) (c_place : Int32) (c_swings : Int32) (c_crashes : Int32) (c_day : Int32) (c_crashedToday : Int32) (c_lean : Nat → Int32) {o : (Int32)} (hsem : S_City_balance c_men c_lean = some o) : kMet l yX2_balance wsX2_balance rm_X2_balance [.ref (aC 0)] D (kT cI cM cS cJ) (Wd11 cI aC aK c_men c_propped c_place c_swings c_crashes c_day c_crashedToday c_lean) sz (some (.int o)) (Wd11 cI aC aK c_men c_propped c_place c_swings c_crashes c_day c_crashedToday c_lean) := by
  refine k_metI (by decide) rfl rfl (Nat.le_of_ble_eq_true rfl) ?_
  intro p e s m below meth c ls Q A hx hb hml hts hown hK hN hA hP hD hS hl hsz hnm hret
  have hown : s.vm.findClass RX2 = some m.cls := hown
  have hf34 := hts (.fieldLink RX2 34 "PlumbLine$City" "men" "I") (List.mem_of_getElem? (i := 1) rfl)
  have hiX2 : ∀ w ∈ u_ws RX2 TX2 12, w ∈ wsX2_balance := fun w h => List.mem_cons_of_mem _ (List.mem_append_right _ h)
  replace hl : lv_has ls 3 [(0, .ref (aC 0))] := hl
  have h := hsem
  clear hsem
  rw [S_City_balance] at h
  refine lv_iconst (v := 0) hx hb dX2_balance_0 (by decide) ?_
  refine lv_istore_n (lv' := [(1, .int 0), (0, .ref (aC 0))]) hx hb dX2_balance_1 rfl hl (by decide) rfl (fun ls hl => ?_)
  refine lv_iconst (v := 1) hx hb dX2_balance_2 (by decide) ?_
  have B4 : ∀ (n4 : Nat) (y1 : Int32) (y2 : Int32) (H : Heap) (locs : List Loc) (ls : Array Slot), va_P D vwCl (Wd11 cI aC aK c_men c_propped c_place c_swings c_crashes c_day c_crashedToday c_lean) H → va_D A (Wd11 cI aC aK c_men c_propped c_place c_swings c_crashes c_day c_crashedToday c_lean) → va_S A s.heap H locs → lv_has ls 3 [(0, .ref (aC 0)), (1, .int y1), (2, .int y2)] → S_City_balance_L4 c_men c_lean n4 y1 y2 = some o → W p l e rm_X2_balance s m ([.ref (aC 0)] : List Value).toArray below meth c H locs 0 0 Q (F0 m 4 ls []) := by
    intro n4
    induction n4 with
    | zero => intro y1 y2 H locs ls hP hD hS hl h; exact absurd h (by simp [S_City_balance_L4])
    | succ n4 ih4 =>
      intro y1 y2 H locs ls hP hD hS hl h
      rw [S_City_balance_L4] at h
      refine lv_iload_n hx hb dX2_balance_4 rfl (lv_at hl 2 rfl) ?_
      refine lv_iconst (v := 1) hx hb dX2_balance_5 (by decide) ?_
      refine lv_aload_n hx hb dX2_balance_6 rfl (lv_at hl 0 rfl) ?_
      refine va_get (D := D) (ci := 2) (v := .int c_men) (C := RX2) (T := TX2) (N := 12) hx hb hts hiX2 hown hK hP 0 rfl rfl 3 (by decide) hf34 (fun _ z => z) rfl dX2_balance_7 ?_
      refine lv_ishl hx hb dX2_balance_10 ?_
      refine lv_icmp_ge (tgt := 41) hx hb dX2_balance_11 (by decide) (fun c11 => ?_) (fun c11 => ?_)
      · have h := k_pos c11 h
        refine lv_iload_n hx hb dX2_balance_41 rfl (lv_at hl 1 rfl) ?_
        cases h
        exact hret _ _ _ _ hP hS dX2_balance_42
      · have h := k_neg c11 h
        refine lv_iload_n hx hb dX2_balance_14 rfl (lv_at hl 2 rfl) ?_
        refine k_callS (As := [.int y2]) (rest := []) (st1 := [.int (S_J_bitCount y2)]) (ws2 := (Wd11 cI aC aK c_men c_propped c_place c_swings c_crashes c_day c_crashedToday c_lean)) hx hb hml hown hts hK hN hA hP hD hS hl (c_J_bitCount l D cI cM cS cJ H.size y2 rfl) gX2_balance_J6_bitCount_0f7a4 rfl kdS_J6_bitCount_0f7a4 [] ⟨rfl, rfl⟩ ⟨Nat.le_of_ble_eq_true rfl, Nat.le_of_ble_eq_true rfl⟩ ⟨Nat.zero_le _, Nat.zero_le _⟩ rfl rfl (by decide +kernel) rfl rfl rfl (Nat.le_of_ble_eq_true rfl) dX2_balance_15 rfl (fun H locs hP hD hS => ?_)
        refine lv_iload_n hx hb dX2_balance_18 rfl (lv_at hl 1 rfl) ?_
        refine k_callS (As := [.int y1]) (rest := [.int (S_J_bitCount y2)]) (st1 := [.int (S_J_bitCount y1), .int (S_J_bitCount y2)]) (ws2 := (Wd11 cI aC aK c_men c_propped c_place c_swings c_crashes c_day c_crashedToday c_lean)) hx hb hml hown hts hK hN hA hP hD hS hl (c_J_bitCount l D cI cM cS cJ H.size y1 rfl) gX2_balance_J6_bitCount_0f7a4 rfl kdS_J6_bitCount_0f7a4 [] ⟨rfl, rfl⟩ ⟨Nat.le_of_ble_eq_true rfl, Nat.le_of_ble_eq_true rfl⟩ ⟨Nat.zero_le _, Nat.zero_le _⟩ rfl rfl (by decide +kernel) rfl rfl rfl (Nat.le_of_ble_eq_true rfl) dX2_balance_19 rfl (fun H locs hP hD hS => ?_)
        refine lv_icmp_le (tgt := 35) hx hb dX2_balance_22 (by decide) (fun c22 => ?_) (fun c22 => ?_)
        · have h := k_pos c22 h
          refine lv_iinc (v := (y2 + 1)) (lv' := [(2, .int (y2 + 1)), (0, .ref (aC 0)), (1, .int y1)]) hx hb dX2_balance_35 hl (k := 2) rfl (by first | rfl | decide) (by decide) rfl (fun ls hl => ?_)
          refine lv_goto (tgt := 4) hx hb dX2_balance_38 (by decide) ?_
          exact ih4 y1 (y2 + 1) H locs ls hP hD hS (lv_sub hl [1, 2, 0] rfl) h
        · have h := k_neg c22 h
          refine lv_aload_n hx hb dX2_balance_25 rfl (lv_at hl 0 rfl) ?_
          refine lv_iload_n hx hb dX2_balance_26 rfl (lv_at hl 2 rfl) ?_
          obtain ⟨r27, g27, h⟩ := k_bind h
          refine k_callV (As := [.int y2]) (rest := []) (st1 := [.int r27]) (ws2 := (Wd11 cI aC aK c_men c_propped c_place c_swings c_crashes c_day c_crashedToday c_lean)) hx hb hml hown hts hK hN hA hP hD hS hl (c_City_sumOf l D cI cM cS cJ aC aK H.size y2 c_men c_propped c_place c_swings c_crashes c_day c_crashedToday c_lean g27) gX2_balance_X2_sumOf rfl kdV_X2_sumOf 0 2 rfl rfl rfl [0, 1] ⟨rfl, rfl⟩ ⟨Nat.le_of_ble_eq_true rfl, Nat.le_of_ble_eq_true rfl⟩ ⟨Nat.zero_le _, Nat.zero_le _⟩ rfl rfl (by decide +kernel) rfl rfl rfl (Nat.le_of_ble_eq_true rfl) dX2_balance_27 rfl (fun H locs hP hD hS => ?_)
          refine lv_if_ne (tgt := 35) hx hb dX2_balance_30 (by decide) (fun c30 => ?_) (fun c30 => ?_)
          · have h := k_neg c30 h
            refine lv_iinc (v := (y2 + 1)) (lv' := [(2, .int (y2 + 1)), (0, .ref (aC 0)), (1, .int y1)]) hx hb dX2_balance_35 hl (k := 2) rfl (by first | rfl | decide) (by decide) rfl (fun ls hl => ?_)
            refine lv_goto (tgt := 4) hx hb dX2_balance_38 (by decide) ?_
            exact ih4 y1 (y2 + 1) H locs ls hP hD hS (lv_sub hl [1, 2, 0] rfl) h
          · have h := k_pos c30 h
            refine lv_iload_n hx hb dX2_balance_33 rfl (lv_at hl 2 rfl) ?_
            refine lv_istore_n (lv' := [(1, .int y2), (0, .ref (aC 0)), (2, .int y2)]) hx hb dX2_balance_34 rfl hl (by decide) rfl (fun ls hl => ?_)
            refine lv_iinc (v := (y2 + 1)) (lv' := [(2, .int (y2 + 1)), (1, .int y2), (0, .ref (aC 0))]) hx hb dX2_balance_35 hl (k := 2) rfl (by first | rfl | decide) (by decide) rfl (fun ls hl => ?_)
            refine lv_goto (tgt := 4) hx hb dX2_balance_38 (by decide) ?_
            exact ih4 y2 (y2 + 1) H locs ls hP hD hS (lv_sub hl [2, 1, 0] rfl) h
  refine lv_istore_n (lv' := [(2, .int 1), (1, .int 0), (0, .ref (aC 0))]) hx hb dX2_balance_3 rfl hl (by decide) rfl (fun ls hl => ?_)
  exact B4 lfu 0 1 s.heap [] ls hP hD hS (lv_sub hl [2, 1, 0] rfl) h
abbrev rm_X2_side : Room := { frames := 0, cells := 0, slots := 0, locals := 0 }
set_option maxHeartbeats 4000000 in
set_option maxRecDepth 100000 in
theorem c_City_side (l : Launch) (D : va_G) (cI cM cS cJ : ClassId) (aC : Nat → Nat) (aK : Nat → Nat) (sz : Nat) (x1 : Int32) (c_men : Int32) (c_propped : Int32) (c_place : Int32) (c_swings : Int32) (c_crashes : Int32) (c_day : Int32) (c_crashedToday : Int32) (c_lean : Nat → Int32) {o : (Int32)} (hsem : S_City_side x1 c_lean = some o) : kMet l yX2_side wsX2_side rm_X2_side [.ref (aC 0), .int x1] D (kT cI cM cS cJ) (Wd11 cI aC aK c_men c_propped c_place c_swings c_crashes c_day c_crashedToday c_lean) sz (some (.int o)) (Wd11 cI aC aK c_men c_propped c_place c_swings c_crashes c_day c_crashedToday c_lean) := by
  refine k_metI (by decide) rfl rfl (Nat.le_of_ble_eq_true rfl) ?_
  intro p e s m below meth c ls Q A hx hb hml hts hown hK hN hA hP hD hS hl hsz hnm hret
  have hown : s.vm.findClass RX2 = some m.cls := hown
  have hf18 := hts (.fieldLink RX2 18 "PlumbLine$City" "lean" "[I") (List.mem_of_getElem? (i := 1) rfl)
  have hiX2 : ∀ w ∈ u_ws RX2 TX2 12, w ∈ wsX2_side := fun w h => List.mem_cons_of_mem _ (List.mem_append_right _ h)
  replace hl : lv_has ls 2 [(0, .ref (aC 0)), (1, .int x1)] := hl
  have h := hsem
  clear hsem
  rw [S_City_side] at h
  refine lv_aload_n hx hb dX2_side_0 rfl (lv_at hl 0 rfl) ?_
  refine va_get (D := D) (ci := 2) (v := .ref (aC 3)) (C := RX2) (T := TX2) (N := 12) hx hb hts hiX2 hown hK hP 0 rfl rfl 2 (by decide) hf18 (fun _ z => z) rfl dX2_side_1 ?_
  refine lv_iload_n hx hb dX2_side_4 rfl (lv_at hl 1 rfl) ?_
  obtain ⟨g5, h⟩ := k_guard h
  refine va_iald hx hb hK hP 1 0 rfl rfl g5 dX2_side_5 ?_
  refine lv_if_ne (tgt := 11) hx hb dX2_side_6 (by decide) (fun c6 => ?_) (fun c6 => ?_)
  · have h := k_neg c6 h
    refine lv_aload_n hx hb dX2_side_11 rfl (lv_at hl 0 rfl) ?_
    refine va_get (D := D) (ci := 2) (v := .ref (aC 3)) (C := RX2) (T := TX2) (N := 12) hx hb hts hiX2 hown hK hP 0 rfl rfl 2 (by decide) hf18 (fun _ z => z) rfl dX2_side_12 ?_
    refine lv_iload_n hx hb dX2_side_15 rfl (lv_at hl 1 rfl) ?_
    refine va_iald hx hb hK hP 1 0 rfl rfl g5 dX2_side_16 ?_
    refine lv_if_ge (tgt := 24) hx hb dX2_side_17 (by decide) (fun c17 => ?_) (fun c17 => ?_)
    · have h := k_pos c17 h
      refine lv_iconst (v := 1) hx hb dX2_side_24 (by decide) ?_
      cases h
      exact hret _ _ _ _ hP hS dX2_side_25
    · have h := k_neg c17 h
      refine lv_iconst (v := (-1)) hx hb dX2_side_20 (by decide) ?_
      refine lv_goto (tgt := 25) hx hb dX2_side_21 (by decide) ?_
      cases h
      exact hret _ _ _ _ hP hS dX2_side_25
  · have h := k_pos c6 h
    refine lv_iconst (v := 0) hx hb dX2_side_9 (by decide) ?_
    cases h
    exact hret _ _ _ _ hP hS dX2_side_10
theorem kdV_X2_side : yX2_side.cls = RX2 ∧ yX2_side.cls ≠ "java/lang/invoke/MethodHandle" ∧ yX2_side.cls ≠ "java/lang/invoke/VarHandle" ∧ (parseMethodDescriptor yX2_side.desc).map (fun d => d.parameters.length) = some 1 := by decide +kernel
abbrev rm_X2_trusts : Room := { frames := 2, cells := 0, slots := 0, locals := 61 }
set_option maxHeartbeats 4000000 in
set_option maxRecDepth 100000 in
theorem c_City_trusts (l : Launch) (D : va_G) (cI cM cS cJ : ClassId) (aC : Nat → Nat) (aK : Nat → Nat) (sz : Nat) (x1 : Int32) (x2 : Int32) (c_men : Int32) (c_propped : Int32) (c_place : Int32) (c_swings : Int32) (c_crashes : Int32) (c_day : Int32) (c_crashedToday : Int32) (c_lean : Nat → Int32) {o : (Int32)} (hsem : S_City_trusts x1 x2 c_lean = some o) : kMet l yX2_trusts wsX2_trusts rm_X2_trusts [.ref (aC 0), .int x1, .int x2] D (kT cI cM cS cJ) (Wd11 cI aC aK c_men c_propped c_place c_swings c_crashes c_day c_crashedToday c_lean) sz (some (.int o)) (Wd11 cI aC aK c_men c_propped c_place c_swings c_crashes c_day c_crashedToday c_lean) := by
  refine k_metZ (by decide) rfl rfl (Nat.le_of_ble_eq_true rfl) ?_
  intro p e s m below meth c ls Q A hx hb hml hts hown hK hN hA hP hD hS hl hsz hnm hret
  have hown : s.vm.findClass RX2 = some m.cls := hown
  replace hl : lv_has ls 3 [(0, .ref (aC 0)), (1, .int x1), (2, .int x2)] := hl
  have h := hsem
  clear hsem
  rw [S_City_trusts] at h
  refine lv_iload_n hx hb dX2_trusts_0 rfl (lv_at hl 1 rfl) ?_
  refine lv_iload_n hx hb dX2_trusts_1 rfl (lv_at hl 2 rfl) ?_
  refine lv_icmp_eq (tgt := 38) hx hb dX2_trusts_2 (by decide) (fun c2 => ?_) (fun c2 => ?_)
  · have h := k_pos c2 h
    refine lv_iconst (v := 0) hx hb dX2_trusts_38 (by decide) ?_
    cases h
    exact hret _ _ _ _ rfl hP hS dX2_trusts_39
  · have h := k_neg c2 h
    refine lv_aload_n hx hb dX2_trusts_5 rfl (lv_at hl 0 rfl) ?_
    refine lv_iload_n hx hb dX2_trusts_6 rfl (lv_at hl 1 rfl) ?_
    obtain ⟨r7, g7, h⟩ := k_bind h
    refine k_callV (As := [.int x1]) (rest := []) (st1 := [.int r7]) (ws2 := (Wd11 cI aC aK c_men c_propped c_place c_swings c_crashes c_day c_crashedToday c_lean)) hx hb hml hown hts hK hN hA hP hD hS hl (c_City_side l D cI cM cS cJ aC aK s.heap.size x1 c_men c_propped c_place c_swings c_crashes c_day c_crashedToday c_lean g7) gX2_trusts_X2_side rfl kdV_X2_side 0 2 rfl rfl rfl [0, 1] ⟨rfl, rfl⟩ ⟨Nat.le_of_ble_eq_true rfl, Nat.le_of_ble_eq_true rfl⟩ ⟨Nat.zero_le _, Nat.zero_le _⟩ rfl rfl (by decide +kernel) rfl rfl rfl (Nat.le_of_ble_eq_true rfl) dX2_trusts_7 rfl (fun H locs hP hD hS => ?_)
    refine lv_aload_n hx hb dX2_trusts_10 rfl (lv_at hl 0 rfl) ?_
    refine lv_iload_n hx hb dX2_trusts_11 rfl (lv_at hl 2 rfl) ?_
    obtain ⟨r12, g12, h⟩ := k_bind h
    refine k_callV (As := [.int x2]) (rest := [.int r7]) (st1 := [.int r12, .int r7]) (ws2 := (Wd11 cI aC aK c_men c_propped c_place c_swings c_crashes c_day c_crashedToday c_lean)) hx hb hml hown hts hK hN hA hP hD hS hl (c_City_side l D cI cM cS cJ aC aK H.size x2 c_men c_propped c_place c_swings c_crashes c_day c_crashedToday c_lean g12) gX2_trusts_X2_side rfl kdV_X2_side 0 2 rfl rfl rfl [0, 1] ⟨rfl, rfl⟩ ⟨Nat.le_of_ble_eq_true rfl, Nat.le_of_ble_eq_true rfl⟩ ⟨Nat.zero_le _, Nat.zero_le _⟩ rfl rfl (by decide +kernel) rfl rfl rfl (Nat.le_of_ble_eq_true rfl) dX2_trusts_12 rfl (fun H locs hP hD hS => ?_)
    refine lv_icmp_ne (tgt := 38) hx hb dX2_trusts_15 (by decide) (fun c15 => ?_) (fun c15 => ?_)
    · have h := k_neg c15 h
      refine lv_iconst (v := 0) hx hb dX2_trusts_38 (by decide) ?_
      cases h
      exact hret _ _ _ _ rfl hP hS dX2_trusts_39
    · have h := k_pos c15 h
      refine lv_aload_n hx hb dX2_trusts_18 rfl (lv_at hl 0 rfl) ?_
      refine lv_iload_n hx hb dX2_trusts_19 rfl (lv_at hl 2 rfl) ?_
      obtain ⟨r20, g20, h⟩ := k_bind h
      refine k_callV (As := [.int x2]) (rest := []) (st1 := [.int r20]) (ws2 := (Wd11 cI aC aK c_men c_propped c_place c_swings c_crashes c_day c_crashedToday c_lean)) hx hb hml hown hts hK hN hA hP hD hS hl (c_City_far l D cI cM cS cJ aC aK H.size x2 c_men c_propped c_place c_swings c_crashes c_day c_crashedToday c_lean g20) gX2_trusts_X2_far rfl kdV_X2_far 0 2 rfl rfl rfl [0, 1] ⟨rfl, rfl⟩ ⟨Nat.le_of_ble_eq_true rfl, Nat.le_of_ble_eq_true rfl⟩ ⟨Nat.zero_le _, Nat.zero_le _⟩ rfl rfl (by decide +kernel) rfl rfl rfl (Nat.le_of_ble_eq_true rfl) dX2_trusts_20 rfl (fun H locs hP hD hS => ?_)
      refine lv_aload_n hx hb dX2_trusts_23 rfl (lv_at hl 0 rfl) ?_
      refine lv_iload_n hx hb dX2_trusts_24 rfl (lv_at hl 1 rfl) ?_
      obtain ⟨r25, g25, h⟩ := k_bind h
      refine k_callV (As := [.int x1]) (rest := [.int r20]) (st1 := [.int r25, .int r20]) (ws2 := (Wd11 cI aC aK c_men c_propped c_place c_swings c_crashes c_day c_crashedToday c_lean)) hx hb hml hown hts hK hN hA hP hD hS hl (c_City_far l D cI cM cS cJ aC aK H.size x1 c_men c_propped c_place c_swings c_crashes c_day c_crashedToday c_lean g25) gX2_trusts_X2_far rfl kdV_X2_far 0 2 rfl rfl rfl [0, 1] ⟨rfl, rfl⟩ ⟨Nat.le_of_ble_eq_true rfl, Nat.le_of_ble_eq_true rfl⟩ ⟨Nat.zero_le _, Nat.zero_le _⟩ rfl rfl (by decide +kernel) rfl rfl rfl (Nat.le_of_ble_eq_true rfl) dX2_trusts_25 rfl (fun H locs hP hD hS => ?_)
      refine lv_bipush (v := 10) hx hb dX2_trusts_28 (by decide) ?_
      refine lv_iadd hx hb dX2_trusts_30 ?_
      refine lv_icmp_gt (tgt := 38) hx hb dX2_trusts_31 (by decide) (fun c31 => ?_) (fun c31 => ?_)
      · have h := k_pos c31 h
        refine lv_iconst (v := 0) hx hb dX2_trusts_38 (by decide) ?_
        cases h
        exact hret _ _ _ _ rfl hP hS dX2_trusts_39
      · have h := k_neg c31 h
        refine lv_iconst (v := 1) hx hb dX2_trusts_34 (by decide) ?_
        refine lv_goto (tgt := 39) hx hb dX2_trusts_35 (by decide) ?_
        cases h
        exact hret _ _ _ _ rfl hP hS dX2_trusts_39
theorem kdV_X2_trusts : yX2_trusts.cls = RX2 ∧ yX2_trusts.cls ≠ "java/lang/invoke/MethodHandle" ∧ yX2_trusts.cls ≠ "java/lang/invoke/VarHandle" ∧ (parseMethodDescriptor yX2_trusts.desc).map (fun d => d.parameters.length) = some 2 := by decide +kernel
abbrev rm_X2_trustedBy : Room := { frames := 3, cells := 0, slots := 0, locals := 83 }
set_option maxHeartbeats 4000000 in
set_option maxRecDepth 100000 in
theorem c_City_trustedBy (l : Launch) (D : va_G) (cI cM cS cJ : ClassId) (aC : Nat → Nat) (aK : Nat → Nat) (sz : Nat) (x1 : Int32) (c_men : Int32) (c_propped : Int32) (c_place : Int32) (c_swings : Int32) (c_crashes : Int32) (c_day : Int32) (c_crashedToday : Int32) (c_lean : Nat → Int32) {o : (Int32)} (hsem : S_City_trustedBy x1 c_men c_lean = some o) : kMet l yX2_trustedBy wsX2_trustedBy rm_X2_trustedBy [.ref (aC 0), .int x1] D (kT cI cM cS cJ) (Wd11 cI aC aK c_men c_propped c_place c_swings c_crashes c_day c_crashedToday c_lean) sz (some (.int o)) (Wd11 cI aC aK c_men c_propped c_place c_swings c_crashes c_day c_crashedToday c_lean) := by
  refine k_metI (by decide) rfl rfl (Nat.le_of_ble_eq_true rfl) ?_
  intro p e s m below meth c ls Q A hx hb hml hts hown hK hN hA hP hD hS hl hsz hnm hret
  have hown : s.vm.findClass RX2 = some m.cls := hown
  have hf34 := hts (.fieldLink RX2 34 "PlumbLine$City" "men" "I") (List.mem_of_getElem? (i := 1) rfl)
  have hiX2 : ∀ w ∈ u_ws RX2 TX2 12, w ∈ wsX2_trustedBy := fun w h => List.mem_cons_of_mem _ (List.mem_append_right _ h)
  replace hl : lv_has ls 4 [(0, .ref (aC 0)), (1, .int x1)] := hl
  have h := hsem
  clear hsem
  rw [S_City_trustedBy] at h
  refine lv_iconst (v := 0) hx hb dX2_trustedBy_0 (by decide) ?_
  refine lv_istore_n (lv' := [(2, .int 0), (0, .ref (aC 0)), (1, .int x1)]) hx hb dX2_trustedBy_1 rfl hl (by decide) rfl (fun ls hl => ?_)
  refine lv_iconst (v := 0) hx hb dX2_trustedBy_2 (by decide) ?_
  have B4 : ∀ (n4 : Nat) (y2 : Int32) (y3 : Int32) (H : Heap) (locs : List Loc) (ls : Array Slot), va_P D vwCl (Wd11 cI aC aK c_men c_propped c_place c_swings c_crashes c_day c_crashedToday c_lean) H → va_D A (Wd11 cI aC aK c_men c_propped c_place c_swings c_crashes c_day c_crashedToday c_lean) → va_S A s.heap H locs → lv_has ls 4 [(0, .ref (aC 0)), (1, .int x1), (2, .int y2), (3, .int y3)] → S_City_trustedBy_L4 x1 c_men c_lean n4 y2 y3 = some o → W p l e rm_X2_trustedBy s m ([.ref (aC 0), .int x1] : List Value).toArray below meth c H locs 0 0 Q (F0 m 4 ls []) := by
    intro n4
    induction n4 with
    | zero => intro y2 y3 H locs ls hP hD hS hl h; exact absurd h (by simp [S_City_trustedBy_L4])
    | succ n4 ih4 =>
      intro y2 y3 H locs ls hP hD hS hl h
      rw [S_City_trustedBy_L4] at h
      refine lv_iload_n hx hb dX2_trustedBy_4 rfl (lv_at hl 3 rfl) ?_
      refine lv_aload_n hx hb dX2_trustedBy_5 rfl (lv_at hl 0 rfl) ?_
      refine va_get (D := D) (ci := 2) (v := .int c_men) (C := RX2) (T := TX2) (N := 12) hx hb hts hiX2 hown hK hP 0 rfl rfl 3 (by decide) hf34 (fun _ z => z) rfl dX2_trustedBy_6 ?_
      refine lv_icmp_ge (tgt := 33) hx hb dX2_trustedBy_9 (by decide) (fun c9 => ?_) (fun c9 => ?_)
      · have h := k_pos c9 h
        refine lv_iload_n hx hb dX2_trustedBy_33 rfl (lv_at hl 2 rfl) ?_
        cases h
        exact hret _ _ _ _ hP hS dX2_trustedBy_34
      · have h := k_neg c9 h
        refine lv_aload_n hx hb dX2_trustedBy_12 rfl (lv_at hl 0 rfl) ?_
        refine lv_iload_n hx hb dX2_trustedBy_13 rfl (lv_at hl 3 rfl) ?_
        refine lv_iload_n hx hb dX2_trustedBy_14 rfl (lv_at hl 1 rfl) ?_
        obtain ⟨r15, g15, h⟩ := k_bind h
        refine k_callV (As := [.int y3, .int x1]) (rest := []) (st1 := [.int r15]) (ws2 := (Wd11 cI aC aK c_men c_propped c_place c_swings c_crashes c_day c_crashedToday c_lean)) hx hb hml hown hts hK hN hA hP hD hS hl (c_City_trusts l D cI cM cS cJ aC aK H.size y3 x1 c_men c_propped c_place c_swings c_crashes c_day c_crashedToday c_lean g15) gX2_trustedBy_X2_trusts rfl kdV_X2_trusts 0 2 rfl rfl rfl [0, 1] ⟨rfl, rfl⟩ ⟨Nat.le_of_ble_eq_true rfl, Nat.le_of_ble_eq_true rfl⟩ ⟨Nat.zero_le _, Nat.zero_le _⟩ rfl rfl (by decide +kernel) rfl rfl rfl (Nat.le_of_ble_eq_true rfl) dX2_trustedBy_15 rfl (fun H locs hP hD hS => ?_)
        refine lv_if_eq (tgt := 27) hx hb dX2_trustedBy_18 (by decide) (fun c18 => ?_) (fun c18 => ?_)
        · have h := k_pos c18 h
          refine lv_iinc (v := (y3 + 1)) (lv' := [(3, .int (y3 + 1)), (0, .ref (aC 0)), (1, .int x1), (2, .int y2)]) hx hb dX2_trustedBy_27 hl (k := 3) rfl (by first | rfl | decide) (by decide) rfl (fun ls hl => ?_)
          refine lv_goto (tgt := 4) hx hb dX2_trustedBy_30 (by decide) ?_
          exact ih4 y2 (y3 + 1) H locs ls hP hD hS (lv_sub hl [1, 2, 3, 0] rfl) h
        · have h := k_neg c18 h
          refine lv_iload_n hx hb dX2_trustedBy_21 rfl (lv_at hl 2 rfl) ?_
          refine lv_iconst (v := 1) hx hb dX2_trustedBy_22 (by decide) ?_
          refine lv_iload_n hx hb dX2_trustedBy_23 rfl (lv_at hl 3 rfl) ?_
          refine lv_ishl hx hb dX2_trustedBy_24 ?_
          refine lv_ior hx hb dX2_trustedBy_25 ?_
          refine lv_istore_n (lv' := [(2, .int (y2 ||| ((1 : Int32) <<< (y3 &&& 31)))), (0, .ref (aC 0)), (1, .int x1), (3, .int y3)]) hx hb dX2_trustedBy_26 rfl hl (by decide) rfl (fun ls hl => ?_)
          refine lv_iinc (v := (y3 + 1)) (lv' := [(3, .int (y3 + 1)), (2, .int (y2 ||| ((1 : Int32) <<< (y3 &&& 31)))), (0, .ref (aC 0)), (1, .int x1)]) hx hb dX2_trustedBy_27 hl (k := 3) rfl (by first | rfl | decide) (by decide) rfl (fun ls hl => ?_)
          refine lv_goto (tgt := 4) hx hb dX2_trustedBy_30 (by decide) ?_
          exact ih4 (y2 ||| ((1 : Int32) <<< (y3 &&& 31))) (y3 + 1) H locs ls hP hD hS (lv_sub hl [2, 3, 1, 0] rfl) h
  refine lv_istore_n (lv' := [(3, .int 0), (2, .int 0), (0, .ref (aC 0)), (1, .int x1)]) hx hb dX2_trustedBy_3 rfl hl (by decide) rfl (fun ls hl => ?_)
  exact B4 lfu 0 0 s.heap [] ls hP hD hS (lv_sub hl [2, 3, 1, 0] rfl) h
theorem kdV_X2_trustedBy : yX2_trustedBy.cls = RX2 ∧ yX2_trustedBy.cls ≠ "java/lang/invoke/MethodHandle" ∧ yX2_trustedBy.cls ≠ "java/lang/invoke/VarHandle" ∧ (parseMethodDescriptor yX2_trustedBy.desc).map (fun d => d.parameters.length) = some 1 := by decide +kernel
abbrev rm_X2_mostTrusted : Room := { frames := 4, cells := 0, slots := 0, locals := 106 }
set_option maxHeartbeats 4000000 in
set_option maxRecDepth 100000 in
theorem c_City_mostTrusted (l : Launch) (D : va_G) (cI cM cS cJ : ClassId) (aC : Nat → Nat) (aK : Nat → Nat) (sz : Nat) (c_men : Int32) (c_propped : Int32) (c_place : Int32) (c_swings : Int32) (c_crashes : Int32) (c_day : Int32) (c_crashedToday : Int32) (c_lean : Nat → Int32) {o : (Int32)} (hsem : S_City_mostTrusted c_men c_lean = some o) : kMet l yX2_mostTrusted wsX2_mostTrusted rm_X2_mostTrusted [.ref (aC 0)] D (kT cI cM cS cJ) (Wd11 cI aC aK c_men c_propped c_place c_swings c_crashes c_day c_crashedToday c_lean) sz (some (.int o)) (Wd11 cI aC aK c_men c_propped c_place c_swings c_crashes c_day c_crashedToday c_lean) := by
  refine k_metI (by decide) rfl rfl (Nat.le_of_ble_eq_true rfl) ?_
  intro p e s m below meth c ls Q A hx hb hml hts hown hK hN hA hP hD hS hl hsz hnm hret
  have hown : s.vm.findClass RX2 = some m.cls := hown
  have hf34 := hts (.fieldLink RX2 34 "PlumbLine$City" "men" "I") (List.mem_of_getElem? (i := 1) rfl)
  have hiX2 : ∀ w ∈ u_ws RX2 TX2 12, w ∈ wsX2_mostTrusted := fun w h => List.mem_cons_of_mem _ (List.mem_append_right _ h)
  replace hl : lv_has ls 5 [(0, .ref (aC 0))] := hl
  have h := hsem
  clear hsem
  rw [S_City_mostTrusted] at h
  refine lv_bipush (v := (-4)) hx hb dX2_mostTrusted_0 (by decide) ?_
  refine lv_istore_n (lv' := [(1, .int (-4)), (0, .ref (aC 0))]) hx hb dX2_mostTrusted_2 rfl hl (by decide) rfl (fun ls hl => ?_)
  refine lv_iconst (v := (-1)) hx hb dX2_mostTrusted_3 (by decide) ?_
  refine lv_istore_n (lv' := [(2, .int (-1)), (1, .int (-4)), (0, .ref (aC 0))]) hx hb dX2_mostTrusted_4 rfl hl (by decide) rfl (fun ls hl => ?_)
  refine lv_iconst (v := 0) hx hb dX2_mostTrusted_5 (by decide) ?_
  have B7 : ∀ (n7 : Nat) (y1 : Int32) (y2 : Int32) (y3 : Int32) (H : Heap) (locs : List Loc) (ls : Array Slot), va_P D vwCl (Wd11 cI aC aK c_men c_propped c_place c_swings c_crashes c_day c_crashedToday c_lean) H → va_D A (Wd11 cI aC aK c_men c_propped c_place c_swings c_crashes c_day c_crashedToday c_lean) → va_S A s.heap H locs → lv_has ls 5 [(0, .ref (aC 0)), (1, .int y1), (2, .int y2), (3, .int y3)] → S_City_mostTrusted_L7 c_men c_lean n7 y1 y2 y3 = some o → W p l e rm_X2_mostTrusted s m ([.ref (aC 0)] : List Value).toArray below meth c H locs 0 0 Q (F0 m 7 ls []) := by
    intro n7
    induction n7 with
    | zero => intro y1 y2 y3 H locs ls hP hD hS hl h; exact absurd h (by simp [S_City_mostTrusted_L7])
    | succ n7 ih7 =>
      intro y1 y2 y3 H locs ls hP hD hS hl h
      rw [S_City_mostTrusted_L7] at h
      refine lv_iload_n hx hb dX2_mostTrusted_7 rfl (lv_at hl 3 rfl) ?_
      refine lv_aload_n hx hb dX2_mostTrusted_8 rfl (lv_at hl 0 rfl) ?_
      refine va_get (D := D) (ci := 2) (v := .int c_men) (C := RX2) (T := TX2) (N := 12) hx hb hts hiX2 hown hK hP 0 rfl rfl 3 (by decide) hf34 (fun _ z => z) rfl dX2_mostTrusted_9 ?_
      refine lv_icmp_ge (tgt := 42) hx hb dX2_mostTrusted_12 (by decide) (fun c12 => ?_) (fun c12 => ?_)
      · have h := k_pos c12 h
        refine lv_iload_n hx hb dX2_mostTrusted_42 rfl (lv_at hl 1 rfl) ?_
        cases h
        exact hret _ _ _ _ hP hS dX2_mostTrusted_43
      · have h := k_neg c12 h
        refine lv_aload_n hx hb dX2_mostTrusted_15 rfl (lv_at hl 0 rfl) ?_
        refine lv_iload_n hx hb dX2_mostTrusted_16 rfl (lv_at hl 3 rfl) ?_
        obtain ⟨r17, g17, h⟩ := k_bind h
        refine k_callV (As := [.int y3]) (rest := []) (st1 := [.int r17]) (ws2 := (Wd11 cI aC aK c_men c_propped c_place c_swings c_crashes c_day c_crashedToday c_lean)) hx hb hml hown hts hK hN hA hP hD hS hl (c_City_trustedBy l D cI cM cS cJ aC aK H.size y3 c_men c_propped c_place c_swings c_crashes c_day c_crashedToday c_lean g17) gX2_mostTrusted_X2_trustedBy rfl kdV_X2_trustedBy 0 2 rfl rfl rfl [0, 1] ⟨rfl, rfl⟩ ⟨Nat.le_of_ble_eq_true rfl, Nat.le_of_ble_eq_true rfl⟩ ⟨Nat.zero_le _, Nat.zero_le _⟩ rfl rfl (by decide +kernel) rfl rfl rfl (Nat.le_of_ble_eq_true rfl) dX2_mostTrusted_17 rfl (fun H locs hP hD hS => ?_)
        refine k_callS (As := [.int r17]) (rest := []) (st1 := [.int (S_J_bitCount r17)]) (ws2 := (Wd11 cI aC aK c_men c_propped c_place c_swings c_crashes c_day c_crashedToday c_lean)) hx hb hml hown hts hK hN hA hP hD hS hl (c_J_bitCount l D cI cM cS cJ H.size r17 rfl) gX2_mostTrusted_J6_bitCount_0f7a4 rfl kdS_J6_bitCount_0f7a4 [] ⟨rfl, rfl⟩ ⟨Nat.le_of_ble_eq_true rfl, Nat.le_of_ble_eq_true rfl⟩ ⟨Nat.zero_le _, Nat.zero_le _⟩ rfl rfl (by decide +kernel) rfl rfl rfl (Nat.le_of_ble_eq_true rfl) dX2_mostTrusted_20 rfl (fun H locs hP hD hS => ?_)
        refine lv_istore (lv' := [(4, .int (S_J_bitCount r17)), (0, .ref (aC 0)), (1, .int y1), (2, .int y2), (3, .int y3)]) hx hb dX2_mostTrusted_23 hl (by decide) rfl (fun ls hl => ?_)
        refine lv_iload hx hb dX2_mostTrusted_25 (lv_at hl 0 rfl) ?_
        refine lv_iload_n hx hb dX2_mostTrusted_27 rfl (lv_at hl 3 rfl) ?_
        refine lv_icmp_le (tgt := 36) hx hb dX2_mostTrusted_28 (by decide) (fun c28 => ?_) (fun c28 => ?_)
        · have h := k_pos c28 h
          refine lv_iinc (v := (y3 + 1)) (lv' := [(3, .int (y3 + 1)), (4, .int (S_J_bitCount r17)), (0, .ref (aC 0)), (1, .int y1), (2, .int y2)]) hx hb dX2_mostTrusted_36 hl (k := 4) rfl (by first | rfl | decide) (by decide) rfl (fun ls hl => ?_)
          refine lv_goto (tgt := 7) hx hb dX2_mostTrusted_39 (by decide) ?_
          exact ih7 y1 y2 (y3 + 1) H locs ls hP hD hS (lv_sub hl [2, 3, 4, 0] rfl) h
        · have h := k_neg c28 h
          refine lv_iload hx hb dX2_mostTrusted_31 (lv_at hl 0 rfl) ?_
          refine lv_istore_n (lv' := [(2, .int (S_J_bitCount r17)), (4, .int (S_J_bitCount r17)), (0, .ref (aC 0)), (1, .int y1), (3, .int y3)]) hx hb dX2_mostTrusted_33 rfl hl (by decide) rfl (fun ls hl => ?_)
          refine lv_iload_n hx hb dX2_mostTrusted_34 rfl (lv_at hl 4 rfl) ?_
          refine lv_istore_n (lv' := [(1, .int y3), (2, .int (S_J_bitCount r17)), (4, .int (S_J_bitCount r17)), (0, .ref (aC 0)), (3, .int y3)]) hx hb dX2_mostTrusted_35 rfl hl (by decide) rfl (fun ls hl => ?_)
          refine lv_iinc (v := (y3 + 1)) (lv' := [(3, .int (y3 + 1)), (1, .int y3), (2, .int (S_J_bitCount r17)), (4, .int (S_J_bitCount r17)), (0, .ref (aC 0))]) hx hb dX2_mostTrusted_36 hl (k := 4) rfl (by first | rfl | decide) (by decide) rfl (fun ls hl => ?_)
          refine lv_goto (tgt := 7) hx hb dX2_mostTrusted_39 (by decide) ?_
          exact ih7 y3 (S_J_bitCount r17) (y3 + 1) H locs ls hP hD hS (lv_sub hl [4, 1, 2, 0] rfl) h
  refine lv_istore_n (lv' := [(3, .int 0), (2, .int (-1)), (1, .int (-4)), (0, .ref (aC 0))]) hx hb dX2_mostTrusted_6 rfl hl (by decide) rfl (fun ls hl => ?_)
  exact B7 lfu (-4) (-1) 0 s.heap [] ls hP hD hS (lv_sub hl [3, 2, 1, 0] rfl) h
abbrev rm_X2_rivals : Room := { frames := 3, cells := 0, slots := 0, locals := 83 }
set_option maxHeartbeats 4000000 in
set_option maxRecDepth 100000 in
theorem c_City_rivals (l : Launch) (D : va_G) (cI cM cS cJ : ClassId) (aC : Nat → Nat) (aK : Nat → Nat) (sz : Nat) (c_men : Int32) (c_propped : Int32) (c_place : Int32) (c_swings : Int32) (c_crashes : Int32) (c_day : Int32) (c_crashedToday : Int32) (c_lean : Nat → Int32) {o : (Int32)} (hsem : S_City_rivals c_men c_lean = some o) : kMet l yX2_rivals wsX2_rivals rm_X2_rivals [.ref (aC 0)] D (kT cI cM cS cJ) (Wd11 cI aC aK c_men c_propped c_place c_swings c_crashes c_day c_crashedToday c_lean) sz (some (.int o)) (Wd11 cI aC aK c_men c_propped c_place c_swings c_crashes c_day c_crashedToday c_lean) := by
  refine k_metI (by decide) rfl rfl (Nat.le_of_ble_eq_true rfl) ?_
  intro p e s m below meth c ls Q A hx hb hml hts hown hK hN hA hP hD hS hl hsz hnm hret
  have hown : s.vm.findClass RX2 = some m.cls := hown
  have hf34 := hts (.fieldLink RX2 34 "PlumbLine$City" "men" "I") (List.mem_of_getElem? (i := 1) rfl)
  have hiX2 : ∀ w ∈ u_ws RX2 TX2 12, w ∈ wsX2_rivals := fun w h => List.mem_cons_of_mem _ (List.mem_append_right _ h)
  replace hl : lv_has ls 4 [(0, .ref (aC 0))] := hl
  have h := hsem
  clear hsem
  rw [S_City_rivals] at h
  refine lv_iconst (v := 0) hx hb dX2_rivals_0 (by decide) ?_
  refine lv_istore_n (lv' := [(1, .int 0), (0, .ref (aC 0))]) hx hb dX2_rivals_1 rfl hl (by decide) rfl (fun ls hl => ?_)
  refine lv_iconst (v := 0) hx hb dX2_rivals_2 (by decide) ?_
  have B4 : ∀ (n4 : Nat) (y1 : Int32) (y2 : Int32) (H : Heap) (locs : List Loc) (ls : Array Slot), va_P D vwCl (Wd11 cI aC aK c_men c_propped c_place c_swings c_crashes c_day c_crashedToday c_lean) H → va_D A (Wd11 cI aC aK c_men c_propped c_place c_swings c_crashes c_day c_crashedToday c_lean) → va_S A s.heap H locs → lv_has ls 4 [(0, .ref (aC 0)), (1, .int y1), (2, .int y2)] → S_City_rivals_L4 c_men c_lean n4 y1 y2 = some o → W p l e rm_X2_rivals s m ([.ref (aC 0)] : List Value).toArray below meth c H locs 0 0 Q (F0 m 4 ls []) := by
    intro n4
    induction n4 with
    | zero => intro y1 y2 H locs ls hP hD hS hl h; exact absurd h (by simp [S_City_rivals_L4])
    | succ n4 ih4 =>
      intro y1 y2 H locs ls hP hD hS hl h
      rw [S_City_rivals_L4] at h
      refine lv_iload_n hx hb dX2_rivals_4 rfl (lv_at hl 2 rfl) ?_
      refine lv_aload_n hx hb dX2_rivals_5 rfl (lv_at hl 0 rfl) ?_
      refine va_get (D := D) (ci := 2) (v := .int c_men) (C := RX2) (T := TX2) (N := 12) hx hb hts hiX2 hown hK hP 0 rfl rfl 3 (by decide) hf34 (fun _ z => z) rfl dX2_rivals_6 ?_
      refine lv_icmp_ge (tgt := 52) hx hb dX2_rivals_9 (by decide) (fun c9 => ?_) (fun c9 => ?_)
      · have h := k_pos c9 h
        refine lv_iload_n hx hb dX2_rivals_52 rfl (lv_at hl 1 rfl) ?_
        cases h
        exact hret _ _ _ _ hP hS dX2_rivals_53
      · have h := k_neg c9 h
        refine lv_iconst (v := 0) hx hb dX2_rivals_12 (by decide) ?_
        have B14 : ∀ (y2 : Int32) (n14 : Nat) (y1 : Int32) (y3 : Int32) (H : Heap) (locs : List Loc) (ls : Array Slot), va_P D vwCl (Wd11 cI aC aK c_men c_propped c_place c_swings c_crashes c_day c_crashedToday c_lean) H → va_D A (Wd11 cI aC aK c_men c_propped c_place c_swings c_crashes c_day c_crashedToday c_lean) → va_S A s.heap H locs → lv_has ls 4 [(0, .ref (aC 0)), (1, .int y1), (2, .int y2), (3, .int y3)] → S_City_rivals_L14 (S_City_rivals_L4 c_men c_lean n4) y2 c_lean n14 y1 y3 = some o → W p l e rm_X2_rivals s m ([.ref (aC 0)] : List Value).toArray below meth c H locs 0 0 Q (F0 m 14 ls []) := by
          intro y2
          intro n14
          induction n14 with
          | zero => intro y1 y3 H locs ls hP hD hS hl h; exact absurd h (by simp [S_City_rivals_L14])
          | succ n14 ih14 =>
            intro y1 y3 H locs ls hP hD hS hl h
            rw [S_City_rivals_L14] at h
            refine lv_iload_n hx hb dX2_rivals_14 rfl (lv_at hl 3 rfl) ?_
            refine lv_iload_n hx hb dX2_rivals_15 rfl (lv_at hl 2 rfl) ?_
            refine lv_icmp_ge (tgt := 46) hx hb dX2_rivals_16 (by decide) (fun c16 => ?_) (fun c16 => ?_)
            · have h := k_pos c16 h
              refine lv_iinc (v := (y2 + 1)) (lv' := [(2, .int (y2 + 1)), (0, .ref (aC 0)), (1, .int y1), (3, .int y3)]) hx hb dX2_rivals_46 hl (k := 2) rfl (by first | rfl | decide) (by decide) rfl (fun ls hl => ?_)
              refine lv_goto (tgt := 4) hx hb dX2_rivals_49 (by decide) ?_
              exact ih4 y1 (y2 + 1) H locs ls hP hD hS (lv_sub hl [1, 2, 0] rfl) h
            · have h := k_neg c16 h
              refine lv_aload_n hx hb dX2_rivals_19 rfl (lv_at hl 0 rfl) ?_
              refine lv_iload_n hx hb dX2_rivals_20 rfl (lv_at hl 2 rfl) ?_
              refine lv_iload_n hx hb dX2_rivals_21 rfl (lv_at hl 3 rfl) ?_
              obtain ⟨r22, g22, h⟩ := k_bind h
              refine k_callV (As := [.int y2, .int y3]) (rest := []) (st1 := [.int r22]) (ws2 := (Wd11 cI aC aK c_men c_propped c_place c_swings c_crashes c_day c_crashedToday c_lean)) hx hb hml hown hts hK hN hA hP hD hS hl (c_City_trusts l D cI cM cS cJ aC aK H.size y2 y3 c_men c_propped c_place c_swings c_crashes c_day c_crashedToday c_lean g22) gX2_rivals_X2_trusts rfl kdV_X2_trusts 0 2 rfl rfl rfl [0, 1] ⟨rfl, rfl⟩ ⟨Nat.le_of_ble_eq_true rfl, Nat.le_of_ble_eq_true rfl⟩ ⟨Nat.zero_le _, Nat.zero_le _⟩ rfl rfl (by decide +kernel) rfl rfl rfl (Nat.le_of_ble_eq_true rfl) dX2_rivals_22 rfl (fun H locs hP hD hS => ?_)
              refine lv_if_ne (tgt := 40) hx hb dX2_rivals_25 (by decide) (fun c25 => ?_) (fun c25 => ?_)
              · have h := k_neg c25 h
                refine lv_iinc (v := (y3 + 1)) (lv' := [(3, .int (y3 + 1)), (0, .ref (aC 0)), (1, .int y1), (2, .int y2)]) hx hb dX2_rivals_40 hl (k := 3) rfl (by first | rfl | decide) (by decide) rfl (fun ls hl => ?_)
                refine lv_goto (tgt := 14) hx hb dX2_rivals_43 (by decide) ?_
                exact ih14 y1 (y3 + 1) H locs ls hP hD hS (lv_sub hl [1, 2, 3, 0] rfl) h
              · have h := k_pos c25 h
                refine lv_aload_n hx hb dX2_rivals_28 rfl (lv_at hl 0 rfl) ?_
                refine lv_iload_n hx hb dX2_rivals_29 rfl (lv_at hl 3 rfl) ?_
                refine lv_iload_n hx hb dX2_rivals_30 rfl (lv_at hl 2 rfl) ?_
                obtain ⟨r31, g31, h⟩ := k_bind h
                refine k_callV (As := [.int y3, .int y2]) (rest := []) (st1 := [.int r31]) (ws2 := (Wd11 cI aC aK c_men c_propped c_place c_swings c_crashes c_day c_crashedToday c_lean)) hx hb hml hown hts hK hN hA hP hD hS hl (c_City_trusts l D cI cM cS cJ aC aK H.size y3 y2 c_men c_propped c_place c_swings c_crashes c_day c_crashedToday c_lean g31) gX2_rivals_X2_trusts rfl kdV_X2_trusts 0 2 rfl rfl rfl [0, 1] ⟨rfl, rfl⟩ ⟨Nat.le_of_ble_eq_true rfl, Nat.le_of_ble_eq_true rfl⟩ ⟨Nat.zero_le _, Nat.zero_le _⟩ rfl rfl (by decide +kernel) rfl rfl rfl (Nat.le_of_ble_eq_true rfl) dX2_rivals_31 rfl (fun H locs hP hD hS => ?_)
                refine lv_if_ne (tgt := 40) hx hb dX2_rivals_34 (by decide) (fun c34 => ?_) (fun c34 => ?_)
                · have h := k_neg c34 h
                  refine lv_iinc (v := (y3 + 1)) (lv' := [(3, .int (y3 + 1)), (0, .ref (aC 0)), (1, .int y1), (2, .int y2)]) hx hb dX2_rivals_40 hl (k := 3) rfl (by first | rfl | decide) (by decide) rfl (fun ls hl => ?_)
                  refine lv_goto (tgt := 14) hx hb dX2_rivals_43 (by decide) ?_
                  exact ih14 y1 (y3 + 1) H locs ls hP hD hS (lv_sub hl [1, 2, 3, 0] rfl) h
                · have h := k_pos c34 h
                  refine lv_iinc (v := (y1 + 1)) (lv' := [(1, .int (y1 + 1)), (0, .ref (aC 0)), (2, .int y2), (3, .int y3)]) hx hb dX2_rivals_37 hl (k := 1) rfl (by first | rfl | decide) (by decide) rfl (fun ls hl => ?_)
                  refine lv_iinc (v := (y3 + 1)) (lv' := [(3, .int (y3 + 1)), (1, .int (y1 + 1)), (0, .ref (aC 0)), (2, .int y2)]) hx hb dX2_rivals_40 hl (k := 3) rfl (by first | rfl | decide) (by decide) rfl (fun ls hl => ?_)
                  refine lv_goto (tgt := 14) hx hb dX2_rivals_43 (by decide) ?_
                  exact ih14 (y1 + 1) (y3 + 1) H locs ls hP hD hS (lv_sub hl [2, 1, 3, 0] rfl) h
        refine lv_istore_n (lv' := [(3, .int 0), (0, .ref (aC 0)), (1, .int y1), (2, .int y2)]) hx hb dX2_rivals_13 rfl hl (by decide) rfl (fun ls hl => ?_)
        exact B14 y2 lfu y1 0 H locs ls hP hD hS (lv_sub hl [1, 2, 3, 0] rfl) h
  refine lv_istore_n (lv' := [(2, .int 0), (1, .int 0), (0, .ref (aC 0))]) hx hb dX2_rivals_3 rfl hl (by decide) rfl (fun ls hl => ?_)
  exact B4 lfu 0 0 s.heap [] ls hP hD hS (lv_sub hl [2, 1, 0] rfl) h
abbrev rm_X2_tellers : Room := { frames := 4, cells := 0, slots := 0, locals := 106 }
set_option maxHeartbeats 4000000 in
set_option maxRecDepth 100000 in
theorem c_City_tellers (l : Launch) (D : va_G) (cI cM cS cJ : ClassId) (aC : Nat → Nat) (aK : Nat → Nat) (sz : Nat) (x1 : Int32) (c_men : Int32) (c_propped : Int32) (c_place : Int32) (c_swings : Int32) (c_crashes : Int32) (c_day : Int32) (c_crashedToday : Int32) (c_lean : Nat → Int32) {o : (Int32)} (hsem : S_City_tellers x1 c_men c_lean = some o) : kMet l yX2_tellers wsX2_tellers rm_X2_tellers [.ref (aC 0), .int x1] D (kT cI cM cS cJ) (Wd11 cI aC aK c_men c_propped c_place c_swings c_crashes c_day c_crashedToday c_lean) sz (some (.int o)) (Wd11 cI aC aK c_men c_propped c_place c_swings c_crashes c_day c_crashedToday c_lean) := by
  refine k_metI (by decide) rfl rfl (Nat.le_of_ble_eq_true rfl) ?_
  intro p e s m below meth c ls Q A hx hb hml hts hown hK hN hA hP hD hS hl hsz hnm hret
  have hown : s.vm.findClass RX2 = some m.cls := hown
  have hf34 := hts (.fieldLink RX2 34 "PlumbLine$City" "men" "I") (List.mem_of_getElem? (i := 1) rfl)
  have hiX2 : ∀ w ∈ u_ws RX2 TX2 12, w ∈ wsX2_tellers := fun w h => List.mem_cons_of_mem _ (List.mem_append_right _ h)
  replace hl : lv_has ls 6 [(0, .ref (aC 0)), (1, .int x1)] := hl
  have h := hsem
  clear hsem
  rw [S_City_tellers] at h
  refine lv_aload_n hx hb dX2_tellers_0 rfl (lv_at hl 0 rfl) ?_
  refine lv_iload_n hx hb dX2_tellers_1 rfl (lv_at hl 1 rfl) ?_
  obtain ⟨r2, g2, h⟩ := k_bind h
  refine k_callV (As := [.int x1]) (rest := []) (st1 := [.int r2]) (ws2 := (Wd11 cI aC aK c_men c_propped c_place c_swings c_crashes c_day c_crashedToday c_lean)) hx hb hml hown hts hK hN hA hP hD hS hl (c_City_trustedBy l D cI cM cS cJ aC aK s.heap.size x1 c_men c_propped c_place c_swings c_crashes c_day c_crashedToday c_lean g2) gX2_tellers_X2_trustedBy rfl kdV_X2_trustedBy 0 2 rfl rfl rfl [0, 1] ⟨rfl, rfl⟩ ⟨Nat.le_of_ble_eq_true rfl, Nat.le_of_ble_eq_true rfl⟩ ⟨Nat.zero_le _, Nat.zero_le _⟩ rfl rfl (by decide +kernel) rfl rfl rfl (Nat.le_of_ble_eq_true rfl) dX2_tellers_2 rfl (fun H locs hP hD hS => ?_)
  refine lv_istore_n (lv' := [(2, .int r2), (0, .ref (aC 0)), (1, .int x1)]) hx hb dX2_tellers_5 rfl hl (by decide) rfl (fun ls hl => ?_)
  refine lv_iconst (v := 0) hx hb dX2_tellers_6 (by decide) ?_
  have B8 : ∀ (n8 : Nat) (y2 : Int32) (y3 : Int32) (H : Heap) (locs : List Loc) (ls : Array Slot), va_P D vwCl (Wd11 cI aC aK c_men c_propped c_place c_swings c_crashes c_day c_crashedToday c_lean) H → va_D A (Wd11 cI aC aK c_men c_propped c_place c_swings c_crashes c_day c_crashedToday c_lean) → va_S A s.heap H locs → lv_has ls 6 [(0, .ref (aC 0)), (2, .int y2), (3, .int y3)] → S_City_tellers_L8 c_men c_lean n8 y2 y3 = some o → W p l e rm_X2_tellers s m ([.ref (aC 0), .int x1] : List Value).toArray below meth c H locs 0 0 Q (F0 m 8 ls []) := by
    intro n8
    induction n8 with
    | zero => intro y2 y3 H locs ls hP hD hS hl h; exact absurd h (by simp [S_City_tellers_L8])
    | succ n8 ih8 =>
      intro y2 y3 H locs ls hP hD hS hl h
      rw [S_City_tellers_L8] at h
      refine lv_iload_n hx hb dX2_tellers_8 rfl (lv_at hl 2 rfl) ?_
      refine lv_aload_n hx hb dX2_tellers_9 rfl (lv_at hl 0 rfl) ?_
      refine va_get (D := D) (ci := 2) (v := .int c_men) (C := RX2) (T := TX2) (N := 12) hx hb hts hiX2 hown hK hP 0 rfl rfl 3 (by decide) hf34 (fun _ z => z) rfl dX2_tellers_10 ?_
      refine lv_icmp_ge (tgt := 66) hx hb dX2_tellers_13 (by decide) (fun c13 => ?_) (fun c13 => ?_)
      · have h := k_pos c13 h
        refine lv_iload_n hx hb dX2_tellers_66 rfl (lv_at hl 1 rfl) ?_
        cases h
        exact hret _ _ _ _ hP hS dX2_tellers_67
      · have h := k_neg c13 h
        refine lv_iload_n hx hb dX2_tellers_16 rfl (lv_at hl 1 rfl) ?_
        refine lv_istore (lv' := [(4, .int y2), (0, .ref (aC 0)), (2, .int y2), (3, .int y3)]) hx hb dX2_tellers_17 hl (by decide) rfl (fun ls hl => ?_)
        refine lv_iconst (v := 0) hx hb dX2_tellers_19 (by decide) ?_
        have B22 : ∀ (y2 : Int32) (y3 : Int32) (n22 : Nat) (y4 : Int32) (y5 : Int32) (H : Heap) (locs : List Loc) (ls : Array Slot), va_P D vwCl (Wd11 cI aC aK c_men c_propped c_place c_swings c_crashes c_day c_crashedToday c_lean) H → va_D A (Wd11 cI aC aK c_men c_propped c_place c_swings c_crashes c_day c_crashedToday c_lean) → va_S A s.heap H locs → lv_has ls 6 [(0, .ref (aC 0)), (2, .int y2), (3, .int y3), (4, .int y4), (5, .int y5)] → S_City_tellers_L22 (S_City_tellers_L8 c_men c_lean n8) y2 y3 c_men c_lean n22 y4 y5 = some o → W p l e rm_X2_tellers s m ([.ref (aC 0), .int x1] : List Value).toArray below meth c H locs 0 0 Q (F0 m 22 ls []) := by
          intro y2 y3
          intro n22
          induction n22 with
          | zero => intro y4 y5 H locs ls hP hD hS hl h; exact absurd h (by simp [S_City_tellers_L22])
          | succ n22 ih22 =>
            intro y4 y5 H locs ls hP hD hS hl h
            rw [S_City_tellers_L22] at h
            refine lv_iload hx hb dX2_tellers_22 (lv_at hl 4 rfl) ?_
            refine lv_aload_n hx hb dX2_tellers_24 rfl (lv_at hl 0 rfl) ?_
            refine va_get (D := D) (ci := 2) (v := .int c_men) (C := RX2) (T := TX2) (N := 12) hx hb hts hiX2 hown hK hP 0 rfl rfl 3 (by decide) hf34 (fun _ z => z) rfl dX2_tellers_25 ?_
            refine lv_icmp_ge (tgt := 57) hx hb dX2_tellers_28 (by decide) (fun c28 => ?_) (fun c28 => ?_)
            · have h := k_pos c28 h
              refine lv_iload hx hb dX2_tellers_57 (lv_at hl 3 rfl) ?_
              refine lv_istore_n (lv' := [(2, .int y4), (0, .ref (aC 0)), (3, .int y3), (4, .int y4), (5, .int y5)]) hx hb dX2_tellers_59 rfl hl (by decide) rfl (fun ls hl => ?_)
              refine lv_iinc (v := (y3 + 1)) (lv' := [(3, .int (y3 + 1)), (2, .int y4), (0, .ref (aC 0)), (4, .int y4), (5, .int y5)]) hx hb dX2_tellers_60 hl (k := 2) rfl (by first | rfl | decide) (by decide) rfl (fun ls hl => ?_)
              refine lv_goto (tgt := 8) hx hb dX2_tellers_63 (by decide) ?_
              exact ih8 y4 (y3 + 1) H locs ls hP hD hS (lv_sub hl [2, 1, 0] rfl) h
            · have h := k_neg c28 h
              refine lv_iload_n hx hb dX2_tellers_31 rfl (lv_at hl 1 rfl) ?_
              refine lv_iconst (v := 1) hx hb dX2_tellers_32 (by decide) ?_
              refine lv_iload hx hb dX2_tellers_33 (lv_at hl 4 rfl) ?_
              refine lv_ishl hx hb dX2_tellers_35 ?_
              refine lv_iand hx hb dX2_tellers_36 ?_
              refine lv_if_eq (tgt := 51) hx hb dX2_tellers_37 (by decide) (fun c37 => ?_) (fun c37 => ?_)
              · have h := k_pos c37 h
                refine lv_iinc (v := (y5 + 1)) (lv' := [(5, .int (y5 + 1)), (0, .ref (aC 0)), (2, .int y2), (3, .int y3), (4, .int y4)]) hx hb dX2_tellers_51 hl (k := 4) rfl (by first | rfl | decide) (by decide) rfl (fun ls hl => ?_)
                refine lv_goto (tgt := 22) hx hb dX2_tellers_54 (by decide) ?_
                exact ih22 y4 (y5 + 1) H locs ls hP hD hS (lv_sub hl [1, 2, 3, 4, 0] rfl) h
              · have h := k_neg c37 h
                refine lv_iload hx hb dX2_tellers_40 (lv_at hl 3 rfl) ?_
                refine lv_aload_n hx hb dX2_tellers_42 rfl (lv_at hl 0 rfl) ?_
                refine lv_iload hx hb dX2_tellers_43 (lv_at hl 4 rfl) ?_
                obtain ⟨r45, g45, h⟩ := k_bind h
                refine k_callV (As := [.int y5]) (rest := [.int y4]) (st1 := [.int r45, .int y4]) (ws2 := (Wd11 cI aC aK c_men c_propped c_place c_swings c_crashes c_day c_crashedToday c_lean)) hx hb hml hown hts hK hN hA hP hD hS hl (c_City_trustedBy l D cI cM cS cJ aC aK H.size y5 c_men c_propped c_place c_swings c_crashes c_day c_crashedToday c_lean g45) gX2_tellers_X2_trustedBy rfl kdV_X2_trustedBy 0 2 rfl rfl rfl [0, 1] ⟨rfl, rfl⟩ ⟨Nat.le_of_ble_eq_true rfl, Nat.le_of_ble_eq_true rfl⟩ ⟨Nat.zero_le _, Nat.zero_le _⟩ rfl rfl (by decide +kernel) rfl rfl rfl (Nat.le_of_ble_eq_true rfl) dX2_tellers_45 rfl (fun H locs hP hD hS => ?_)
                refine lv_ior hx hb dX2_tellers_48 ?_
                refine lv_istore (lv' := [(4, .int (y4 ||| r45)), (0, .ref (aC 0)), (2, .int y2), (3, .int y3), (5, .int y5)]) hx hb dX2_tellers_49 hl (by decide) rfl (fun ls hl => ?_)
                refine lv_iinc (v := (y5 + 1)) (lv' := [(5, .int (y5 + 1)), (4, .int (y4 ||| r45)), (0, .ref (aC 0)), (2, .int y2), (3, .int y3)]) hx hb dX2_tellers_51 hl (k := 4) rfl (by first | rfl | decide) (by decide) rfl (fun ls hl => ?_)
                refine lv_goto (tgt := 22) hx hb dX2_tellers_54 (by decide) ?_
                exact ih22 (y4 ||| r45) (y5 + 1) H locs ls hP hD hS (lv_sub hl [2, 3, 4, 1, 0] rfl) h
        refine lv_istore (lv' := [(5, .int 0), (4, .int y2), (0, .ref (aC 0)), (2, .int y2), (3, .int y3)]) hx hb dX2_tellers_20 hl (by decide) rfl (fun ls hl => ?_)
        exact B22 y2 y3 lfu y2 0 H locs ls hP hD hS (lv_sub hl [2, 3, 4, 1, 0] rfl) h
  refine lv_istore_n (lv' := [(3, .int 0), (2, .int r2), (0, .ref (aC 0)), (1, .int x1)]) hx hb dX2_tellers_7 rfl hl (by decide) rfl (fun ls hl => ?_)
  exact B8 lfu r2 0 H locs ls hP hD hS (lv_sub hl [2, 1, 0] rfl) h
