abbrev Wd5 (cI : ClassId) (aC : Nat → Nat) (aO : Nat → Nat) (aK : Nat → Nat) (c_men : Int32) (c_propped : Int32) (c_place : Int32) (c_swings : Int32) (c_crashes : Int32) (c_day : Int32) (c_crashedToday : Int32) (c_kind : Nat → Int32) (c_figure : Nat → Int32) (c_lean : Nat → Int32) (o_men : Int32) (o_propped : Int32) (o_place : Int32) (o_swings : Int32) (o_crashes : Int32) (o_day : Int32) (o_crashedToday : Int32) (o_kind : Nat → Int32) (o_figure : Nat → Int32) (o_lean : Nat → Int32) : va_W := [((aC 0), .inr (2, [.ref (aC 1), .ref (aC 2), .ref (aC 3), .int c_men, .int c_propped, .int c_place, .int c_swings, .int c_crashes, .int c_day, .int c_crashedToday, .ref (aK 8), .ref (aC 4)])), ((aC 1), .inl (cI, 8, .inl c_kind)), ((aC 2), .inl (cI, 8, .inl c_figure)), ((aC 3), .inl (cI, 8, .inl c_lean)), ((aO 0), .inr (2, [.ref (aO 1), .ref (aO 2), .ref (aO 3), .int o_men, .int o_propped, .int o_place, .int o_swings, .int o_crashes, .int o_day, .int o_crashedToday, .ref (aK 8), .ref (aO 4)])), ((aO 1), .inl (cI, 8, .inl o_kind)), ((aO 2), .inl (cI, 8, .inl o_figure)), ((aO 3), .inl (cI, 8, .inl o_lean))]
abbrev rm_X2_becomes : Room := { frames := 1, cells := 0, slots := 0, locals := 60 }
set_option maxHeartbeats 4000000 in
set_option maxRecDepth 100000 in
theorem c_City_becomes (l : Launch) (D : va_G) (cI cM cS cJ : ClassId) (aC : Nat → Nat) (aO : Nat → Nat) (aK : Nat → Nat) (sz : Nat) (c_men : Int32) (c_propped : Int32) (c_place : Int32) (c_swings : Int32) (c_crashes : Int32) (c_day : Int32) (c_crashedToday : Int32) (c_kind : Nat → Int32) (c_figure : Nat → Int32) (c_lean : Nat → Int32) (o_men : Int32) (o_propped : Int32) (o_place : Int32) (o_swings : Int32) (o_crashes : Int32) (o_day : Int32) (o_crashedToday : Int32) (o_kind : Nat → Int32) (o_figure : Nat → Int32) (o_lean : Nat → Int32) {o : (Int32) × (Int32) × (Int32) × (Int32) × (Int32) × (Int32) × (Nat → Int32) × (Nat → Int32) × (Nat → Int32)} (hsem : S_City_becomes c_men c_propped c_place c_swings c_crashes c_day c_kind c_figure c_lean o_men o_propped o_place o_swings o_crashes o_day o_kind o_figure o_lean = some o) : kMet l yX2_becomes wsX2_becomes rm_X2_becomes [.ref (aC 0), .ref (aO 0)] D (kT cI cM cS cJ) (Wd5 cI aC aO aK c_men c_propped c_place c_swings c_crashes c_day c_crashedToday c_kind c_figure c_lean o_men o_propped o_place o_swings o_crashes o_day o_crashedToday o_kind o_figure o_lean) sz none (Wd5 cI aC aO aK o.1 o.2.1 o.2.2.1 o.2.2.2.1 o.2.2.2.2.1 o.2.2.2.2.2.1 c_crashedToday o.2.2.2.2.2.2.1 o.2.2.2.2.2.2.2.1 o.2.2.2.2.2.2.2.2 o_men o_propped o_place o_swings o_crashes o_day o_crashedToday o_kind o_figure o_lean) := by
  refine k_metV (by decide) rfl rfl (Nat.le_of_ble_eq_true rfl) ?_
  intro p e s m below meth c ls Q A hx hb hml hts hown hK hN hA hP hD hS hl hsz hnm hret
  have hown : s.vm.findClass RX2 = some m.cls := hown
  have hf9 := hts (.fieldLink RX2 9 "PlumbLine$City" "kind" "[I") (List.mem_of_getElem? (i := 1) rfl)
  have hf15 := hts (.fieldLink RX2 15 "PlumbLine$City" "figure" "[I") (List.mem_of_getElem? (i := 6) rfl)
  have hf18 := hts (.fieldLink RX2 18 "PlumbLine$City" "lean" "[I") (List.mem_of_getElem? (i := 7) rfl)
  have hf34 := hts (.fieldLink RX2 34 "PlumbLine$City" "men" "I") (List.mem_of_getElem? (i := 8) rfl)
  have hf38 := hts (.fieldLink RX2 38 "PlumbLine$City" "propped" "I") (List.mem_of_getElem? (i := 9) rfl)
  have hf41 := hts (.fieldLink RX2 41 "PlumbLine$City" "place" "I") (List.mem_of_getElem? (i := 10) rfl)
  have hf44 := hts (.fieldLink RX2 44 "PlumbLine$City" "swings" "I") (List.mem_of_getElem? (i := 11) rfl)
  have hf47 := hts (.fieldLink RX2 47 "PlumbLine$City" "crashes" "I") (List.mem_of_getElem? (i := 12) rfl)
  have hf50 := hts (.fieldLink RX2 50 "PlumbLine$City" "day" "I") (List.mem_of_getElem? (i := 13) rfl)
  have hiX2 : ∀ w ∈ u_ws RX2 TX2 12, w ∈ wsX2_becomes := fun w h => List.mem_cons_of_mem _ (List.mem_append_right _ h)
  replace hl : lv_has ls 2 [(0, .ref (aC 0)), (1, .ref (aO 0))] := hl
  have h := hsem
  clear hsem
  rw [S_City_becomes] at h
  refine lv_aload_n hx hb dX2_becomes_0 rfl (lv_at hl 1 rfl) ?_
  refine va_get (D := D) (ci := 2) (v := .ref (aO 1)) (C := RX2) (T := TX2) (N := 12) hx hb hts hiX2 hown hK hP 4 rfl rfl 0 (by decide) hf9 (fun _ z => z) rfl dX2_becomes_1 ?_
  refine lv_iconst (v := 0) hx hb dX2_becomes_4 (by decide) ?_
  refine lv_aload_n hx hb dX2_becomes_5 rfl (lv_at hl 0 rfl) ?_
  refine va_get (D := D) (ci := 2) (v := .ref (aC 1)) (C := RX2) (T := TX2) (N := 12) hx hb hts hiX2 hown hK hP 0 rfl rfl 0 (by decide) hf9 (fun _ z => z) rfl dX2_becomes_6 ?_
  refine lv_iconst (v := 0) hx hb dX2_becomes_9 (by decide) ?_
  refine lv_bipush (v := 8) hx hb dX2_becomes_10 (by decide) ?_
  refine va_copyi (own := RX2) (index := 28) (ty := .int) hx hb (hml.trans hl.1.symm) hown (hts _ (List.mem_of_getElem? (i := 2) rfl)) (hts _ (List.mem_of_getElem? (i := 3) rfl)) (hts _ (List.mem_of_getElem? (i := 4) rfl)) (hts _ (List.mem_of_getElem? (i := 5) rfl)) hK hP hD hS 5 1 0 0 rfl rfl rfl rfl rfl (by decide) (by decide) (by decide) (by decide) (by decide) (fun _ _ => rfl) (Nat.le_of_ble_eq_true rfl) (by decide +kernel) dX2_becomes_12 (fun H locs hP hD hS => ?_)
  replace hP : va_P D vwCl (Wd5 cI aC aO aK c_men c_propped c_place c_swings c_crashes c_day c_crashedToday (va_cpy o_kind c_kind (0 : Int32).toNatClampNeg (0 : Int32).toNatClampNeg (8 : Int32).toNatClampNeg) c_figure c_lean o_men o_propped o_place o_swings o_crashes o_day o_crashedToday o_kind o_figure o_lean) H := hP
  replace hD : va_D A (Wd5 cI aC aO aK c_men c_propped c_place c_swings c_crashes c_day c_crashedToday (va_cpy o_kind c_kind (0 : Int32).toNatClampNeg (0 : Int32).toNatClampNeg (8 : Int32).toNatClampNeg) c_figure c_lean o_men o_propped o_place o_swings o_crashes o_day o_crashedToday o_kind o_figure o_lean) := hD
  refine lv_aload_n hx hb dX2_becomes_15 rfl (lv_at hl 1 rfl) ?_
  refine va_get (D := D) (ci := 2) (v := .ref (aO 2)) (C := RX2) (T := TX2) (N := 12) hx hb hts hiX2 hown hK hP 4 rfl rfl 1 (by decide) hf15 (fun _ z => z) rfl dX2_becomes_16 ?_
  refine lv_iconst (v := 0) hx hb dX2_becomes_19 (by decide) ?_
  refine lv_aload_n hx hb dX2_becomes_20 rfl (lv_at hl 0 rfl) ?_
  refine va_get (D := D) (ci := 2) (v := .ref (aC 2)) (C := RX2) (T := TX2) (N := 12) hx hb hts hiX2 hown hK hP 0 rfl rfl 1 (by decide) hf15 (fun _ z => z) rfl dX2_becomes_21 ?_
  refine lv_iconst (v := 0) hx hb dX2_becomes_24 (by decide) ?_
  refine lv_bipush (v := 8) hx hb dX2_becomes_25 (by decide) ?_
  refine va_copyi (own := RX2) (index := 28) (ty := .int) hx hb (hml.trans hl.1.symm) hown (hts _ (List.mem_of_getElem? (i := 2) rfl)) (hts _ (List.mem_of_getElem? (i := 3) rfl)) (hts _ (List.mem_of_getElem? (i := 4) rfl)) (hts _ (List.mem_of_getElem? (i := 5) rfl)) hK hP hD hS 6 2 0 0 rfl rfl rfl rfl rfl (by decide) (by decide) (by decide) (by decide) (by decide) (fun _ _ => rfl) (Nat.le_of_ble_eq_true rfl) (by decide +kernel) dX2_becomes_27 (fun H locs hP hD hS => ?_)
  replace hP : va_P D vwCl (Wd5 cI aC aO aK c_men c_propped c_place c_swings c_crashes c_day c_crashedToday (va_cpy o_kind c_kind (0 : Int32).toNatClampNeg (0 : Int32).toNatClampNeg (8 : Int32).toNatClampNeg) (va_cpy o_figure c_figure (0 : Int32).toNatClampNeg (0 : Int32).toNatClampNeg (8 : Int32).toNatClampNeg) c_lean o_men o_propped o_place o_swings o_crashes o_day o_crashedToday o_kind o_figure o_lean) H := hP
  replace hD : va_D A (Wd5 cI aC aO aK c_men c_propped c_place c_swings c_crashes c_day c_crashedToday (va_cpy o_kind c_kind (0 : Int32).toNatClampNeg (0 : Int32).toNatClampNeg (8 : Int32).toNatClampNeg) (va_cpy o_figure c_figure (0 : Int32).toNatClampNeg (0 : Int32).toNatClampNeg (8 : Int32).toNatClampNeg) c_lean o_men o_propped o_place o_swings o_crashes o_day o_crashedToday o_kind o_figure o_lean) := hD
  refine lv_aload_n hx hb dX2_becomes_30 rfl (lv_at hl 1 rfl) ?_
  refine va_get (D := D) (ci := 2) (v := .ref (aO 3)) (C := RX2) (T := TX2) (N := 12) hx hb hts hiX2 hown hK hP 4 rfl rfl 2 (by decide) hf18 (fun _ z => z) rfl dX2_becomes_31 ?_
  refine lv_iconst (v := 0) hx hb dX2_becomes_34 (by decide) ?_
  refine lv_aload_n hx hb dX2_becomes_35 rfl (lv_at hl 0 rfl) ?_
  refine va_get (D := D) (ci := 2) (v := .ref (aC 3)) (C := RX2) (T := TX2) (N := 12) hx hb hts hiX2 hown hK hP 0 rfl rfl 2 (by decide) hf18 (fun _ z => z) rfl dX2_becomes_36 ?_
  refine lv_iconst (v := 0) hx hb dX2_becomes_39 (by decide) ?_
  refine lv_bipush (v := 8) hx hb dX2_becomes_40 (by decide) ?_
  refine va_copyi (own := RX2) (index := 28) (ty := .int) hx hb (hml.trans hl.1.symm) hown (hts _ (List.mem_of_getElem? (i := 2) rfl)) (hts _ (List.mem_of_getElem? (i := 3) rfl)) (hts _ (List.mem_of_getElem? (i := 4) rfl)) (hts _ (List.mem_of_getElem? (i := 5) rfl)) hK hP hD hS 7 3 0 0 rfl rfl rfl rfl rfl (by decide) (by decide) (by decide) (by decide) (by decide) (fun _ _ => rfl) (Nat.le_of_ble_eq_true rfl) (by decide +kernel) dX2_becomes_42 (fun H locs hP hD hS => ?_)
  replace hP : va_P D vwCl (Wd5 cI aC aO aK c_men c_propped c_place c_swings c_crashes c_day c_crashedToday (va_cpy o_kind c_kind (0 : Int32).toNatClampNeg (0 : Int32).toNatClampNeg (8 : Int32).toNatClampNeg) (va_cpy o_figure c_figure (0 : Int32).toNatClampNeg (0 : Int32).toNatClampNeg (8 : Int32).toNatClampNeg) (va_cpy o_lean c_lean (0 : Int32).toNatClampNeg (0 : Int32).toNatClampNeg (8 : Int32).toNatClampNeg) o_men o_propped o_place o_swings o_crashes o_day o_crashedToday o_kind o_figure o_lean) H := hP
  replace hD : va_D A (Wd5 cI aC aO aK c_men c_propped c_place c_swings c_crashes c_day c_crashedToday (va_cpy o_kind c_kind (0 : Int32).toNatClampNeg (0 : Int32).toNatClampNeg (8 : Int32).toNatClampNeg) (va_cpy o_figure c_figure (0 : Int32).toNatClampNeg (0 : Int32).toNatClampNeg (8 : Int32).toNatClampNeg) (va_cpy o_lean c_lean (0 : Int32).toNatClampNeg (0 : Int32).toNatClampNeg (8 : Int32).toNatClampNeg) o_men o_propped o_place o_swings o_crashes o_day o_crashedToday o_kind o_figure o_lean) := hD
  refine lv_aload_n hx hb dX2_becomes_45 rfl (lv_at hl 0 rfl) ?_
  refine lv_aload_n hx hb dX2_becomes_46 rfl (lv_at hl 1 rfl) ?_
  refine va_get (D := D) (ci := 2) (v := .int o_men) (C := RX2) (T := TX2) (N := 12) hx hb hts hiX2 hown hK hP 4 rfl rfl 3 (by decide) hf34 (fun _ z => z) rfl dX2_becomes_47 ?_
  refine va_put (D := D) (ci := 2) (v := .int o_men) (ty := .int) (C := RX2) (T := TX2) (N := 12) hx hb hts hiX2 tyX2 tyX2_ok nmX2 hown hK hP hD hS 0 rfl rfl 3 (by decide) hf34 (fun _ z => z) rfl (by decide +kernel) rfl rfl (Nat.le_of_ble_eq_true rfl) dX2_becomes_50 (fun H locs hP hD hS => ?_)
  replace hP : va_P D vwCl (Wd5 cI aC aO aK o_men c_propped c_place c_swings c_crashes c_day c_crashedToday (va_cpy o_kind c_kind (0 : Int32).toNatClampNeg (0 : Int32).toNatClampNeg (8 : Int32).toNatClampNeg) (va_cpy o_figure c_figure (0 : Int32).toNatClampNeg (0 : Int32).toNatClampNeg (8 : Int32).toNatClampNeg) (va_cpy o_lean c_lean (0 : Int32).toNatClampNeg (0 : Int32).toNatClampNeg (8 : Int32).toNatClampNeg) o_men o_propped o_place o_swings o_crashes o_day o_crashedToday o_kind o_figure o_lean) H := hP
  replace hD : va_D A (Wd5 cI aC aO aK o_men c_propped c_place c_swings c_crashes c_day c_crashedToday (va_cpy o_kind c_kind (0 : Int32).toNatClampNeg (0 : Int32).toNatClampNeg (8 : Int32).toNatClampNeg) (va_cpy o_figure c_figure (0 : Int32).toNatClampNeg (0 : Int32).toNatClampNeg (8 : Int32).toNatClampNeg) (va_cpy o_lean c_lean (0 : Int32).toNatClampNeg (0 : Int32).toNatClampNeg (8 : Int32).toNatClampNeg) o_men o_propped o_place o_swings o_crashes o_day o_crashedToday o_kind o_figure o_lean) := hD
  refine lv_aload_n hx hb dX2_becomes_53 rfl (lv_at hl 0 rfl) ?_
  refine lv_aload_n hx hb dX2_becomes_54 rfl (lv_at hl 1 rfl) ?_
  refine va_get (D := D) (ci := 2) (v := .int o_propped) (C := RX2) (T := TX2) (N := 12) hx hb hts hiX2 hown hK hP 4 rfl rfl 4 (by decide) hf38 (fun _ z => z) rfl dX2_becomes_55 ?_
  refine va_put (D := D) (ci := 2) (v := .int o_propped) (ty := .int) (C := RX2) (T := TX2) (N := 12) hx hb hts hiX2 tyX2 tyX2_ok nmX2 hown hK hP hD hS 0 rfl rfl 4 (by decide) hf38 (fun _ z => z) rfl (by decide +kernel) rfl rfl (Nat.le_of_ble_eq_true rfl) dX2_becomes_58 (fun H locs hP hD hS => ?_)
  replace hP : va_P D vwCl (Wd5 cI aC aO aK o_men o_propped c_place c_swings c_crashes c_day c_crashedToday (va_cpy o_kind c_kind (0 : Int32).toNatClampNeg (0 : Int32).toNatClampNeg (8 : Int32).toNatClampNeg) (va_cpy o_figure c_figure (0 : Int32).toNatClampNeg (0 : Int32).toNatClampNeg (8 : Int32).toNatClampNeg) (va_cpy o_lean c_lean (0 : Int32).toNatClampNeg (0 : Int32).toNatClampNeg (8 : Int32).toNatClampNeg) o_men o_propped o_place o_swings o_crashes o_day o_crashedToday o_kind o_figure o_lean) H := hP
  replace hD : va_D A (Wd5 cI aC aO aK o_men o_propped c_place c_swings c_crashes c_day c_crashedToday (va_cpy o_kind c_kind (0 : Int32).toNatClampNeg (0 : Int32).toNatClampNeg (8 : Int32).toNatClampNeg) (va_cpy o_figure c_figure (0 : Int32).toNatClampNeg (0 : Int32).toNatClampNeg (8 : Int32).toNatClampNeg) (va_cpy o_lean c_lean (0 : Int32).toNatClampNeg (0 : Int32).toNatClampNeg (8 : Int32).toNatClampNeg) o_men o_propped o_place o_swings o_crashes o_day o_crashedToday o_kind o_figure o_lean) := hD
  refine lv_aload_n hx hb dX2_becomes_61 rfl (lv_at hl 0 rfl) ?_
  refine lv_aload_n hx hb dX2_becomes_62 rfl (lv_at hl 1 rfl) ?_
  refine va_get (D := D) (ci := 2) (v := .int o_place) (C := RX2) (T := TX2) (N := 12) hx hb hts hiX2 hown hK hP 4 rfl rfl 5 (by decide) hf41 (fun _ z => z) rfl dX2_becomes_63 ?_
  refine va_put (D := D) (ci := 2) (v := .int o_place) (ty := .int) (C := RX2) (T := TX2) (N := 12) hx hb hts hiX2 tyX2 tyX2_ok nmX2 hown hK hP hD hS 0 rfl rfl 5 (by decide) hf41 (fun _ z => z) rfl (by decide +kernel) rfl rfl (Nat.le_of_ble_eq_true rfl) dX2_becomes_66 (fun H locs hP hD hS => ?_)
  replace hP : va_P D vwCl (Wd5 cI aC aO aK o_men o_propped o_place c_swings c_crashes c_day c_crashedToday (va_cpy o_kind c_kind (0 : Int32).toNatClampNeg (0 : Int32).toNatClampNeg (8 : Int32).toNatClampNeg) (va_cpy o_figure c_figure (0 : Int32).toNatClampNeg (0 : Int32).toNatClampNeg (8 : Int32).toNatClampNeg) (va_cpy o_lean c_lean (0 : Int32).toNatClampNeg (0 : Int32).toNatClampNeg (8 : Int32).toNatClampNeg) o_men o_propped o_place o_swings o_crashes o_day o_crashedToday o_kind o_figure o_lean) H := hP
  replace hD : va_D A (Wd5 cI aC aO aK o_men o_propped o_place c_swings c_crashes c_day c_crashedToday (va_cpy o_kind c_kind (0 : Int32).toNatClampNeg (0 : Int32).toNatClampNeg (8 : Int32).toNatClampNeg) (va_cpy o_figure c_figure (0 : Int32).toNatClampNeg (0 : Int32).toNatClampNeg (8 : Int32).toNatClampNeg) (va_cpy o_lean c_lean (0 : Int32).toNatClampNeg (0 : Int32).toNatClampNeg (8 : Int32).toNatClampNeg) o_men o_propped o_place o_swings o_crashes o_day o_crashedToday o_kind o_figure o_lean) := hD
  refine lv_aload_n hx hb dX2_becomes_69 rfl (lv_at hl 0 rfl) ?_
  refine lv_aload_n hx hb dX2_becomes_70 rfl (lv_at hl 1 rfl) ?_
  refine va_get (D := D) (ci := 2) (v := .int o_swings) (C := RX2) (T := TX2) (N := 12) hx hb hts hiX2 hown hK hP 4 rfl rfl 6 (by decide) hf44 (fun _ z => z) rfl dX2_becomes_71 ?_
  refine va_put (D := D) (ci := 2) (v := .int o_swings) (ty := .int) (C := RX2) (T := TX2) (N := 12) hx hb hts hiX2 tyX2 tyX2_ok nmX2 hown hK hP hD hS 0 rfl rfl 6 (by decide) hf44 (fun _ z => z) rfl (by decide +kernel) rfl rfl (Nat.le_of_ble_eq_true rfl) dX2_becomes_74 (fun H locs hP hD hS => ?_)
  replace hP : va_P D vwCl (Wd5 cI aC aO aK o_men o_propped o_place o_swings c_crashes c_day c_crashedToday (va_cpy o_kind c_kind (0 : Int32).toNatClampNeg (0 : Int32).toNatClampNeg (8 : Int32).toNatClampNeg) (va_cpy o_figure c_figure (0 : Int32).toNatClampNeg (0 : Int32).toNatClampNeg (8 : Int32).toNatClampNeg) (va_cpy o_lean c_lean (0 : Int32).toNatClampNeg (0 : Int32).toNatClampNeg (8 : Int32).toNatClampNeg) o_men o_propped o_place o_swings o_crashes o_day o_crashedToday o_kind o_figure o_lean) H := hP
  replace hD : va_D A (Wd5 cI aC aO aK o_men o_propped o_place o_swings c_crashes c_day c_crashedToday (va_cpy o_kind c_kind (0 : Int32).toNatClampNeg (0 : Int32).toNatClampNeg (8 : Int32).toNatClampNeg) (va_cpy o_figure c_figure (0 : Int32).toNatClampNeg (0 : Int32).toNatClampNeg (8 : Int32).toNatClampNeg) (va_cpy o_lean c_lean (0 : Int32).toNatClampNeg (0 : Int32).toNatClampNeg (8 : Int32).toNatClampNeg) o_men o_propped o_place o_swings o_crashes o_day o_crashedToday o_kind o_figure o_lean) := hD
  refine lv_aload_n hx hb dX2_becomes_77 rfl (lv_at hl 0 rfl) ?_
  refine lv_aload_n hx hb dX2_becomes_78 rfl (lv_at hl 1 rfl) ?_
  refine va_get (D := D) (ci := 2) (v := .int o_crashes) (C := RX2) (T := TX2) (N := 12) hx hb hts hiX2 hown hK hP 4 rfl rfl 7 (by decide) hf47 (fun _ z => z) rfl dX2_becomes_79 ?_
  refine va_put (D := D) (ci := 2) (v := .int o_crashes) (ty := .int) (C := RX2) (T := TX2) (N := 12) hx hb hts hiX2 tyX2 tyX2_ok nmX2 hown hK hP hD hS 0 rfl rfl 7 (by decide) hf47 (fun _ z => z) rfl (by decide +kernel) rfl rfl (Nat.le_of_ble_eq_true rfl) dX2_becomes_82 (fun H locs hP hD hS => ?_)
  replace hP : va_P D vwCl (Wd5 cI aC aO aK o_men o_propped o_place o_swings o_crashes c_day c_crashedToday (va_cpy o_kind c_kind (0 : Int32).toNatClampNeg (0 : Int32).toNatClampNeg (8 : Int32).toNatClampNeg) (va_cpy o_figure c_figure (0 : Int32).toNatClampNeg (0 : Int32).toNatClampNeg (8 : Int32).toNatClampNeg) (va_cpy o_lean c_lean (0 : Int32).toNatClampNeg (0 : Int32).toNatClampNeg (8 : Int32).toNatClampNeg) o_men o_propped o_place o_swings o_crashes o_day o_crashedToday o_kind o_figure o_lean) H := hP
  replace hD : va_D A (Wd5 cI aC aO aK o_men o_propped o_place o_swings o_crashes c_day c_crashedToday (va_cpy o_kind c_kind (0 : Int32).toNatClampNeg (0 : Int32).toNatClampNeg (8 : Int32).toNatClampNeg) (va_cpy o_figure c_figure (0 : Int32).toNatClampNeg (0 : Int32).toNatClampNeg (8 : Int32).toNatClampNeg) (va_cpy o_lean c_lean (0 : Int32).toNatClampNeg (0 : Int32).toNatClampNeg (8 : Int32).toNatClampNeg) o_men o_propped o_place o_swings o_crashes o_day o_crashedToday o_kind o_figure o_lean) := hD
  refine lv_aload_n hx hb dX2_becomes_85 rfl (lv_at hl 0 rfl) ?_
  refine lv_aload_n hx hb dX2_becomes_86 rfl (lv_at hl 1 rfl) ?_
  refine va_get (D := D) (ci := 2) (v := .int o_day) (C := RX2) (T := TX2) (N := 12) hx hb hts hiX2 hown hK hP 4 rfl rfl 8 (by decide) hf50 (fun _ z => z) rfl dX2_becomes_87 ?_
  refine va_put (D := D) (ci := 2) (v := .int o_day) (ty := .int) (C := RX2) (T := TX2) (N := 12) hx hb hts hiX2 tyX2 tyX2_ok nmX2 hown hK hP hD hS 0 rfl rfl 8 (by decide) hf50 (fun _ z => z) rfl (by decide +kernel) rfl rfl (Nat.le_of_ble_eq_true rfl) dX2_becomes_90 (fun H locs hP hD hS => ?_)
  replace hP : va_P D vwCl (Wd5 cI aC aO aK o_men o_propped o_place o_swings o_crashes o_day c_crashedToday (va_cpy o_kind c_kind (0 : Int32).toNatClampNeg (0 : Int32).toNatClampNeg (8 : Int32).toNatClampNeg) (va_cpy o_figure c_figure (0 : Int32).toNatClampNeg (0 : Int32).toNatClampNeg (8 : Int32).toNatClampNeg) (va_cpy o_lean c_lean (0 : Int32).toNatClampNeg (0 : Int32).toNatClampNeg (8 : Int32).toNatClampNeg) o_men o_propped o_place o_swings o_crashes o_day o_crashedToday o_kind o_figure o_lean) H := hP
  replace hD : va_D A (Wd5 cI aC aO aK o_men o_propped o_place o_swings o_crashes o_day c_crashedToday (va_cpy o_kind c_kind (0 : Int32).toNatClampNeg (0 : Int32).toNatClampNeg (8 : Int32).toNatClampNeg) (va_cpy o_figure c_figure (0 : Int32).toNatClampNeg (0 : Int32).toNatClampNeg (8 : Int32).toNatClampNeg) (va_cpy o_lean c_lean (0 : Int32).toNatClampNeg (0 : Int32).toNatClampNeg (8 : Int32).toNatClampNeg) o_men o_propped o_place o_swings o_crashes o_day o_crashedToday o_kind o_figure o_lean) := hD
  cases h
  exact hret _ _ _ _ hP hS dX2_becomes_93
abbrev Wd6 (aC : Nat → Nat) (aK : Nat → Nat) (c_men : Int32) (c_propped : Int32) (c_place : Int32) (c_swings : Int32) (c_crashes : Int32) (c_day : Int32) (c_crashedToday : Int32) : va_W := [((aC 0), .inr (2, [.ref (aC 1), .ref (aC 2), .ref (aC 3), .int c_men, .int c_propped, .int c_place, .int c_swings, .int c_crashes, .int c_day, .int c_crashedToday, .ref (aK 8), .ref (aC 4)]))]
abbrev rm_X2_has : Room := { frames := 0, cells := 0, slots := 0, locals := 0 }
set_option maxHeartbeats 4000000 in
set_option maxRecDepth 100000 in
theorem c_City_has (l : Launch) (D : va_G) (cI cM cS cJ : ClassId) (aC : Nat → Nat) (aK : Nat → Nat) (sz : Nat) (x1 : Int32) (c_men : Int32) (c_propped : Int32) (c_place : Int32) (c_swings : Int32) (c_crashes : Int32) (c_day : Int32) (c_crashedToday : Int32) {o : (Int32)} (hsem : S_City_has x1 c_men = o) : kMet l yX2_has wsX2_has rm_X2_has [.ref (aC 0), .int x1] D (kT cI cM cS cJ) (Wd6 aC aK c_men c_propped c_place c_swings c_crashes c_day c_crashedToday) sz (some (.int o)) (Wd6 aC aK c_men c_propped c_place c_swings c_crashes c_day c_crashedToday) := by
  refine k_metZ (by decide) rfl rfl (Nat.le_of_ble_eq_true rfl) ?_
  intro p e s m below meth c ls Q A hx hb hml hts hown hK hN hA hP hD hS hl hsz hnm hret
  have hown : s.vm.findClass RX2 = some m.cls := hown
  have hf34 := hts (.fieldLink RX2 34 "PlumbLine$City" "men" "I") (List.mem_of_getElem? (i := 1) rfl)
  have hiX2 : ∀ w ∈ u_ws RX2 TX2 12, w ∈ wsX2_has := fun w h => List.mem_cons_of_mem _ (List.mem_append_right _ h)
  replace hl : lv_has ls 2 [(0, .ref (aC 0)), (1, .int x1)] := hl
  have h := hsem
  clear hsem
  rw [S_City_has] at h
  refine lv_iload_n hx hb dX2_has_0 rfl (lv_at hl 1 rfl) ?_
  refine lv_if_lt (tgt := 16) hx hb dX2_has_1 (by decide) (fun c1 => ?_) (fun c1 => ?_)
  · have h := k_pos c1 h
    refine lv_iconst (v := 0) hx hb dX2_has_16 (by decide) ?_
    cases h
    exact hret _ _ _ _ rfl hP hS dX2_has_17
  · have h := k_neg c1 h
    refine lv_iload_n hx hb dX2_has_4 rfl (lv_at hl 1 rfl) ?_
    refine lv_aload_n hx hb dX2_has_5 rfl (lv_at hl 0 rfl) ?_
    refine va_get (D := D) (ci := 2) (v := .int c_men) (C := RX2) (T := TX2) (N := 12) hx hb hts hiX2 hown hK hP 0 rfl rfl 3 (by decide) hf34 (fun _ z => z) rfl dX2_has_6 ?_
    refine lv_icmp_ge (tgt := 16) hx hb dX2_has_9 (by decide) (fun c9 => ?_) (fun c9 => ?_)
    · have h := k_pos c9 h
      refine lv_iconst (v := 0) hx hb dX2_has_16 (by decide) ?_
      cases h
      exact hret _ _ _ _ rfl hP hS dX2_has_17
    · have h := k_neg c9 h
      refine lv_iconst (v := 1) hx hb dX2_has_12 (by decide) ?_
      refine lv_goto (tgt := 17) hx hb dX2_has_13 (by decide) ?_
      cases h
      exact hret _ _ _ _ rfl hP hS dX2_has_17
abbrev Wd7 (cI : ClassId) (aC : Nat → Nat) (aK : Nat → Nat) (c_men : Int32) (c_propped : Int32) (c_place : Int32) (c_swings : Int32) (c_crashes : Int32) (c_day : Int32) (c_crashedToday : Int32) (c_kind : Nat → Int32) (c_figure : Nat → Int32) (c_lean : Nat → Int32) : va_W := [((aC 0), .inr (2, [.ref (aC 1), .ref (aC 2), .ref (aC 3), .int c_men, .int c_propped, .int c_place, .int c_swings, .int c_crashes, .int c_day, .int c_crashedToday, .ref (aK 8), .ref (aC 4)])), ((aC 1), .inl (cI, 8, .inl c_kind)), ((aC 2), .inl (cI, 8, .inl c_figure)), ((aC 3), .inl (cI, 8, .inl c_lean))]
abbrev rm_X2_takesIn : Room := { frames := 0, cells := 0, slots := 0, locals := 0 }
set_option maxHeartbeats 4000000 in
set_option maxRecDepth 100000 in
theorem c_City_takesIn (l : Launch) (D : va_G) (cI cM cS cJ : ClassId) (aC : Nat → Nat) (aK : Nat → Nat) (sz : Nat) (x1 : Int32) (x2 : Int32) (x3 : Int32) (c_men : Int32) (c_propped : Int32) (c_place : Int32) (c_swings : Int32) (c_crashes : Int32) (c_day : Int32) (c_crashedToday : Int32) (c_kind : Nat → Int32) (c_figure : Nat → Int32) (c_lean : Nat → Int32) {o : (Int32) × (Int32) × (Nat → Int32) × (Nat → Int32) × (Nat → Int32)} (hsem : S_City_takesIn x1 x2 x3 c_men c_kind c_figure c_lean = some o) : kMet l yX2_takesIn wsX2_takesIn rm_X2_takesIn [.ref (aC 0), .int x1, .int x2, .int x3] D (kT cI cM cS cJ) (Wd7 cI aC aK c_men c_propped c_place c_swings c_crashes c_day c_crashedToday c_kind c_figure c_lean) sz (some (.int o.1)) (Wd7 cI aC aK o.2.1 c_propped c_place c_swings c_crashes c_day c_crashedToday o.2.2.1 o.2.2.2.1 o.2.2.2.2) := by
  refine k_metZ (by decide) rfl rfl (Nat.le_of_ble_eq_true rfl) ?_
  intro p e s m below meth c ls Q A hx hb hml hts hown hK hN hA hP hD hS hl hsz hnm hret
  have hown : s.vm.findClass RX2 = some m.cls := hown
  have hf34 := hts (.fieldLink RX2 34 "PlumbLine$City" "men" "I") (List.mem_of_getElem? (i := 1) rfl)
  have hf9 := hts (.fieldLink RX2 9 "PlumbLine$City" "kind" "[I") (List.mem_of_getElem? (i := 2) rfl)
  have hf15 := hts (.fieldLink RX2 15 "PlumbLine$City" "figure" "[I") (List.mem_of_getElem? (i := 3) rfl)
  have hf18 := hts (.fieldLink RX2 18 "PlumbLine$City" "lean" "[I") (List.mem_of_getElem? (i := 4) rfl)
  have hiX2 : ∀ w ∈ u_ws RX2 TX2 12, w ∈ wsX2_takesIn := fun w h => List.mem_cons_of_mem _ (List.mem_append_right _ h)
  replace hl : lv_has ls 4 [(0, .ref (aC 0)), (1, .int x1), (2, .int x2), (3, .int x3)] := hl
  have h := hsem
  clear hsem
  rw [S_City_takesIn] at h
  refine lv_aload_n hx hb dX2_takesIn_0 rfl (lv_at hl 0 rfl) ?_
  refine va_get (D := D) (ci := 2) (v := .int c_men) (C := RX2) (T := TX2) (N := 12) hx hb hts hiX2 hown hK hP 0 rfl rfl 3 (by decide) hf34 (fun _ z => z) rfl dX2_takesIn_1 ?_
  refine lv_bipush (v := 8) hx hb dX2_takesIn_4 (by decide) ?_
  refine lv_icmp_lt (tgt := 11) hx hb dX2_takesIn_6 (by decide) (fun c6 => ?_) (fun c6 => ?_)
  · have h := k_pos c6 h
    refine lv_aload_n hx hb dX2_takesIn_11 rfl (lv_at hl 0 rfl) ?_
    refine va_get (D := D) (ci := 2) (v := .ref (aC 1)) (C := RX2) (T := TX2) (N := 12) hx hb hts hiX2 hown hK hP 0 rfl rfl 0 (by decide) hf9 (fun _ z => z) rfl dX2_takesIn_12 ?_
    refine lv_aload_n hx hb dX2_takesIn_15 rfl (lv_at hl 0 rfl) ?_
    refine va_get (D := D) (ci := 2) (v := .int c_men) (C := RX2) (T := TX2) (N := 12) hx hb hts hiX2 hown hK hP 0 rfl rfl 3 (by decide) hf34 (fun _ z => z) rfl dX2_takesIn_16 ?_
    refine lv_iload_n hx hb dX2_takesIn_19 rfl (lv_at hl 1 rfl) ?_
    obtain ⟨g20, h⟩ := k_guard h
    refine va_iast hx hb hK hP hD hS 1 0 rfl rfl g20 dX2_takesIn_20 (fun H locs hP hD hS => ?_)
    replace hP : va_P D vwCl (Wd7 cI aC aK c_men c_propped c_place c_swings c_crashes c_day c_crashedToday (upd c_kind c_men.toNatClampNeg x1) c_figure c_lean) H := hP
    replace hD : va_D A (Wd7 cI aC aK c_men c_propped c_place c_swings c_crashes c_day c_crashedToday (upd c_kind c_men.toNatClampNeg x1) c_figure c_lean) := hD
    refine lv_aload_n hx hb dX2_takesIn_21 rfl (lv_at hl 0 rfl) ?_
    refine va_get (D := D) (ci := 2) (v := .ref (aC 2)) (C := RX2) (T := TX2) (N := 12) hx hb hts hiX2 hown hK hP 0 rfl rfl 1 (by decide) hf15 (fun _ z => z) rfl dX2_takesIn_22 ?_
    refine lv_aload_n hx hb dX2_takesIn_25 rfl (lv_at hl 0 rfl) ?_
    refine va_get (D := D) (ci := 2) (v := .int c_men) (C := RX2) (T := TX2) (N := 12) hx hb hts hiX2 hown hK hP 0 rfl rfl 3 (by decide) hf34 (fun _ z => z) rfl dX2_takesIn_26 ?_
    refine lv_iload_n hx hb dX2_takesIn_29 rfl (lv_at hl 2 rfl) ?_
    refine va_iast hx hb hK hP hD hS 2 0 rfl rfl g20 dX2_takesIn_30 (fun H locs hP hD hS => ?_)
    replace hP : va_P D vwCl (Wd7 cI aC aK c_men c_propped c_place c_swings c_crashes c_day c_crashedToday (upd c_kind c_men.toNatClampNeg x1) (upd c_figure c_men.toNatClampNeg x2) c_lean) H := hP
    replace hD : va_D A (Wd7 cI aC aK c_men c_propped c_place c_swings c_crashes c_day c_crashedToday (upd c_kind c_men.toNatClampNeg x1) (upd c_figure c_men.toNatClampNeg x2) c_lean) := hD
    refine lv_aload_n hx hb dX2_takesIn_31 rfl (lv_at hl 0 rfl) ?_
    refine va_get (D := D) (ci := 2) (v := .ref (aC 3)) (C := RX2) (T := TX2) (N := 12) hx hb hts hiX2 hown hK hP 0 rfl rfl 2 (by decide) hf18 (fun _ z => z) rfl dX2_takesIn_32 ?_
    refine lv_aload_n hx hb dX2_takesIn_35 rfl (lv_at hl 0 rfl) ?_
    refine va_get (D := D) (ci := 2) (v := .int c_men) (C := RX2) (T := TX2) (N := 12) hx hb hts hiX2 hown hK hP 0 rfl rfl 3 (by decide) hf34 (fun _ z => z) rfl dX2_takesIn_36 ?_
    refine lv_iload_n hx hb dX2_takesIn_39 rfl (lv_at hl 3 rfl) ?_
    refine va_iast hx hb hK hP hD hS 3 0 rfl rfl g20 dX2_takesIn_40 (fun H locs hP hD hS => ?_)
    replace hP : va_P D vwCl (Wd7 cI aC aK c_men c_propped c_place c_swings c_crashes c_day c_crashedToday (upd c_kind c_men.toNatClampNeg x1) (upd c_figure c_men.toNatClampNeg x2) (upd c_lean c_men.toNatClampNeg x3)) H := hP
    replace hD : va_D A (Wd7 cI aC aK c_men c_propped c_place c_swings c_crashes c_day c_crashedToday (upd c_kind c_men.toNatClampNeg x1) (upd c_figure c_men.toNatClampNeg x2) (upd c_lean c_men.toNatClampNeg x3)) := hD
    refine lv_aload_n hx hb dX2_takesIn_41 rfl (lv_at hl 0 rfl) ?_
    refine lv_dup hx hb dX2_takesIn_42 rfl ?_
    refine va_get (D := D) (ci := 2) (v := .int c_men) (C := RX2) (T := TX2) (N := 12) hx hb hts hiX2 hown hK hP 0 rfl rfl 3 (by decide) hf34 (fun _ z => z) rfl dX2_takesIn_43 ?_
    refine lv_iconst (v := 1) hx hb dX2_takesIn_46 (by decide) ?_
    refine lv_iadd hx hb dX2_takesIn_47 ?_
    refine va_put (D := D) (ci := 2) (v := .int (c_men + 1)) (ty := .int) (C := RX2) (T := TX2) (N := 12) hx hb hts hiX2 tyX2 tyX2_ok nmX2 hown hK hP hD hS 0 rfl rfl 3 (by decide) hf34 (fun _ z => z) rfl (by decide +kernel) rfl rfl (Nat.le_of_ble_eq_true rfl) dX2_takesIn_48 (fun H locs hP hD hS => ?_)
    replace hP : va_P D vwCl (Wd7 cI aC aK (c_men + 1) c_propped c_place c_swings c_crashes c_day c_crashedToday (upd c_kind c_men.toNatClampNeg x1) (upd c_figure c_men.toNatClampNeg x2) (upd c_lean c_men.toNatClampNeg x3)) H := hP
    replace hD : va_D A (Wd7 cI aC aK (c_men + 1) c_propped c_place c_swings c_crashes c_day c_crashedToday (upd c_kind c_men.toNatClampNeg x1) (upd c_figure c_men.toNatClampNeg x2) (upd c_lean c_men.toNatClampNeg x3)) := hD
    refine lv_iconst (v := 1) hx hb dX2_takesIn_51 (by decide) ?_
    cases h
    exact hret _ _ _ _ (k_z01 (fun z => z (Or.inr rfl))) hP hS dX2_takesIn_52
  · have h := k_neg c6 h
    refine lv_iconst (v := 0) hx hb dX2_takesIn_9 (by decide) ?_
    cases h
    exact hret _ _ _ _ (k_z01 (fun z => z (Or.inl rfl))) hP hS dX2_takesIn_10
abbrev rm_X2_isPropped : Room := { frames := 0, cells := 0, slots := 0, locals := 0 }
set_option maxHeartbeats 4000000 in
set_option maxRecDepth 100000 in
theorem c_City_isPropped (l : Launch) (D : va_G) (cI cM cS cJ : ClassId) (aC : Nat → Nat) (aK : Nat → Nat) (sz : Nat) (x1 : Int32) (c_men : Int32) (c_propped : Int32) (c_place : Int32) (c_swings : Int32) (c_crashes : Int32) (c_day : Int32) (c_crashedToday : Int32) {o : (Int32)} (hsem : S_City_isPropped x1 c_propped = o) : kMet l yX2_isPropped wsX2_isPropped rm_X2_isPropped [.ref (aC 0), .int x1] D (kT cI cM cS cJ) (Wd6 aC aK c_men c_propped c_place c_swings c_crashes c_day c_crashedToday) sz (some (.int o)) (Wd6 aC aK c_men c_propped c_place c_swings c_crashes c_day c_crashedToday) := by
  refine k_metZ (by decide) rfl rfl (Nat.le_of_ble_eq_true rfl) ?_
  intro p e s m below meth c ls Q A hx hb hml hts hown hK hN hA hP hD hS hl hsz hnm hret
  have hown : s.vm.findClass RX2 = some m.cls := hown
  have hf38 := hts (.fieldLink RX2 38 "PlumbLine$City" "propped" "I") (List.mem_of_getElem? (i := 1) rfl)
  have hiX2 : ∀ w ∈ u_ws RX2 TX2 12, w ∈ wsX2_isPropped := fun w h => List.mem_cons_of_mem _ (List.mem_append_right _ h)
  replace hl : lv_has ls 2 [(0, .ref (aC 0)), (1, .int x1)] := hl
  have h := hsem
  clear hsem
  rw [S_City_isPropped] at h
  refine lv_aload_n hx hb dX2_isPropped_0 rfl (lv_at hl 0 rfl) ?_
  refine va_get (D := D) (ci := 2) (v := .int c_propped) (C := RX2) (T := TX2) (N := 12) hx hb hts hiX2 hown hK hP 0 rfl rfl 4 (by decide) hf38 (fun _ z => z) rfl dX2_isPropped_1 ?_
  refine lv_iconst (v := 1) hx hb dX2_isPropped_4 (by decide) ?_
  refine lv_iload_n hx hb dX2_isPropped_5 rfl (lv_at hl 1 rfl) ?_
  refine lv_ishl hx hb dX2_isPropped_6 ?_
  refine lv_iand hx hb dX2_isPropped_7 ?_
  refine lv_if_eq (tgt := 15) hx hb dX2_isPropped_8 (by decide) (fun c8 => ?_) (fun c8 => ?_)
  · have h := k_pos c8 h
    refine lv_iconst (v := 0) hx hb dX2_isPropped_15 (by decide) ?_
    cases h
    exact hret _ _ _ _ rfl hP hS dX2_isPropped_16
  · have h := k_neg c8 h
    refine lv_iconst (v := 1) hx hb dX2_isPropped_11 (by decide) ?_
    refine lv_goto (tgt := 16) hx hb dX2_isPropped_12 (by decide) ?_
    cases h
    exact hret _ _ _ _ rfl hP hS dX2_isPropped_16
abbrev rm_X2_turnProp : Room := { frames := 0, cells := 0, slots := 0, locals := 0 }
set_option maxHeartbeats 4000000 in
set_option maxRecDepth 100000 in
theorem c_City_turnProp (l : Launch) (D : va_G) (cI cM cS cJ : ClassId) (aC : Nat → Nat) (aK : Nat → Nat) (sz : Nat) (x1 : Int32) (c_men : Int32) (c_propped : Int32) (c_place : Int32) (c_swings : Int32) (c_crashes : Int32) (c_day : Int32) (c_crashedToday : Int32) {o : (Int32)} (hsem : S_City_turnProp x1 c_propped = o) : kMet l yX2_turnProp wsX2_turnProp rm_X2_turnProp [.ref (aC 0), .int x1] D (kT cI cM cS cJ) (Wd6 aC aK c_men c_propped c_place c_swings c_crashes c_day c_crashedToday) sz none (Wd6 aC aK c_men o c_place c_swings c_crashes c_day c_crashedToday) := by
  refine k_metV (by decide) rfl rfl (Nat.le_of_ble_eq_true rfl) ?_
  intro p e s m below meth c ls Q A hx hb hml hts hown hK hN hA hP hD hS hl hsz hnm hret
  have hown : s.vm.findClass RX2 = some m.cls := hown
  have hf38 := hts (.fieldLink RX2 38 "PlumbLine$City" "propped" "I") (List.mem_of_getElem? (i := 1) rfl)
  have hiX2 : ∀ w ∈ u_ws RX2 TX2 12, w ∈ wsX2_turnProp := fun w h => List.mem_cons_of_mem _ (List.mem_append_right _ h)
  replace hl : lv_has ls 2 [(0, .ref (aC 0)), (1, .int x1)] := hl
  have h := hsem
  clear hsem
  rw [S_City_turnProp] at h
  refine lv_aload_n hx hb dX2_turnProp_0 rfl (lv_at hl 0 rfl) ?_
  refine lv_dup hx hb dX2_turnProp_1 rfl ?_
  refine va_get (D := D) (ci := 2) (v := .int c_propped) (C := RX2) (T := TX2) (N := 12) hx hb hts hiX2 hown hK hP 0 rfl rfl 4 (by decide) hf38 (fun _ z => z) rfl dX2_turnProp_2 ?_
  refine lv_iconst (v := 1) hx hb dX2_turnProp_5 (by decide) ?_
  refine lv_iload_n hx hb dX2_turnProp_6 rfl (lv_at hl 1 rfl) ?_
  refine lv_ishl hx hb dX2_turnProp_7 ?_
  refine lv_ixor hx hb dX2_turnProp_8 ?_
  refine va_put (D := D) (ci := 2) (v := .int (c_propped ^^^ ((1 : Int32) <<< (x1 &&& 31)))) (ty := .int) (C := RX2) (T := TX2) (N := 12) hx hb hts hiX2 tyX2 tyX2_ok nmX2 hown hK hP hD hS 0 rfl rfl 4 (by decide) hf38 (fun _ z => z) rfl (by decide +kernel) rfl rfl (Nat.le_of_ble_eq_true rfl) dX2_turnProp_9 (fun H locs hP hD hS => ?_)
  replace hP : va_P D vwCl (Wd6 aC aK c_men (c_propped ^^^ ((1 : Int32) <<< (x1 &&& 31))) c_place c_swings c_crashes c_day c_crashedToday) H := hP
  replace hD : va_D A (Wd6 aC aK c_men (c_propped ^^^ ((1 : Int32) <<< (x1 &&& 31))) c_place c_swings c_crashes c_day c_crashedToday) := hD
  cases h
  exact hret _ _ _ _ hP hS dX2_turnProp_12
abbrev Wd8 (cI : ClassId) (aC : Nat → Nat) (aD : Nat → Nat) (aK : Nat → Nat) (c_men : Int32) (c_propped : Int32) (c_place : Int32) (c_swings : Int32) (c_crashes : Int32) (c_day : Int32) (c_crashedToday : Int32) (c_kind : Nat → Int32) (c_figure : Nat → Int32) (c_lean : Nat → Int32) (d_kind : Int32) (d_figure : Int32) (d_sort : Int32) (d_size : Int32) (d_held : Int32) (d_el : Nat → Int32) : va_W := [((aC 0), .inr (2, [.ref (aC 1), .ref (aC 2), .ref (aC 3), .int c_men, .int c_propped, .int c_place, .int c_swings, .int c_crashes, .int c_day, .int c_crashedToday, .ref (aK 8), .ref (aC 4)])), ((aC 1), .inl (cI, 8, .inl c_kind)), ((aC 2), .inl (cI, 8, .inl c_figure)), ((aC 3), .inl (cI, 8, .inl c_lean)), ((aD 0), .inr (9, [.ref (aD 1), .int d_kind, .int d_figure, .int d_sort, .int d_size, .int d_held, .ref (aK 8)])), ((aD 1), .inl (cI, 100, .inl d_el))]
theorem kdV_X9_twoDigits : yX9_twoDigits.cls = RX9 ∧ yX9_twoDigits.cls ≠ "java/lang/invoke/MethodHandle" ∧ yX9_twoDigits.cls ≠ "java/lang/invoke/VarHandle" ∧ (parseMethodDescriptor yX9_twoDigits.desc).map (fun d => d.parameters.length) = some 1 := by decide +kernel
theorem kdV_X2_takesIn : yX2_takesIn.cls = RX2 ∧ yX2_takesIn.cls ≠ "java/lang/invoke/MethodHandle" ∧ yX2_takesIn.cls ≠ "java/lang/invoke/VarHandle" ∧ (parseMethodDescriptor yX2_takesIn.desc).map (fun d => d.parameters.length) = some 3 := by decide +kernel
abbrev rm_X2_takesManTold : Room := { frames := 3, cells := 0, slots := 0, locals := 63 }
set_option maxHeartbeats 4000000 in
set_option maxRecDepth 100000 in
theorem c_City_takesManTold (l : Launch) (D : va_G) (cI cM cS cJ : ClassId) (aC : Nat → Nat) (aD : Nat → Nat) (aK : Nat → Nat) (sz : Nat) (x2 : Int32) (c_men : Int32) (c_propped : Int32) (c_place : Int32) (c_swings : Int32) (c_crashes : Int32) (c_day : Int32) (c_crashedToday : Int32) (c_kind : Nat → Int32) (c_figure : Nat → Int32) (c_lean : Nat → Int32) (d_kind : Int32) (d_figure : Int32) (d_sort : Int32) (d_size : Int32) (d_held : Int32) (d_el : Nat → Int32) {o : (Int32) × (Int32) × (Nat → Int32) × (Nat → Int32) × (Nat → Int32)} (hsem : S_City_takesManTold x2 c_men c_kind c_figure c_lean d_size d_el = some o) : kMet l yX2_takesManTold wsX2_takesManTold rm_X2_takesManTold [.ref (aC 0), .ref (aD 0), .int x2] D (kT cI cM cS cJ) (Wd8 cI aC aD aK c_men c_propped c_place c_swings c_crashes c_day c_crashedToday c_kind c_figure c_lean d_kind d_figure d_sort d_size d_held d_el) sz (some (.int o.1)) (Wd8 cI aC aD aK o.2.1 c_propped c_place c_swings c_crashes c_day c_crashedToday o.2.2.1 o.2.2.2.1 o.2.2.2.2 d_kind d_figure d_sort d_size d_held d_el) := by
  refine k_metZ (by decide) rfl rfl (Nat.le_of_ble_eq_true rfl) ?_
  intro p e s m below meth c ls Q A hx hb hml hts hown hK hN hA hP hD hS hl hsz hnm hret
  have hown : s.vm.findClass RX2 = some m.cls := hown
  replace hl : lv_has ls 5 [(0, .ref (aC 0)), (1, .ref (aD 0)), (2, .int x2)] := hl
  have h := hsem
  clear hsem
  rw [S_City_takesManTold] at h
  refine lv_aload_n hx hb dX2_takesManTold_0 rfl (lv_at hl 1 rfl) ?_
  refine lv_iload_n hx hb dX2_takesManTold_1 rfl (lv_at hl 2 rfl) ?_
  refine lv_iconst (v := 1) hx hb dX2_takesManTold_2 (by decide) ?_
  refine lv_iadd hx hb dX2_takesManTold_3 ?_
  obtain ⟨r4, g4, h⟩ := k_bind h
  refine k_callV (As := [.int (x2 + 1)]) (rest := []) (st1 := [.int r4]) (ws2 := (Wd8 cI aC aD aK c_men c_propped c_place c_swings c_crashes c_day c_crashedToday c_kind c_figure c_lean d_kind d_figure d_sort d_size d_held d_el)) hx hb hml hown hts hK hN hA hP hD hS hl (c_Shelf_digit l D cI cM cS cJ aD aK s.heap.size (x2 + 1) d_kind d_figure d_sort d_size d_held d_el g4) gX2_takesManTold_X9_digit rfl kdV_X9_digit 0 9 rfl rfl rfl [4, 5] ⟨rfl, rfl⟩ ⟨Nat.le_of_ble_eq_true rfl, Nat.le_of_ble_eq_true rfl⟩ ⟨Nat.zero_le _, Nat.zero_le _⟩ rfl rfl (by decide +kernel) (k_rp rfl (by decide +kernel)) rfl rfl (Nat.le_of_ble_eq_true rfl) dX2_takesManTold_4 rfl (fun H locs hP hD hS => ?_)
  refine lv_istore_n (lv' := [(3, .int r4), (0, .ref (aC 0)), (1, .ref (aD 0)), (2, .int x2)]) hx hb dX2_takesManTold_7 rfl hl (by decide) rfl (fun ls hl => ?_)
  refine lv_aload_n hx hb dX2_takesManTold_8 rfl (lv_at hl 2 rfl) ?_
  refine lv_iload_n hx hb dX2_takesManTold_9 rfl (lv_at hl 3 rfl) ?_
  refine lv_iconst (v := 3) hx hb dX2_takesManTold_10 (by decide) ?_
  refine lv_iadd hx hb dX2_takesManTold_11 ?_
  obtain ⟨r12, g12, h⟩ := k_bind h
  refine k_callV (As := [.int (x2 + 3)]) (rest := []) (st1 := [.int r12]) (ws2 := (Wd8 cI aC aD aK c_men c_propped c_place c_swings c_crashes c_day c_crashedToday c_kind c_figure c_lean d_kind d_figure d_sort d_size d_held d_el)) hx hb hml hown hts hK hN hA hP hD hS hl (c_Shelf_twoDigits l D cI cM cS cJ aD aK H.size (x2 + 3) d_kind d_figure d_sort d_size d_held d_el g12) gX2_takesManTold_X9_twoDigits rfl kdV_X9_twoDigits 0 9 rfl rfl rfl [4, 5] ⟨rfl, rfl⟩ ⟨Nat.le_of_ble_eq_true rfl, Nat.le_of_ble_eq_true rfl⟩ ⟨Nat.zero_le _, Nat.zero_le _⟩ rfl rfl (by decide +kernel) (k_rp rfl (by decide +kernel)) rfl rfl (Nat.le_of_ble_eq_true rfl) dX2_takesManTold_12 rfl (fun H locs hP hD hS => ?_)
  refine lv_bipush (v := 45) hx hb dX2_takesManTold_15 (by decide) ?_
  refine lv_isub hx hb dX2_takesManTold_17 ?_
  refine lv_istore (lv' := [(4, .int (r12 - 45)), (3, .int r4), (0, .ref (aC 0)), (1, .ref (aD 0)), (2, .int x2)]) hx hb dX2_takesManTold_18 hl (by decide) rfl (fun ls hl => ?_)
  refine lv_iload_n hx hb dX2_takesManTold_20 rfl (lv_at hl 1 rfl) ?_
  refine lv_bipush (v := 8) hx hb dX2_takesManTold_21 (by decide) ?_
  refine lv_icmp_ge (tgt := 54) hx hb dX2_takesManTold_23 (by decide) (fun c23 => ?_) (fun c23 => ?_)
  · have h := k_pos c23 h
    refine lv_iconst (v := 0) hx hb dX2_takesManTold_54 (by decide) ?_
    cases h
    exact hret _ _ _ _ (k_z01 (fun z => z (Or.inl rfl))) hP hS dX2_takesManTold_55
  · have h := k_neg c23 h
    refine lv_iload hx hb dX2_takesManTold_26 (lv_at hl 0 rfl) ?_
    refine lv_bipush (v := 45) hx hb dX2_takesManTold_28 (by decide) ?_
    refine lv_icmp_gt (tgt := 54) hx hb dX2_takesManTold_30 (by decide) (fun c30 => ?_) (fun c30 => ?_)
    · have h := k_pos c30 h
      refine lv_iconst (v := 0) hx hb dX2_takesManTold_54 (by decide) ?_
      cases h
      exact hret _ _ _ _ (k_z01 (fun z => z (Or.inl rfl))) hP hS dX2_takesManTold_55
    · have h := k_neg c30 h
      refine lv_aload_n hx hb dX2_takesManTold_33 rfl (lv_at hl 2 rfl) ?_
      refine lv_iload_n hx hb dX2_takesManTold_34 rfl (lv_at hl 1 rfl) ?_
      refine lv_aload_n hx hb dX2_takesManTold_35 rfl (lv_at hl 3 rfl) ?_
      refine lv_iload_n hx hb dX2_takesManTold_36 rfl (lv_at hl 4 rfl) ?_
      refine lv_iconst (v := 2) hx hb dX2_takesManTold_37 (by decide) ?_
      refine lv_iadd hx hb dX2_takesManTold_38 ?_
      obtain ⟨r39, g39, h⟩ := k_bind h
      refine k_callV (As := [.int (x2 + 2)]) (rest := [.int r4, .ref (aC 0)]) (st1 := [.int r39, .int r4, .ref (aC 0)]) (ws2 := (Wd8 cI aC aD aK c_men c_propped c_place c_swings c_crashes c_day c_crashedToday c_kind c_figure c_lean d_kind d_figure d_sort d_size d_held d_el)) hx hb hml hown hts hK hN hA hP hD hS hl (c_Shelf_digit l D cI cM cS cJ aD aK H.size (x2 + 2) d_kind d_figure d_sort d_size d_held d_el g39) gX2_takesManTold_X9_digit rfl kdV_X9_digit 0 9 rfl rfl rfl [4, 5] ⟨rfl, rfl⟩ ⟨Nat.le_of_ble_eq_true rfl, Nat.le_of_ble_eq_true rfl⟩ ⟨Nat.zero_le _, Nat.zero_le _⟩ rfl rfl (by decide +kernel) (k_rp rfl (by decide +kernel)) rfl rfl (Nat.le_of_ble_eq_true rfl) dX2_takesManTold_39 rfl (fun H locs hP hD hS => ?_)
      refine lv_iload hx hb dX2_takesManTold_42 (lv_at hl 0 rfl) ?_
      obtain ⟨r44, g44, h⟩ := k_bind h
      refine k_callV (As := [.int r4, .int r39, .int (r12 - 45)]) (rest := []) (st1 := [.int r44.1]) (ws2 := (Wd8 cI aC aD aK r44.2.1 c_propped c_place c_swings c_crashes c_day c_crashedToday r44.2.2.1 r44.2.2.2.1 r44.2.2.2.2 d_kind d_figure d_sort d_size d_held d_el)) hx hb hml hown hts hK hN hA hP hD hS hl (c_City_takesIn l D cI cM cS cJ aC aK H.size r4 r39 (r12 - 45) c_men c_propped c_place c_swings c_crashes c_day c_crashedToday c_kind c_figure c_lean g44) gX2_takesManTold_X2_takesIn rfl kdV_X2_takesIn 0 2 rfl rfl rfl [0, 1, 2, 3] ⟨rfl, rfl⟩ ⟨Nat.le_of_ble_eq_true rfl, Nat.le_of_ble_eq_true rfl⟩ ⟨Nat.zero_le _, Nat.zero_le _⟩ rfl rfl (by decide +kernel) (k_rp rfl (by decide +kernel)) rfl rfl (Nat.le_of_ble_eq_true rfl) dX2_takesManTold_44 rfl (fun H locs hP hD hS => ?_)
      refine lv_if_eq (tgt := 54) hx hb dX2_takesManTold_47 (by decide) (fun c47 => ?_) (fun c47 => ?_)
      · have h := k_pos c47 h
        refine lv_iconst (v := 0) hx hb dX2_takesManTold_54 (by decide) ?_
        cases h
        exact hret _ _ _ _ (k_z01 (fun z => z (Or.inl rfl))) hP hS dX2_takesManTold_55
      · have h := k_neg c47 h
        refine lv_iconst (v := 1) hx hb dX2_takesManTold_50 (by decide) ?_
        refine lv_goto (tgt := 55) hx hb dX2_takesManTold_51 (by decide) ?_
        cases h
        exact hret _ _ _ _ (k_z01 (fun z => z (Or.inr rfl))) hP hS dX2_takesManTold_55
