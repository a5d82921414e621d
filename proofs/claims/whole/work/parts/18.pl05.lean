theorem kdV_X5_drawnYears : yX5_drawnYears.cls = RX5 ∧ yX5_drawnYears.cls ≠ "java/lang/invoke/MethodHandle" ∧ yX5_drawnYears.cls ≠ "java/lang/invoke/VarHandle" ∧ (parseMethodDescriptor yX5_drawnYears.desc).map (fun d => d.parameters.length) = some 3 := by decide +kernel
abbrev rm_X11_years : Room := { frames := 6, cells := 0, slots := 0, locals := 156 }
set_option maxHeartbeats 4000000 in
set_option maxRecDepth 100000 in
theorem c_PL_years (l : Launch) (D : va_G) (cI cM cS cJ : ClassId) (aV : Nat → Nat) (aN : Nat → Nat) (aS : Nat → Nat) (aT : Nat → Nat) (aW : Nat → Nat) (aM : Nat → Nat) (aK : Nat → Nat) (sz : Nat) (x1 : Int32) (x2 : Int32) (x3 : Int32) (v_hasImage : Int32) (nS : CS) (mS : CS) {o : (Int32) × (CS)} (hsem : S_PL_years x1 x2 x3 nS mS = some o) : kMet l yX11_years wsX11_years rm_X11_years [.ref (aV 0), .int x1, .int x2, .int x3] D (kT cI cM cS cJ) (Wd29 cI cM aV aN aS aT aW aM aK v_hasImage nS.1 nS.2.1 nS.2.2.1 nS.2.2.2.1 nS.2.2.2.2.1 nS.2.2.2.2.2.1 nS.2.2.2.2.2.2.1 nS.2.2.2.2.2.2.2.1 nS.2.2.2.2.2.2.2.2.1 nS.2.2.2.2.2.2.2.2.2.1 mS.1 mS.2.1 mS.2.2.1 mS.2.2.2.1 mS.2.2.2.2.1 mS.2.2.2.2.2.1 mS.2.2.2.2.2.2.1 mS.2.2.2.2.2.2.2.1 mS.2.2.2.2.2.2.2.2.1 mS.2.2.2.2.2.2.2.2.2.1) sz (some (.int o.1)) (Wd29 cI cM aV aN aS aT aW aM aK v_hasImage nS.1 nS.2.1 nS.2.2.1 nS.2.2.2.1 nS.2.2.2.2.1 nS.2.2.2.2.2.1 nS.2.2.2.2.2.2.1 nS.2.2.2.2.2.2.2.1 nS.2.2.2.2.2.2.2.2.1 nS.2.2.2.2.2.2.2.2.2.1 o.2.1 o.2.2.1 o.2.2.2.1 o.2.2.2.2.1 o.2.2.2.2.2.1 o.2.2.2.2.2.2.1 o.2.2.2.2.2.2.2.1 o.2.2.2.2.2.2.2.2.1 o.2.2.2.2.2.2.2.2.2.1 o.2.2.2.2.2.2.2.2.2.2.1) := by
  refine k_metI (by decide) rfl rfl (Nat.le_of_ble_eq_true rfl) ?_
  intro p e s m below meth c ls Q A hx hb hml hts hown hK hN hA hP hD hS hl hsz hnm hret
  have hown : s.vm.findClass RX11 = some m.cls := hown
  have hf53 := hts (.fieldLink RX11 53 "PlumbLine" "mind" "LPlumbLine$Mind;") (List.mem_of_getElem? (i := 1) rfl)
  have hiX11 : ∀ w ∈ u_ws RX11 TX11 6, w ∈ wsX11_years := fun w h => List.mem_cons_of_mem _ (List.mem_append_left _ (List.mem_append_left _ (List.mem_append_right _ h)))
  replace hl : lv_has ls 4 [(0, .ref (aV 0)), (1, .int x1), (2, .int x2), (3, .int x3)] := hl
  have h := hsem
  clear hsem
  rw [S_PL_years] at h
  refine lv_iload_n hx hb dX11_years_0 rfl (lv_at hl 1 rfl) ?_
  refine lv_iconst (v := 1) hx hb dX11_years_1 (by decide) ?_
  refine lv_bipush (v := 20) hx hb dX11_years_2 (by decide) ?_
  refine k_callS (As := [.int x1, .int 1, .int 20]) (rest := []) (st1 := [.int (S_PL_isIn x1 1 20)]) (ws2 := (Wd29 cI cM aV aN aS aT aW aM aK v_hasImage nS.1 nS.2.1 nS.2.2.1 nS.2.2.2.1 nS.2.2.2.2.1 nS.2.2.2.2.2.1 nS.2.2.2.2.2.2.1 nS.2.2.2.2.2.2.2.1 nS.2.2.2.2.2.2.2.2.1 nS.2.2.2.2.2.2.2.2.2.1 mS.1 mS.2.1 mS.2.2.1 mS.2.2.2.1 mS.2.2.2.2.1 mS.2.2.2.2.2.1 mS.2.2.2.2.2.2.1 mS.2.2.2.2.2.2.2.1 mS.2.2.2.2.2.2.2.2.1 mS.2.2.2.2.2.2.2.2.2.1)) hx hb hml hown hts hK hN hA hP hD hS hl (c_PL_isIn l D cI cM cS cJ s.heap.size x1 1 20 rfl) gX11_years_X11_isIn rfl kdS_X11_isIn [] ⟨rfl, rfl⟩ ⟨Nat.le_of_ble_eq_true rfl, Nat.le_of_ble_eq_true rfl⟩ ⟨Nat.zero_le _, Nat.zero_le _⟩ rfl rfl (by decide +kernel) (k_rp rfl (by decide +kernel)) rfl rfl (Nat.le_of_ble_eq_true rfl) dX11_years_4 rfl (fun H locs hP hD hS => ?_)
  refine lv_if_eq (tgt := 19) hx hb dX11_years_7 (by decide) (fun c7 => ?_) (fun c7 => ?_)
  · have h := k_pos c7 h
    refine lv_iconst (v := (-1)) hx hb dX11_years_19 (by decide) ?_
    have h := Option.some.inj h; subst h
    exact hret _ _ _ _ hP hS dX11_years_20
  · have h := k_neg c7 h
    refine lv_iload_n hx hb dX11_years_10 rfl (lv_at hl 3 rfl) ?_
    refine lv_iconst (v := 0) hx hb dX11_years_11 (by decide) ?_
    refine lv_iconst (v := 1) hx hb dX11_years_12 (by decide) ?_
    refine k_callS (As := [.int x3, .int 0, .int 1]) (rest := []) (st1 := [.int (S_PL_isIn x3 0 1)]) (ws2 := (Wd29 cI cM aV aN aS aT aW aM aK v_hasImage nS.1 nS.2.1 nS.2.2.1 nS.2.2.2.1 nS.2.2.2.2.1 nS.2.2.2.2.2.1 nS.2.2.2.2.2.2.1 nS.2.2.2.2.2.2.2.1 nS.2.2.2.2.2.2.2.2.1 nS.2.2.2.2.2.2.2.2.2.1 mS.1 mS.2.1 mS.2.2.1 mS.2.2.2.1 mS.2.2.2.2.1 mS.2.2.2.2.2.1 mS.2.2.2.2.2.2.1 mS.2.2.2.2.2.2.2.1 mS.2.2.2.2.2.2.2.2.1 mS.2.2.2.2.2.2.2.2.2.1)) hx hb hml hown hts hK hN hA hP hD hS hl (c_PL_isIn l D cI cM cS cJ H.size x3 0 1 rfl) gX11_years_X11_isIn rfl kdS_X11_isIn [] ⟨rfl, rfl⟩ ⟨Nat.le_of_ble_eq_true rfl, Nat.le_of_ble_eq_true rfl⟩ ⟨Nat.zero_le _, Nat.zero_le _⟩ rfl rfl (by decide +kernel) (k_rp rfl (by decide +kernel)) rfl rfl (Nat.le_of_ble_eq_true rfl) dX11_years_13 rfl (fun H locs hP hD hS => ?_)
    refine lv_if_ne (tgt := 21) hx hb dX11_years_16 (by decide) (fun c16 => ?_) (fun c16 => ?_)
    · have h := k_neg c16 h
      refine lv_aload_n hx hb dX11_years_21 rfl (lv_at hl 0 rfl) ?_
      refine va_get (D := D) (ci := 11) (v := .ref (aW 0)) (C := RX11) (T := TX11) (N := 6) hx hb hts hiX11 hown hK hP 0 rfl rfl 3 (by decide) hf53 (fun _ z => z) rfl dX11_years_22 ?_
      refine lv_iload_n hx hb dX11_years_25 rfl (lv_at hl 1 rfl) ?_
      refine lv_iload_n hx hb dX11_years_26 rfl (lv_at hl 2 rfl) ?_
      refine lv_iload_n hx hb dX11_years_27 rfl (lv_at hl 3 rfl) ?_
      obtain ⟨r28, g28, h⟩ := k_bind h
      refine k_callV (As := [.int x1, .int x2, .int x3]) (rest := []) (st1 := [.int r28.1]) (ws2 := (Wd29 cI cM aV aN aS aT aW aM aK v_hasImage nS.1 nS.2.1 nS.2.2.1 nS.2.2.2.1 nS.2.2.2.2.1 nS.2.2.2.2.2.1 nS.2.2.2.2.2.2.1 nS.2.2.2.2.2.2.2.1 nS.2.2.2.2.2.2.2.2.1 nS.2.2.2.2.2.2.2.2.2.1 r28.2.1 r28.2.2.1 r28.2.2.2.1 r28.2.2.2.2.1 r28.2.2.2.2.2.1 r28.2.2.2.2.2.2.1 r28.2.2.2.2.2.2.2.1 r28.2.2.2.2.2.2.2.2.1 r28.2.2.2.2.2.2.2.2.2.1 r28.2.2.2.2.2.2.2.2.2.2.1)) hx hb hml hown hts hK hN hA hP hD hS hl (c_Mind_drawnYears l D cI cM cS cJ aN aW aM aK H.size x1 x2 x3 nS mS g28) gX11_years_X5_drawnYears rfl kdV_X5_drawnYears 0 5 rfl rfl rfl [5, 1, 2, 3, 4, 6, 7, 8, 9, 10, 11, 12, 13, 14, 15, 16, 17, 18] ⟨rfl, rfl⟩ ⟨Nat.le_of_ble_eq_true rfl, Nat.le_of_ble_eq_true rfl⟩ ⟨Nat.zero_le _, Nat.zero_le _⟩ rfl rfl (by decide +kernel) (k_rp rfl (by decide +kernel)) rfl rfl (Nat.le_of_ble_eq_true rfl) dX11_years_28 rfl (fun H locs hP hD hS => ?_)
      have h := Option.some.inj h; subst h
      exact hret _ _ _ _ hP hS dX11_years_31
    · have h := k_pos c16 h
      refine lv_iconst (v := (-1)) hx hb dX11_years_19 (by decide) ?_
      have h := Option.some.inj h; subst h
      exact hret _ _ _ _ hP hS dX11_years_20
abbrev Wd36 (cI : ClassId) (aV : Nat → Nat) (aN : Nat → Nat) (aS : Nat → Nat) (aT : Nat → Nat) (aW : Nat → Nat) (aK : Nat → Nat) (v_hasImage : Int32) (n_men : Int32) (n_propped : Int32) (n_place : Int32) (n_swings : Int32) (n_crashes : Int32) (n_day : Int32) (n_crashedToday : Int32) (n_kind : Nat → Int32) (n_figure : Nat → Int32) (n_lean : Nat → Int32) (s_men : Int32) (s_propped : Int32) (s_place : Int32) (s_swings : Int32) (s_crashes : Int32) (s_day : Int32) (s_crashedToday : Int32) (s_kind : Nat → Int32) (s_figure : Nat → Int32) (s_lean : Nat → Int32) : va_W := [((aV 0), .inr (11, [.ref (aN 0), .ref (aS 0), .ref (aT 0), .ref (aW 0), .ref (aV 1), .int v_hasImage])), ((aN 0), .inr (2, [.ref (aN 1), .ref (aN 2), .ref (aN 3), .int n_men, .int n_propped, .int n_place, .int n_swings, .int n_crashes, .int n_day, .int n_crashedToday, .ref (aK 8), .ref (aN 4)])), ((aN 1), .inl (cI, 8, .inl n_kind)), ((aN 2), .inl (cI, 8, .inl n_figure)), ((aN 3), .inl (cI, 8, .inl n_lean)), ((aS 0), .inr (2, [.ref (aS 1), .ref (aS 2), .ref (aS 3), .int s_men, .int s_propped, .int s_place, .int s_swings, .int s_crashes, .int s_day, .int s_crashedToday, .ref (aK 8), .ref (aS 4)])), ((aS 1), .inl (cI, 8, .inl s_kind)), ((aS 2), .inl (cI, 8, .inl s_figure)), ((aS 3), .inl (cI, 8, .inl s_lean))]
abbrev rm_X11_image : Room := { frames := 2, cells := 0, slots := 0, locals := 81 }
set_option maxHeartbeats 4000000 in
set_option maxRecDepth 100000 in
theorem c_PL_image (l : Launch) (D : va_G) (cI cM cS cJ : ClassId) (aV : Nat → Nat) (aN : Nat → Nat) (aS : Nat → Nat) (aT : Nat → Nat) (aW : Nat → Nat) (aK : Nat → Nat) (sz : Nat) (v_hasImage : Int32) (nS : CS) (sS : CS) {o : (Int32) × (Int32) × (CS)} (hsem : S_PL_image v_hasImage nS sS = some o) : kMet l yX11_image wsX11_image rm_X11_image [.ref (aV 0)] D (kT cI cM cS cJ) (Wd36 cI aV aN aS aT aW aK v_hasImage nS.1 nS.2.1 nS.2.2.1 nS.2.2.2.1 nS.2.2.2.2.1 nS.2.2.2.2.2.1 nS.2.2.2.2.2.2.1 nS.2.2.2.2.2.2.2.1 nS.2.2.2.2.2.2.2.2.1 nS.2.2.2.2.2.2.2.2.2.1 sS.1 sS.2.1 sS.2.2.1 sS.2.2.2.1 sS.2.2.2.2.1 sS.2.2.2.2.2.1 sS.2.2.2.2.2.2.1 sS.2.2.2.2.2.2.2.1 sS.2.2.2.2.2.2.2.2.1 sS.2.2.2.2.2.2.2.2.2.1) sz (some (.int o.1)) (Wd36 cI aV aN aS aT aW aK o.2.1 nS.1 nS.2.1 nS.2.2.1 nS.2.2.2.1 nS.2.2.2.2.1 nS.2.2.2.2.2.1 nS.2.2.2.2.2.2.1 nS.2.2.2.2.2.2.2.1 nS.2.2.2.2.2.2.2.2.1 nS.2.2.2.2.2.2.2.2.2.1 o.2.2.1 o.2.2.2.1 o.2.2.2.2.1 o.2.2.2.2.2.1 o.2.2.2.2.2.2.1 o.2.2.2.2.2.2.2.1 o.2.2.2.2.2.2.2.2.1 o.2.2.2.2.2.2.2.2.2.1 o.2.2.2.2.2.2.2.2.2.2.1 o.2.2.2.2.2.2.2.2.2.2.2.1) := by
  refine k_metI (by decide) rfl rfl (Nat.le_of_ble_eq_true rfl) ?_
  intro p e s m below meth c ls Q A hx hb hml hts hown hK hN hA hP hD hS hl hsz hnm hret
  have hown : s.vm.findClass RX11 = some m.cls := hown
  have hf42 := hts (.fieldLink RX11 42 "PlumbLine" "saved" "LPlumbLine$City;") (List.mem_of_getElem? (i := 1) rfl)
  have hf36 := hts (.fieldLink RX11 36 "PlumbLine" "now" "LPlumbLine$City;") (List.mem_of_getElem? (i := 2) rfl)
  have hf256 := hts (.fieldLink RX11 256 "PlumbLine" "hasImage" "Z") (List.mem_of_getElem? (i := 3) rfl)
  have hf148 := hts (.fieldLink RX11 148 "PlumbLine$City" "day" "I") (List.mem_of_getElem? (i := 4) rfl)
  have hiX11 : ∀ w ∈ u_ws RX11 TX11 6, w ∈ wsX11_image := fun w h => List.mem_cons_of_mem _ (List.mem_append_left _ (List.mem_append_right _ h))
  have hiX2 : ∀ w ∈ u_ws RX2 TX2 12, w ∈ wsX11_image := fun w h => List.mem_cons_of_mem _ (List.mem_append_right _ h)
  replace hl : lv_has ls 1 [(0, .ref (aV 0))] := hl
  have h := hsem
  clear hsem
  rw [S_PL_image] at h
  refine lv_aload_n hx hb dX11_image_0 rfl (lv_at hl 0 rfl) ?_
  refine va_get (D := D) (ci := 11) (v := .ref (aS 0)) (C := RX11) (T := TX11) (N := 6) hx hb hts hiX11 hown hK hP 0 rfl rfl 1 (by decide) hf42 (fun _ z => z) rfl dX11_image_1 ?_
  refine lv_aload_n hx hb dX11_image_4 rfl (lv_at hl 0 rfl) ?_
  refine va_get (D := D) (ci := 11) (v := .ref (aN 0)) (C := RX11) (T := TX11) (N := 6) hx hb hts hiX11 hown hK hP 0 rfl rfl 0 (by decide) hf36 (fun _ z => z) rfl dX11_image_5 ?_
  obtain ⟨r8, g8, h⟩ := k_bind h
  refine k_callV (As := [.ref (aN 0)]) (rest := []) (st1 := []) (ws2 := (Wd36 cI aV aN aS aT aW aK v_hasImage nS.1 nS.2.1 nS.2.2.1 nS.2.2.2.1 nS.2.2.2.2.1 nS.2.2.2.2.2.1 nS.2.2.2.2.2.2.1 nS.2.2.2.2.2.2.2.1 nS.2.2.2.2.2.2.2.2.1 nS.2.2.2.2.2.2.2.2.2.1 r8.1 r8.2.1 r8.2.2.1 r8.2.2.2.1 r8.2.2.2.2.1 r8.2.2.2.2.2.1 sS.2.2.2.2.2.2.1 r8.2.2.2.2.2.2.1 r8.2.2.2.2.2.2.2.1 r8.2.2.2.2.2.2.2.2)) hx hb hml hown hts hK hN hA hP hD hS hl (c_City_becomes l D cI cM cS cJ aS aN aK s.heap.size sS.1 sS.2.1 sS.2.2.1 sS.2.2.2.1 sS.2.2.2.2.1 sS.2.2.2.2.2.1 sS.2.2.2.2.2.2.1 sS.2.2.2.2.2.2.2.1 sS.2.2.2.2.2.2.2.2.1 sS.2.2.2.2.2.2.2.2.2.1 nS.1 nS.2.1 nS.2.2.1 nS.2.2.2.1 nS.2.2.2.2.1 nS.2.2.2.2.2.1 nS.2.2.2.2.2.2.1 nS.2.2.2.2.2.2.2.1 nS.2.2.2.2.2.2.2.2.1 nS.2.2.2.2.2.2.2.2.2.1 g8) gX11_image_X2_becomes rfl kdV_X2_becomes 0 2 rfl rfl rfl [5, 6, 7, 8, 1, 2, 3, 4] ⟨rfl, rfl⟩ ⟨Nat.le_of_ble_eq_true rfl, Nat.le_of_ble_eq_true rfl⟩ ⟨Nat.zero_le _, Nat.zero_le _⟩ rfl rfl (by decide +kernel) (k_rp rfl (by decide +kernel)) rfl rfl (Nat.le_of_ble_eq_true rfl) dX11_image_8 rfl (fun H locs hP hD hS => ?_)
  refine lv_aload_n hx hb dX11_image_11 rfl (lv_at hl 0 rfl) ?_
  refine lv_iconst (v := 1) hx hb dX11_image_12 (by decide) ?_
  refine va_put (D := D) (ci := 11) (v := .int 1) (ty := .boolean) (C := RX11) (T := TX11) (N := 6) hx hb hts hiX11 tyX11 tyX11_ok nmX11 hown hK hP hD hS 0 rfl rfl 5 (by decide) hf256 (fun _ z => z) rfl (by decide +kernel) rfl rfl (Nat.le_of_ble_eq_true rfl) dX11_image_13 (fun H locs hP hD hS => ?_)
  replace hP : va_P D vwCl (Wd36 cI aV aN aS aT aW aK 1 nS.1 nS.2.1 nS.2.2.1 nS.2.2.2.1 nS.2.2.2.2.1 nS.2.2.2.2.2.1 nS.2.2.2.2.2.2.1 nS.2.2.2.2.2.2.2.1 nS.2.2.2.2.2.2.2.2.1 nS.2.2.2.2.2.2.2.2.2.1 r8.1 r8.2.1 r8.2.2.1 r8.2.2.2.1 r8.2.2.2.2.1 r8.2.2.2.2.2.1 sS.2.2.2.2.2.2.1 r8.2.2.2.2.2.2.1 r8.2.2.2.2.2.2.2.1 r8.2.2.2.2.2.2.2.2) H := hP
  replace hD : va_D A (Wd36 cI aV aN aS aT aW aK 1 nS.1 nS.2.1 nS.2.2.1 nS.2.2.2.1 nS.2.2.2.2.1 nS.2.2.2.2.2.1 nS.2.2.2.2.2.2.1 nS.2.2.2.2.2.2.2.1 nS.2.2.2.2.2.2.2.2.1 nS.2.2.2.2.2.2.2.2.2.1 r8.1 r8.2.1 r8.2.2.1 r8.2.2.2.1 r8.2.2.2.2.1 r8.2.2.2.2.2.1 sS.2.2.2.2.2.2.1 r8.2.2.2.2.2.2.1 r8.2.2.2.2.2.2.2.1 r8.2.2.2.2.2.2.2.2) := hD
  refine lv_aload_n hx hb dX11_image_16 rfl (lv_at hl 0 rfl) ?_
  refine va_get (D := D) (ci := 11) (v := .ref (aN 0)) (C := RX11) (T := TX11) (N := 6) hx hb hts hiX11 hown hK hP 0 rfl rfl 0 (by decide) hf36 (fun _ z => z) rfl dX11_image_17 ?_
  refine va_get (D := D) (ci := 2) (v := .int nS.2.2.2.2.2.1) (C := RX2) (T := TX2) (N := 12) hx hb hts hiX2 hown hK hP 1 rfl rfl 8 (by decide) hf148 (fun _ z => z) rfl dX11_image_20 ?_
  have h := Option.some.inj h; subst h
  exact hret _ _ _ _ hP hS dX11_image_23
abbrev rm_X11_restore : Room := { frames := 2, cells := 0, slots := 0, locals := 81 }
set_option maxHeartbeats 4000000 in
set_option maxRecDepth 100000 in
theorem c_PL_restore (l : Launch) (D : va_G) (cI cM cS cJ : ClassId) (aV : Nat → Nat) (aN : Nat → Nat) (aS : Nat → Nat) (aT : Nat → Nat) (aW : Nat → Nat) (aK : Nat → Nat) (sz : Nat) (v_hasImage : Int32) (nS : CS) (sS : CS) {o : (Int32) × (CS)} (hsem : S_PL_restore v_hasImage nS sS = some o) : kMet l yX11_restore wsX11_restore rm_X11_restore [.ref (aV 0)] D (kT cI cM cS cJ) (Wd36 cI aV aN aS aT aW aK v_hasImage nS.1 nS.2.1 nS.2.2.1 nS.2.2.2.1 nS.2.2.2.2.1 nS.2.2.2.2.2.1 nS.2.2.2.2.2.2.1 nS.2.2.2.2.2.2.2.1 nS.2.2.2.2.2.2.2.2.1 nS.2.2.2.2.2.2.2.2.2.1 sS.1 sS.2.1 sS.2.2.1 sS.2.2.2.1 sS.2.2.2.2.1 sS.2.2.2.2.2.1 sS.2.2.2.2.2.2.1 sS.2.2.2.2.2.2.2.1 sS.2.2.2.2.2.2.2.2.1 sS.2.2.2.2.2.2.2.2.2.1) sz (some (.int o.1)) (Wd36 cI aV aN aS aT aW aK v_hasImage o.2.1 o.2.2.1 o.2.2.2.1 o.2.2.2.2.1 o.2.2.2.2.2.1 o.2.2.2.2.2.2.1 o.2.2.2.2.2.2.2.1 o.2.2.2.2.2.2.2.2.1 o.2.2.2.2.2.2.2.2.2.1 o.2.2.2.2.2.2.2.2.2.2.1 sS.1 sS.2.1 sS.2.2.1 sS.2.2.2.1 sS.2.2.2.2.1 sS.2.2.2.2.2.1 sS.2.2.2.2.2.2.1 sS.2.2.2.2.2.2.2.1 sS.2.2.2.2.2.2.2.2.1 sS.2.2.2.2.2.2.2.2.2.1) := by
  refine k_metI (by decide) rfl rfl (Nat.le_of_ble_eq_true rfl) ?_
  intro p e s m below meth c ls Q A hx hb hml hts hown hK hN hA hP hD hS hl hsz hnm hret
  have hown : s.vm.findClass RX11 = some m.cls := hown
  have hf256 := hts (.fieldLink RX11 256 "PlumbLine" "hasImage" "Z") (List.mem_of_getElem? (i := 1) rfl)
  have hf36 := hts (.fieldLink RX11 36 "PlumbLine" "now" "LPlumbLine$City;") (List.mem_of_getElem? (i := 2) rfl)
  have hf42 := hts (.fieldLink RX11 42 "PlumbLine" "saved" "LPlumbLine$City;") (List.mem_of_getElem? (i := 3) rfl)
  have hf148 := hts (.fieldLink RX11 148 "PlumbLine$City" "day" "I") (List.mem_of_getElem? (i := 4) rfl)
  have hiX11 : ∀ w ∈ u_ws RX11 TX11 6, w ∈ wsX11_restore := fun w h => List.mem_cons_of_mem _ (List.mem_append_left _ (List.mem_append_right _ h))
  have hiX2 : ∀ w ∈ u_ws RX2 TX2 12, w ∈ wsX11_restore := fun w h => List.mem_cons_of_mem _ (List.mem_append_right _ h)
  replace hl : lv_has ls 1 [(0, .ref (aV 0))] := hl
  have h := hsem
  clear hsem
  rw [S_PL_restore] at h
  refine lv_aload_n hx hb dX11_restore_0 rfl (lv_at hl 0 rfl) ?_
  refine va_get (D := D) (ci := 11) (v := .int v_hasImage) (C := RX11) (T := TX11) (N := 6) hx hb hts hiX11 hown hK hP 0 rfl rfl 5 (by decide) hf256 (fun _ z => z) rfl dX11_restore_1 ?_
  refine lv_if_ne (tgt := 10) hx hb dX11_restore_4 (by decide) (fun c4 => ?_) (fun c4 => ?_)
  · have h := k_neg c4 h
    refine lv_aload_n hx hb dX11_restore_10 rfl (lv_at hl 0 rfl) ?_
    refine va_get (D := D) (ci := 11) (v := .ref (aN 0)) (C := RX11) (T := TX11) (N := 6) hx hb hts hiX11 hown hK hP 0 rfl rfl 0 (by decide) hf36 (fun _ z => z) rfl dX11_restore_11 ?_
    refine lv_aload_n hx hb dX11_restore_14 rfl (lv_at hl 0 rfl) ?_
    refine va_get (D := D) (ci := 11) (v := .ref (aS 0)) (C := RX11) (T := TX11) (N := 6) hx hb hts hiX11 hown hK hP 0 rfl rfl 1 (by decide) hf42 (fun _ z => z) rfl dX11_restore_15 ?_
    obtain ⟨r18, g18, h⟩ := k_bind h
    refine k_callV (As := [.ref (aS 0)]) (rest := []) (st1 := []) (ws2 := (Wd36 cI aV aN aS aT aW aK v_hasImage r18.1 r18.2.1 r18.2.2.1 r18.2.2.2.1 r18.2.2.2.2.1 r18.2.2.2.2.2.1 nS.2.2.2.2.2.2.1 r18.2.2.2.2.2.2.1 r18.2.2.2.2.2.2.2.1 r18.2.2.2.2.2.2.2.2 sS.1 sS.2.1 sS.2.2.1 sS.2.2.2.1 sS.2.2.2.2.1 sS.2.2.2.2.2.1 sS.2.2.2.2.2.2.1 sS.2.2.2.2.2.2.2.1 sS.2.2.2.2.2.2.2.2.1 sS.2.2.2.2.2.2.2.2.2.1)) hx hb hml hown hts hK hN hA hP hD hS hl (c_City_becomes l D cI cM cS cJ aN aS aK s.heap.size nS.1 nS.2.1 nS.2.2.1 nS.2.2.2.1 nS.2.2.2.2.1 nS.2.2.2.2.2.1 nS.2.2.2.2.2.2.1 nS.2.2.2.2.2.2.2.1 nS.2.2.2.2.2.2.2.2.1 nS.2.2.2.2.2.2.2.2.2.1 sS.1 sS.2.1 sS.2.2.1 sS.2.2.2.1 sS.2.2.2.2.1 sS.2.2.2.2.2.1 sS.2.2.2.2.2.2.1 sS.2.2.2.2.2.2.2.1 sS.2.2.2.2.2.2.2.2.1 sS.2.2.2.2.2.2.2.2.2.1 g18) gX11_restore_X2_becomes rfl kdV_X2_becomes 0 2 rfl rfl rfl [1, 2, 3, 4, 5, 6, 7, 8] ⟨rfl, rfl⟩ ⟨Nat.le_of_ble_eq_true rfl, Nat.le_of_ble_eq_true rfl⟩ ⟨Nat.zero_le _, Nat.zero_le _⟩ rfl rfl (by decide +kernel) (k_rp rfl (by decide +kernel)) rfl rfl (Nat.le_of_ble_eq_true rfl) dX11_restore_18 rfl (fun H locs hP hD hS => ?_)
    refine lv_aload_n hx hb dX11_restore_21 rfl (lv_at hl 0 rfl) ?_
    refine va_get (D := D) (ci := 11) (v := .ref (aN 0)) (C := RX11) (T := TX11) (N := 6) hx hb hts hiX11 hown hK hP 0 rfl rfl 0 (by decide) hf36 (fun _ z => z) rfl dX11_restore_22 ?_
    refine va_get (D := D) (ci := 2) (v := .int r18.2.2.2.2.2.1) (C := RX2) (T := TX2) (N := 12) hx hb hts hiX2 hown hK hP 1 rfl rfl 8 (by decide) hf148 (fun _ z => z) rfl dX11_restore_25 ?_
    have h := Option.some.inj h; subst h
    exact hret _ _ _ _ hP hS dX11_restore_28
  · have h := k_pos c4 h
    refine lv_bipush (v := (-3)) hx hb dX11_restore_7 (by decide) ?_
    have h := Option.some.inj h; subst h
    exact hret _ _ _ _ hP hS dX11_restore_9
abbrev rm_X11_count : Room := { frames := 3, cells := 0, slots := 0, locals := 64 }
set_option maxHeartbeats 4000000 in
set_option maxRecDepth 100000 in
theorem c_PL_count (l : Launch) (D : va_G) (cI cM cS cJ : ClassId) (aV : Nat → Nat) (aN : Nat → Nat) (aS : Nat → Nat) (aT : Nat → Nat) (aW : Nat → Nat) (aK : Nat → Nat) (sz : Nat) (x1 : Int32) (v_hasImage : Int32) (nS : CS) {o : (Int32)} (hsem : S_PL_count x1 nS = some o) : kMet l yX11_count wsX11_count rm_X11_count [.ref (aV 0), .int x1] D (kT cI cM cS cJ) (Wd26 cI cM aV aN aS aT aW aK v_hasImage nS.1 nS.2.1 nS.2.2.1 nS.2.2.2.1 nS.2.2.2.2.1 nS.2.2.2.2.2.1 nS.2.2.2.2.2.2.1 nS.2.2.2.2.2.2.2.1 nS.2.2.2.2.2.2.2.2.1 nS.2.2.2.2.2.2.2.2.2.1) sz (some (.int o)) (Wd26 cI cM aV aN aS aT aW aK v_hasImage nS.1 nS.2.1 nS.2.2.1 nS.2.2.2.1 nS.2.2.2.2.1 nS.2.2.2.2.2.1 nS.2.2.2.2.2.2.1 nS.2.2.2.2.2.2.2.1 nS.2.2.2.2.2.2.2.2.1 nS.2.2.2.2.2.2.2.2.2.1) := by
  refine k_metI (by decide) rfl rfl (Nat.le_of_ble_eq_true rfl) ?_
  intro p e s m below meth c ls Q A hx hb hml hts hown hK hN hA hP hD hS hl hsz hnm hret
  have hown : s.vm.findClass RX11 = some m.cls := hown
  have hf36 := hts (.fieldLink RX11 36 "PlumbLine" "now" "LPlumbLine$City;") (List.mem_of_getElem? (i := 1) rfl)
  have hf135 := hts (.fieldLink RX11 135 "PlumbLine$City" "men" "I") (List.mem_of_getElem? (i := 2) rfl)
  have hf148 := hts (.fieldLink RX11 148 "PlumbLine$City" "day" "I") (List.mem_of_getElem? (i := 3) rfl)
  have hf145 := hts (.fieldLink RX11 145 "PlumbLine$City" "place" "I") (List.mem_of_getElem? (i := 4) rfl)
  have hf142 := hts (.fieldLink RX11 142 "PlumbLine$City" "swings" "I") (List.mem_of_getElem? (i := 5) rfl)
  have hf166 := hts (.fieldLink RX11 166 "PlumbLine$City" "crashes" "I") (List.mem_of_getElem? (i := 6) rfl)
  have hf260 := hts (.fieldLink RX11 260 "PlumbLine$City" "propped" "I") (List.mem_of_getElem? (i := 7) rfl)
  have hiX11 : ∀ w ∈ u_ws RX11 TX11 6, w ∈ wsX11_count := fun w h => List.mem_cons_of_mem _ (List.mem_append_left _ (List.mem_append_right _ h))
  have hiX2 : ∀ w ∈ u_ws RX2 TX2 12, w ∈ wsX11_count := fun w h => List.mem_cons_of_mem _ (List.mem_append_right _ h)
  replace hl : lv_has ls 2 [(0, .ref (aV 0)), (1, .int x1)] := hl
  have h := hsem
  clear hsem
  rw [S_PL_count] at h
  refine lv_iload_n hx hb dX11_count_0 rfl (lv_at hl 1 rfl) ?_
  by_cases s1_0 : x1 = 0
  · refine k_tblI (tgt := 44) (v := 0) hx hb dX11_count_1 s1_0 (by decide) (by decide) rfl (by decide) ?_
    have h := k_pos s1_0 h
    refine lv_aload_n hx hb dX11_count_44 rfl (lv_at hl 0 rfl) ?_
    refine va_get (D := D) (ci := 11) (v := .ref (aN 0)) (C := RX11) (T := TX11) (N := 6) hx hb hts hiX11 hown hK hP 0 rfl rfl 0 (by decide) hf36 (fun _ z => z) rfl dX11_count_45 ?_
    refine va_get (D := D) (ci := 2) (v := .int nS.1) (C := RX2) (T := TX2) (N := 12) hx hb hts hiX2 hown hK hP 1 rfl rfl 3 (by decide) hf135 (fun _ z => z) rfl dX11_count_48 ?_
    have h := Option.some.inj h; subst h
    exact hret _ _ _ _ hP hS dX11_count_51
  · have h := k_neg s1_0 h
    by_cases s1_1 : x1 = 1
    · refine k_tblI (tgt := 52) (v := 1) hx hb dX11_count_1 s1_1 (by decide) (by decide) rfl (by decide) ?_
      have h := k_pos s1_1 h
      refine lv_aload_n hx hb dX11_count_52 rfl (lv_at hl 0 rfl) ?_
      refine va_get (D := D) (ci := 11) (v := .ref (aN 0)) (C := RX11) (T := TX11) (N := 6) hx hb hts hiX11 hown hK hP 0 rfl rfl 0 (by decide) hf36 (fun _ z => z) rfl dX11_count_53 ?_
      refine va_get (D := D) (ci := 2) (v := .int nS.2.2.2.2.2.1) (C := RX2) (T := TX2) (N := 12) hx hb hts hiX2 hown hK hP 1 rfl rfl 8 (by decide) hf148 (fun _ z => z) rfl dX11_count_56 ?_
      have h := Option.some.inj h; subst h
      exact hret _ _ _ _ hP hS dX11_count_59
    · have h := k_neg s1_1 h
      by_cases s1_2 : x1 = 2
      · refine k_tblI (tgt := 60) (v := 2) hx hb dX11_count_1 s1_2 (by decide) (by decide) rfl (by decide) ?_
        have h := k_pos s1_2 h
        refine lv_aload_n hx hb dX11_count_60 rfl (lv_at hl 0 rfl) ?_
        refine va_get (D := D) (ci := 11) (v := .ref (aN 0)) (C := RX11) (T := TX11) (N := 6) hx hb hts hiX11 hown hK hP 0 rfl rfl 0 (by decide) hf36 (fun _ z => z) rfl dX11_count_61 ?_
        refine va_get (D := D) (ci := 2) (v := .int nS.2.2.1) (C := RX2) (T := TX2) (N := 12) hx hb hts hiX2 hown hK hP 1 rfl rfl 5 (by decide) hf145 (fun _ z => z) rfl dX11_count_64 ?_
        have h := Option.some.inj h; subst h
        exact hret _ _ _ _ hP hS dX11_count_67
      · have h := k_neg s1_2 h
        by_cases s1_3 : x1 = 3
        · refine k_tblI (tgt := 68) (v := 3) hx hb dX11_count_1 s1_3 (by decide) (by decide) rfl (by decide) ?_
          have h := k_pos s1_3 h
          refine lv_aload_n hx hb dX11_count_68 rfl (lv_at hl 0 rfl) ?_
          refine va_get (D := D) (ci := 11) (v := .ref (aN 0)) (C := RX11) (T := TX11) (N := 6) hx hb hts hiX11 hown hK hP 0 rfl rfl 0 (by decide) hf36 (fun _ z => z) rfl dX11_count_69 ?_
          refine va_get (D := D) (ci := 2) (v := .int nS.2.2.2.1) (C := RX2) (T := TX2) (N := 12) hx hb hts hiX2 hown hK hP 1 rfl rfl 6 (by decide) hf142 (fun _ z => z) rfl dX11_count_72 ?_
          have h := Option.some.inj h; subst h
          exact hret _ _ _ _ hP hS dX11_count_75
        · have h := k_neg s1_3 h
          by_cases s1_4 : x1 = 4
          · refine k_tblI (tgt := 76) (v := 4) hx hb dX11_count_1 s1_4 (by decide) (by decide) rfl (by decide) ?_
            have h := k_pos s1_4 h
            refine lv_aload_n hx hb dX11_count_76 rfl (lv_at hl 0 rfl) ?_
            refine va_get (D := D) (ci := 11) (v := .ref (aN 0)) (C := RX11) (T := TX11) (N := 6) hx hb hts hiX11 hown hK hP 0 rfl rfl 0 (by decide) hf36 (fun _ z => z) rfl dX11_count_77 ?_
            refine va_get (D := D) (ci := 2) (v := .int nS.2.2.2.2.1) (C := RX2) (T := TX2) (N := 12) hx hb hts hiX2 hown hK hP 1 rfl rfl 7 (by decide) hf166 (fun _ z => z) rfl dX11_count_80 ?_
            have h := Option.some.inj h; subst h
            exact hret _ _ _ _ hP hS dX11_count_83
          · have h := k_neg s1_4 h
            by_cases s1_5 : x1 = 5
            · refine k_tblI (tgt := 84) (v := 5) hx hb dX11_count_1 s1_5 (by decide) (by decide) rfl (by decide) ?_
              have h := k_pos s1_5 h
              refine lv_aload_n hx hb dX11_count_84 rfl (lv_at hl 0 rfl) ?_
              refine va_get (D := D) (ci := 11) (v := .ref (aN 0)) (C := RX11) (T := TX11) (N := 6) hx hb hts hiX11 hown hK hP 0 rfl rfl 0 (by decide) hf36 (fun _ z => z) rfl dX11_count_85 ?_
              obtain ⟨r88, g88, h⟩ := k_bind h
              refine k_callV (As := []) (rest := []) (st1 := [.int r88]) (ws2 := (Wd26 cI cM aV aN aS aT aW aK v_hasImage nS.1 nS.2.1 nS.2.2.1 nS.2.2.2.1 nS.2.2.2.2.1 nS.2.2.2.2.2.1 nS.2.2.2.2.2.2.1 nS.2.2.2.2.2.2.2.1 nS.2.2.2.2.2.2.2.2.1 nS.2.2.2.2.2.2.2.2.2.1)) hx hb hml hown hts hK hN hA hP hD hS hl (c_City_upright l D cI cM cS cJ aN aK s.heap.size nS.1 nS.2.1 nS.2.2.1 nS.2.2.2.1 nS.2.2.2.2.1 nS.2.2.2.2.2.1 nS.2.2.2.2.2.2.1 nS.2.2.2.2.2.2.2.1 nS.2.2.2.2.2.2.2.2.1 nS.2.2.2.2.2.2.2.2.2.1 g88) gX11_count_X2_upright rfl kdV_X2_upright 0 2 rfl rfl rfl [1, 2, 3, 4, 5, 6, 7, 8, 9, 10, 11, 12, 13] ⟨rfl, rfl⟩ ⟨Nat.le_of_ble_eq_true rfl, Nat.le_of_ble_eq_true rfl⟩ ⟨Nat.zero_le _, Nat.zero_le _⟩ rfl rfl (by decide +kernel) (k_rp rfl (by decide +kernel)) rfl rfl (Nat.le_of_ble_eq_true rfl) dX11_count_88 rfl (fun H locs hP hD hS => ?_)
              have h := Option.some.inj h; subst h
              exact hret _ _ _ _ hP hS dX11_count_91
            · have h := k_neg s1_5 h
              by_cases s1_6 : x1 = 6
              · refine k_tblI (tgt := 92) (v := 6) hx hb dX11_count_1 s1_6 (by decide) (by decide) rfl (by decide) ?_
                have h := k_pos s1_6 h
                refine lv_aload_n hx hb dX11_count_92 rfl (lv_at hl 0 rfl) ?_
                refine va_get (D := D) (ci := 11) (v := .ref (aN 0)) (C := RX11) (T := TX11) (N := 6) hx hb hts hiX11 hown hK hP 0 rfl rfl 0 (by decide) hf36 (fun _ z => z) rfl dX11_count_93 ?_
                refine va_get (D := D) (ci := 2) (v := .int nS.2.1) (C := RX2) (T := TX2) (N := 12) hx hb hts hiX2 hown hK hP 1 rfl rfl 4 (by decide) hf260 (fun _ z => z) rfl dX11_count_96 ?_
                have h := Option.some.inj h; subst h
                exact hret _ _ _ _ hP hS dX11_count_99
              · have h := k_neg s1_6 h
                refine lv_tableOut (tgt := 100) hx hb dX11_count_1 (k_out [0, 1, 2, 3, 4, 5, 6] (by decide) (List.forall_mem_cons.mpr ⟨s1_0, (List.forall_mem_cons.mpr ⟨s1_1, (List.forall_mem_cons.mpr ⟨s1_2, (List.forall_mem_cons.mpr ⟨s1_3, (List.forall_mem_cons.mpr ⟨s1_4, (List.forall_mem_cons.mpr ⟨s1_5, (List.forall_mem_cons.mpr ⟨s1_6, (fun _ z => absurd z List.not_mem_nil)⟩)⟩)⟩)⟩)⟩)⟩)⟩)) (by decide) ?_
                refine lv_iconst (v := (-1)) hx hb dX11_count_100 (by decide) ?_
                have h := Option.some.inj h; subst h
                exact hret _ _ _ _ hP hS dX11_count_101
theorem kdV_X9_holdsKind : yX9_holdsKind.cls = RX9 ∧ yX9_holdsKind.cls ≠ "java/lang/invoke/MethodHandle" ∧ yX9_holdsKind.cls ≠ "java/lang/invoke/VarHandle" ∧ (parseMethodDescriptor yX9_holdsKind.desc).map (fun d => d.parameters.length) = some 2 := by decide +kernel
theorem kdV_X9_clears : yX9_clears.cls = RX9 ∧ yX9_clears.cls ≠ "java/lang/invoke/MethodHandle" ∧ yX9_clears.cls ≠ "java/lang/invoke/VarHandle" ∧ (parseMethodDescriptor yX9_clears.desc).map (fun d => d.parameters.length) = some 0 := by decide +kernel
abbrev rm_X11_keep : Room := { frames := 2, cells := 0, slots := 0, locals := 42 }
set_option maxHeartbeats 4000000 in
set_option maxRecDepth 100000 in
theorem c_PL_keep (l : Launch) (D : va_G) (cI cM cS cJ : ClassId) (aV : Nat → Nat) (aN : Nat → Nat) (aS : Nat → Nat) (aT : Nat → Nat) (aW : Nat → Nat) (aK : Nat → Nat) (aH : Nat → Nat → Nat) (dn : Nat) (sz : Nat) (x1 : Int32) (x2 : Int32) (x3 : Int32) (x4 : Int32) (v_hasImage : Int32) (d_kind : Int32) (d_figure : Int32) (d_sort : Int32) (d_size : Int32) (d_held : Int32) (hdn : ¬ (x1 < 0 ∨ 8 ≤ x1.toNatClampNeg) → x1.toNatClampNeg = dn) {o : (Int32) × (Int32) × (Int32) × (Int32)} (hsem : S_PL_keep x1 x2 x3 x4 d_kind d_figure d_held = some o) : kMet l yX11_keep wsX11_keep rm_X11_keep [.ref (aV 0), .int x1, .int x2, .int x3, .int x4] D (kT cI cM cS cJ) (Wd23 cS aV aN aS aT aW aK aH dn v_hasImage d_kind d_figure d_sort d_size d_held) sz (some (.int o.1)) (Wd23 cS aV aN aS aT aW aK aH dn v_hasImage o.2.1 o.2.2.1 d_sort d_size o.2.2.2) := by
  refine k_metI (by decide) rfl rfl (Nat.le_of_ble_eq_true rfl) ?_
  intro p e s m below meth c ls Q A hx hb hml hts hown hK hN hA hP hD hS hl hsz hnm hret
  have hown : s.vm.findClass RX11 = some m.cls := hown
  have hf59 := hts (.fieldLink RX11 59 "PlumbLine" "shelves" "[LPlumbLine$Shelf;") (List.mem_of_getElem? (i := 1) rfl)
  have hiX11 : ∀ w ∈ u_ws RX11 TX11 6, w ∈ wsX11_keep := fun w h => List.mem_cons_of_mem _ (List.mem_append_left _ (List.mem_append_right _ h))
  replace hl : lv_has ls 5 [(0, .ref (aV 0)), (1, .int x1), (2, .int x2), (3, .int x3), (4, .int x4)] := hl
  have h := hsem
  clear hsem
  rw [S_PL_keep] at h
  refine lv_iload_n hx hb dX11_keep_0 rfl (lv_at hl 1 rfl) ?_
  obtain ⟨r1, g1, h⟩ := k_bind h
  refine k_callS (As := [.int x1]) (rest := []) (st1 := [.int r1]) (ws2 := (Wd23 cS aV aN aS aT aW aK aH dn v_hasImage d_kind d_figure d_sort d_size d_held)) hx hb hml hown hts hK hN hA hP hD hS hl (c_PL_isShelf l D cI cM cS cJ s.heap.size x1 g1) gX11_keep_X11_isShelf rfl kdS_X11_isShelf [] ⟨rfl, rfl⟩ ⟨Nat.le_of_ble_eq_true rfl, Nat.le_of_ble_eq_true rfl⟩ ⟨Nat.zero_le _, Nat.zero_le _⟩ rfl rfl (by decide +kernel) (k_rp rfl (by decide +kernel)) rfl rfl (Nat.le_of_ble_eq_true rfl) dX11_keep_1 rfl (fun H locs hP hD hS => ?_)
  refine lv_if_eq (tgt := 16) hx hb dX11_keep_4 (by decide) (fun c4 => ?_) (fun c4 => ?_)
  · have h := k_pos c4 h
    refine lv_iconst (v := (-1)) hx hb dX11_keep_16 (by decide) ?_
    have h := Option.some.inj h; subst h
    exact hret _ _ _ _ hP hS dX11_keep_17
  · have h := k_neg c4 h
    refine lv_iload_n hx hb dX11_keep_7 rfl (lv_at hl 2 rfl) ?_
    refine lv_iconst (v := 0) hx hb dX11_keep_8 (by decide) ?_
    refine lv_iconst (v := 1) hx hb dX11_keep_9 (by decide) ?_
    refine k_callS (As := [.int x2, .int 0, .int 1]) (rest := []) (st1 := [.int (S_PL_isIn x2 0 1)]) (ws2 := (Wd23 cS aV aN aS aT aW aK aH dn v_hasImage d_kind d_figure d_sort d_size d_held)) hx hb hml hown hts hK hN hA hP hD hS hl (c_PL_isIn l D cI cM cS cJ H.size x2 0 1 rfl) gX11_keep_X11_isIn rfl kdS_X11_isIn [] ⟨rfl, rfl⟩ ⟨Nat.le_of_ble_eq_true rfl, Nat.le_of_ble_eq_true rfl⟩ ⟨Nat.zero_le _, Nat.zero_le _⟩ rfl rfl (by decide +kernel) (k_rp rfl (by decide +kernel)) rfl rfl (Nat.le_of_ble_eq_true rfl) dX11_keep_10 rfl (fun H locs hP hD hS => ?_)
    refine lv_if_ne (tgt := 18) hx hb dX11_keep_13 (by decide) (fun c13 => ?_) (fun c13 => ?_)
    · have h := k_neg c13 h
      refine lv_iload_n hx hb dX11_keep_18 rfl (lv_at hl 2 rfl) ?_
      refine lv_if_ne (tgt := 33) hx hb dX11_keep_19 (by decide) (fun c19 => ?_) (fun c19 => ?_)
      · have h := k_neg c19 h
        refine lv_iload_n hx hb dX11_keep_33 rfl (lv_at hl 3 rfl) ?_
        refine lv_iconst (v := 0) hx hb dX11_keep_34 (by decide) ?_
        refine lv_bipush (v := 7) hx hb dX11_keep_35 (by decide) ?_
        refine k_callS (As := [.int x3, .int 0, .int 7]) (rest := []) (st1 := [.int (S_PL_isIn x3 0 7)]) (ws2 := (Wd23 cS aV aN aS aT aW aK aH dn v_hasImage d_kind d_figure d_sort d_size d_held)) hx hb hml hown hts hK hN hA hP hD hS hl (c_PL_isIn l D cI cM cS cJ H.size x3 0 7 rfl) gX11_keep_X11_isIn rfl kdS_X11_isIn [] ⟨rfl, rfl⟩ ⟨Nat.le_of_ble_eq_true rfl, Nat.le_of_ble_eq_true rfl⟩ ⟨Nat.zero_le _, Nat.zero_le _⟩ rfl rfl (by decide +kernel) (k_rp rfl (by decide +kernel)) rfl rfl (Nat.le_of_ble_eq_true rfl) dX11_keep_37 rfl (fun H locs hP hD hS => ?_)
        refine lv_if_eq (tgt := 54) hx hb dX11_keep_40 (by decide) (fun c40 => ?_) (fun c40 => ?_)
        · have h := k_pos c40 h
          refine lv_iconst (v := (-1)) hx hb dX11_keep_54 (by decide) ?_
          have h := Option.some.inj h; subst h
          exact hret _ _ _ _ hP hS dX11_keep_55
        · have h := k_neg c40 h
          refine lv_iload hx hb dX11_keep_43 (lv_at hl 4 rfl) ?_
          refine lv_iconst (v := 0) hx hb dX11_keep_45 (by decide) ?_
          refine lv_bipush (v := 9) hx hb dX11_keep_46 (by decide) ?_
          refine k_callS (As := [.int x4, .int 0, .int 9]) (rest := []) (st1 := [.int (S_PL_isIn x4 0 9)]) (ws2 := (Wd23 cS aV aN aS aT aW aK aH dn v_hasImage d_kind d_figure d_sort d_size d_held)) hx hb hml hown hts hK hN hA hP hD hS hl (c_PL_isIn l D cI cM cS cJ H.size x4 0 9 rfl) gX11_keep_X11_isIn rfl kdS_X11_isIn [] ⟨rfl, rfl⟩ ⟨Nat.le_of_ble_eq_true rfl, Nat.le_of_ble_eq_true rfl⟩ ⟨Nat.zero_le _, Nat.zero_le _⟩ rfl rfl (by decide +kernel) (k_rp rfl (by decide +kernel)) rfl rfl (Nat.le_of_ble_eq_true rfl) dX11_keep_48 rfl (fun H locs hP hD hS => ?_)
          refine lv_if_ne (tgt := 56) hx hb dX11_keep_51 (by decide) (fun c51 => ?_) (fun c51 => ?_)
          · have h := k_neg c51 h
            refine lv_aload_n hx hb dX11_keep_56 rfl (lv_at hl 0 rfl) ?_
            refine va_get (D := D) (ci := 11) (v := .ref (aV 1)) (C := RX11) (T := TX11) (N := 6) hx hb hts hiX11 hown hK hP 0 rfl rfl 4 (by decide) hf59 (fun _ z => z) rfl dX11_keep_57 ?_
            refine lv_iload_n hx hb dX11_keep_60 rfl (lv_at hl 1 rfl) ?_
            obtain ⟨g61, h⟩ := k_guard h
            refine k_aldR (f := fun k => aH k 0) hx hb hK hP 1 2 rfl rfl g61 dX11_keep_61 ?_
            rw [show x1.toNatClampNeg = dn from hdn g61]
            refine lv_iload_n hx hb dX11_keep_62 rfl (lv_at hl 3 rfl) ?_
            refine lv_iload hx hb dX11_keep_63 (lv_at hl 4 rfl) ?_
            refine k_callV (As := [.int x3, .int x4]) (rest := []) (st1 := []) (ws2 := (Wd23 cS aV aN aS aT aW aK aH dn v_hasImage ((S_Shelf_holdsKind x3 x4 d_kind d_figure d_held).1) ((S_Shelf_holdsKind x3 x4 d_kind d_figure d_held).2.1) d_sort d_size ((S_Shelf_holdsKind x3 x4 d_kind d_figure d_held).2.2))) hx hb hml hown hts hK hN hA hP hD hS hl (c_Shelf_holdsKind l D cI cM cS cJ (aH dn) aK H.size x3 x4 d_kind d_figure d_sort d_size d_held rfl) gX11_keep_X9_holdsKind rfl kdV_X9_holdsKind 0 9 rfl rfl rfl [2] ⟨rfl, rfl⟩ ⟨Nat.le_of_ble_eq_true rfl, Nat.le_of_ble_eq_true rfl⟩ ⟨Nat.zero_le _, Nat.zero_le _⟩ rfl rfl (by decide +kernel) (k_rp rfl (by decide +kernel)) rfl rfl (Nat.le_of_ble_eq_true rfl) dX11_keep_65 rfl (fun H locs hP hD hS => ?_)
            refine lv_iconst (v := 0) hx hb dX11_keep_68 (by decide) ?_
            have h := Option.some.inj h; subst h
            exact hret _ _ _ _ hP hS dX11_keep_69
          · have h := k_pos c51 h
            refine lv_iconst (v := (-1)) hx hb dX11_keep_54 (by decide) ?_
            have h := Option.some.inj h; subst h
            exact hret _ _ _ _ hP hS dX11_keep_55
      · have h := k_pos c19 h
        refine lv_aload_n hx hb dX11_keep_22 rfl (lv_at hl 0 rfl) ?_
        refine va_get (D := D) (ci := 11) (v := .ref (aV 1)) (C := RX11) (T := TX11) (N := 6) hx hb hts hiX11 hown hK hP 0 rfl rfl 4 (by decide) hf59 (fun _ z => z) rfl dX11_keep_23 ?_
        refine lv_iload_n hx hb dX11_keep_26 rfl (lv_at hl 1 rfl) ?_
        obtain ⟨g27, h⟩ := k_guard h
        refine k_aldR (f := fun k => aH k 0) hx hb hK hP 1 2 rfl rfl g27 dX11_keep_27 ?_
        rw [show x1.toNatClampNeg = dn from hdn g27]
        refine k_callV (As := []) (rest := []) (st1 := []) (ws2 := (Wd23 cS aV aN aS aT aW aK aH dn v_hasImage d_kind d_figure d_sort d_size (S_Shelf_clears d_held))) hx hb hml hown hts hK hN hA hP hD hS hl (c_Shelf_clears l D cI cM cS cJ (aH dn) aK H.size d_kind d_figure d_sort d_size d_held rfl) gX11_keep_X9_clears rfl kdV_X9_clears 0 9 rfl rfl rfl [2] ⟨rfl, rfl⟩ ⟨Nat.le_of_ble_eq_true rfl, Nat.le_of_ble_eq_true rfl⟩ ⟨Nat.zero_le _, Nat.zero_le _⟩ rfl rfl (by decide +kernel) (k_rp rfl (by decide +kernel)) rfl rfl (Nat.le_of_ble_eq_true rfl) dX11_keep_28 rfl (fun H locs hP hD hS => ?_)
        refine lv_iconst (v := 0) hx hb dX11_keep_31 (by decide) ?_
        have h := Option.some.inj h; subst h
        exact hret _ _ _ _ hP hS dX11_keep_32
    · have h := k_pos c13 h
      refine lv_iconst (v := (-1)) hx hb dX11_keep_16 (by decide) ?_
      have h := Option.some.inj h; subst h
      exact hret _ _ _ _ hP hS dX11_keep_17
abbrev Wd37 (cI : ClassId) (cS : ClassId) (aV : Nat → Nat) (aN : Nat → Nat) (aS : Nat → Nat) (aT : Nat → Nat) (aW : Nat → Nat) (aK : Nat → Nat) (aH : Nat → Nat → Nat) (dn : Nat) (v_hasImage : Int32) (d_kind : Int32) (d_figure : Int32) (d_sort : Int32) (d_size : Int32) (d_held : Int32) (d_el : Nat → Int32) : va_W := [((aV 0), .inr (11, [.ref (aN 0), .ref (aS 0), .ref (aT 0), .ref (aW 0), .ref (aV 1), .int v_hasImage])), ((aV 1), .inl (cS, 8, .inr (.inr (.inr (.inr (fun k => some (aH k 0))))))), (((aH dn) 0), .inr (9, [.ref ((aH dn) 1), .int d_kind, .int d_figure, .int d_sort, .int d_size, .int d_held, .ref (aK 8)])), (((aH dn) 1), .inl (cI, 100, .inl d_el))]
theorem kdV_X9_holdsRow : yX9_holdsRow.cls = RX9 ∧ yX9_holdsRow.cls ≠ "java/lang/invoke/MethodHandle" ∧ yX9_holdsRow.cls ≠ "java/lang/invoke/VarHandle" ∧ (parseMethodDescriptor yX9_holdsRow.desc).map (fun d => d.parameters.length) = some 2 := by decide +kernel
abbrev rm_X11_row : Room := { frames := 2, cells := 0, slots := 0, locals := 42 }
set_option maxHeartbeats 4000000 in
set_option maxRecDepth 100000 in
theorem c_PL_row (l : Launch) (D : va_G) (cI cM cS cJ : ClassId) (aV : Nat → Nat) (aN : Nat → Nat) (aS : Nat → Nat) (aT : Nat → Nat) (aW : Nat → Nat) (aK : Nat → Nat) (aH : Nat → Nat → Nat) (dn : Nat) (sz : Nat) (x1 : Int32) (x2 : Int32) (x3 : Int32) (v_hasImage : Int32) (d_kind : Int32) (d_figure : Int32) (d_sort : Int32) (d_size : Int32) (d_held : Int32) (d_el : Nat → Int32) (hdn : ¬ (x1 < 0 ∨ 8 ≤ x1.toNatClampNeg) → x1.toNatClampNeg = dn) {o : (Int32) × (Int32) × (Int32) × (Int32) × (Nat → Int32)} (hsem : S_PL_row x1 x2 x3 d_sort d_size d_held d_el = some o) : kMet l yX11_row wsX11_row rm_X11_row [.ref (aV 0), .int x1, .int x2, .int x3] D (kT cI cM cS cJ) (Wd37 cI cS aV aN aS aT aW aK aH dn v_hasImage d_kind d_figure d_sort d_size d_held d_el) sz (some (.int o.1)) (Wd37 cI cS aV aN aS aT aW aK aH dn v_hasImage d_kind d_figure o.2.1 o.2.2.1 o.2.2.2.1 o.2.2.2.2) := by
  refine k_metI (by decide) rfl rfl (Nat.le_of_ble_eq_true rfl) ?_
  intro p e s m below meth c ls Q A hx hb hml hts hown hK hN hA hP hD hS hl hsz hnm hret
  have hown : s.vm.findClass RX11 = some m.cls := hown
  have hf59 := hts (.fieldLink RX11 59 "PlumbLine" "shelves" "[LPlumbLine$Shelf;") (List.mem_of_getElem? (i := 1) rfl)
  have hiX11 : ∀ w ∈ u_ws RX11 TX11 6, w ∈ wsX11_row := fun w h => List.mem_cons_of_mem _ (List.mem_append_left _ (List.mem_append_right _ h))
  replace hl : lv_has ls 4 [(0, .ref (aV 0)), (1, .int x1), (2, .int x2), (3, .int x3)] := hl
  have h := hsem
  clear hsem
  rw [S_PL_row] at h
  refine lv_iload_n hx hb dX11_row_0 rfl (lv_at hl 1 rfl) ?_
  obtain ⟨r1, g1, h⟩ := k_bind h
  refine k_callS (As := [.int x1]) (rest := []) (st1 := [.int r1]) (ws2 := (Wd37 cI cS aV aN aS aT aW aK aH dn v_hasImage d_kind d_figure d_sort d_size d_held d_el)) hx hb hml hown hts hK hN hA hP hD hS hl (c_PL_isShelf l D cI cM cS cJ s.heap.size x1 g1) gX11_row_X11_isShelf rfl kdS_X11_isShelf [] ⟨rfl, rfl⟩ ⟨Nat.le_of_ble_eq_true rfl, Nat.le_of_ble_eq_true rfl⟩ ⟨Nat.zero_le _, Nat.zero_le _⟩ rfl rfl (by decide +kernel) (k_rp rfl (by decide +kernel)) rfl rfl (Nat.le_of_ble_eq_true rfl) dX11_row_1 rfl (fun H locs hP hD hS => ?_)
  refine lv_if_eq (tgt := 22) hx hb dX11_row_4 (by decide) (fun c4 => ?_) (fun c4 => ?_)
  · have h := k_pos c4 h
    refine lv_iconst (v := (-1)) hx hb dX11_row_22 (by decide) ?_
    have h := Option.some.inj h; subst h
    exact hret _ _ _ _ hP hS dX11_row_23
  · have h := k_neg c4 h
    refine lv_iload_n hx hb dX11_row_7 rfl (lv_at hl 2 rfl) ?_
    refine lv_iconst (v := 0) hx hb dX11_row_8 (by decide) ?_
    refine lv_iconst (v := 2) hx hb dX11_row_9 (by decide) ?_
    refine k_callS (As := [.int x2, .int 0, .int 2]) (rest := []) (st1 := [.int (S_PL_isIn x2 0 2)]) (ws2 := (Wd37 cI cS aV aN aS aT aW aK aH dn v_hasImage d_kind d_figure d_sort d_size d_held d_el)) hx hb hml hown hts hK hN hA hP hD hS hl (c_PL_isIn l D cI cM cS cJ H.size x2 0 2 rfl) gX11_row_X11_isIn rfl kdS_X11_isIn [] ⟨rfl, rfl⟩ ⟨Nat.le_of_ble_eq_true rfl, Nat.le_of_ble_eq_true rfl⟩ ⟨Nat.zero_le _, Nat.zero_le _⟩ rfl rfl (by decide +kernel) (k_rp rfl (by decide +kernel)) rfl rfl (Nat.le_of_ble_eq_true rfl) dX11_row_10 rfl (fun H locs hP hD hS => ?_)
    refine lv_if_eq (tgt := 22) hx hb dX11_row_13 (by decide) (fun c13 => ?_) (fun c13 => ?_)
    · have h := k_pos c13 h
      refine lv_iconst (v := (-1)) hx hb dX11_row_22 (by decide) ?_
      have h := Option.some.inj h; subst h
      exact hret _ _ _ _ hP hS dX11_row_23
    · have h := k_neg c13 h
      refine lv_iload_n hx hb dX11_row_16 rfl (lv_at hl 3 rfl) ?_
      refine lv_bipush (v := 100) hx hb dX11_row_17 (by decide) ?_
      refine lv_icmp_le (tgt := 24) hx hb dX11_row_19 (by decide) (fun c19 => ?_) (fun c19 => ?_)
      · have h := k_pos c19 h
        refine lv_iload_n hx hb dX11_row_24 rfl (lv_at hl 3 rfl) ?_
        refine lv_if_ge (tgt := 31) hx hb dX11_row_25 (by decide) (fun c25 => ?_) (fun c25 => ?_)
        · have h := k_pos c25 h
          refine lv_aload_n hx hb dX11_row_31 rfl (lv_at hl 0 rfl) ?_
          refine va_get (D := D) (ci := 11) (v := .ref (aV 1)) (C := RX11) (T := TX11) (N := 6) hx hb hts hiX11 hown hK hP 0 rfl rfl 4 (by decide) hf59 (fun _ z => z) rfl dX11_row_32 ?_
          refine lv_iload_n hx hb dX11_row_35 rfl (lv_at hl 1 rfl) ?_
          obtain ⟨g36, h⟩ := k_guard h
          refine k_aldR (f := fun k => aH k 0) hx hb hK hP 1 2 rfl rfl g36 dX11_row_36 ?_
          rw [show x1.toNatClampNeg = dn from hdn g36]
          refine lv_iload_n hx hb dX11_row_37 rfl (lv_at hl 2 rfl) ?_
          refine lv_iload_n hx hb dX11_row_38 rfl (lv_at hl 3 rfl) ?_
          obtain ⟨r39, g39, h⟩ := k_bind h
          refine k_callV (As := [.int x2, .int x3]) (rest := []) (st1 := []) (ws2 := (Wd37 cI cS aV aN aS aT aW aK aH dn v_hasImage d_kind d_figure r39.1 r39.2.1 r39.2.2.1 r39.2.2.2)) hx hb hml hown hts hK hN hA hP hD hS hl (c_Shelf_holdsRow l D cI cM cS cJ (aH dn) aK H.size x2 x3 d_kind d_figure d_sort d_size d_held d_el g39) gX11_row_X9_holdsRow rfl kdV_X9_holdsRow 0 9 rfl rfl rfl [2, 3] ⟨rfl, rfl⟩ ⟨Nat.le_of_ble_eq_true rfl, Nat.le_of_ble_eq_true rfl⟩ ⟨Nat.zero_le _, Nat.zero_le _⟩ rfl rfl (by decide +kernel) (k_rp rfl (by decide +kernel)) rfl rfl (Nat.le_of_ble_eq_true rfl) dX11_row_39 rfl (fun H locs hP hD hS => ?_)
          refine lv_iconst (v := 0) hx hb dX11_row_42 (by decide) ?_
          have h := Option.some.inj h; subst h
          exact hret _ _ _ _ hP hS dX11_row_43
        · have h := k_neg c25 h
          refine lv_bipush (v := (-14)) hx hb dX11_row_28 (by decide) ?_
          have h := Option.some.inj h; subst h
          exact hret _ _ _ _ hP hS dX11_row_30
      · have h := k_neg c19 h
        refine lv_iconst (v := (-1)) hx hb dX11_row_22 (by decide) ?_
        have h := Option.some.inj h; subst h
        exact hret _ _ _ _ hP hS dX11_row_23
