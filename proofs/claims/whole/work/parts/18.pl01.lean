abbrev rm_X11_pushes : Room := { frames := 1, cells := 0, slots := 0, locals := 22 }
set_option maxHeartbeats 4000000 in
set_option maxRecDepth 100000 in
theorem c_PL_pushes (l : Launch) (D : va_G) (cI cM cS cJ : ClassId) (aV : Nat → Nat) (aN : Nat → Nat) (aS : Nat → Nat) (aT : Nat → Nat) (aW : Nat → Nat) (aK : Nat → Nat) (sz : Nat) (x1 : Int32) (x2 : Int32) (v_hasImage : Int32) (nS : CS) {o : (Int32) × (CS)} (hsem : S_PL_pushes x1 x2 nS = some o) : kMet l yX11_pushes wsX11_pushes rm_X11_pushes [.ref (aV 0), .int x1, .int x2] D (kT cI cM cS cJ) (Wd25 cI aV aN aS aT aW aK v_hasImage nS.1 nS.2.1 nS.2.2.1 nS.2.2.2.1 nS.2.2.2.2.1 nS.2.2.2.2.2.1 nS.2.2.2.2.2.2.1 nS.2.2.2.2.2.2.2.2.2.1) sz (some (.int o.1)) (Wd25 cI aV aN aS aT aW aK v_hasImage o.2.1 o.2.2.1 o.2.2.2.1 o.2.2.2.2.1 o.2.2.2.2.2.1 o.2.2.2.2.2.2.1 o.2.2.2.2.2.2.2.1 o.2.2.2.2.2.2.2.2.2.2.1) := by
  refine k_metI (by decide) rfl rfl (Nat.le_of_ble_eq_true rfl) ?_
  intro p e s m below meth c ls Q A hx hb hml hts hown hK hN hA hP hD hS hl hsz hnm hret
  have hown : s.vm.findClass RX11 = some m.cls := hown
  have hf36 := hts (.fieldLink RX11 36 "PlumbLine" "now" "LPlumbLine$City;") (List.mem_of_getElem? (i := 1) rfl)
  have hf99 := hts (.fieldLink RX11 99 "PlumbLine$City" "lean" "[I") (List.mem_of_getElem? (i := 3) rfl)
  have hiX11 : ∀ w ∈ u_ws RX11 TX11 6, w ∈ wsX11_pushes := fun w h => List.mem_cons_of_mem _ (List.mem_append_left _ (List.mem_append_right _ h))
  have hiX2 : ∀ w ∈ u_ws RX2 TX2 12, w ∈ wsX11_pushes := fun w h => List.mem_cons_of_mem _ (List.mem_append_right _ h)
  replace hl : lv_has ls 4 [(0, .ref (aV 0)), (1, .int x1), (2, .int x2)] := hl
  have h := hsem
  clear hsem
  rw [S_PL_pushes] at h
  refine lv_aload_n hx hb dX11_pushes_0 rfl (lv_at hl 0 rfl) ?_
  refine va_get (D := D) (ci := 11) (v := .ref (aN 0)) (C := RX11) (T := TX11) (N := 6) hx hb hts hiX11 hown hK hP 0 rfl rfl 0 (by decide) hf36 (fun _ z => z) rfl dX11_pushes_1 ?_
  refine lv_iload_n hx hb dX11_pushes_4 rfl (lv_at hl 1 rfl) ?_
  refine k_callV (As := [.int x1]) (rest := []) (st1 := [.int (S_City_has x1 nS.1)]) (ws2 := (Wd25 cI aV aN aS aT aW aK v_hasImage nS.1 nS.2.1 nS.2.2.1 nS.2.2.2.1 nS.2.2.2.2.1 nS.2.2.2.2.2.1 nS.2.2.2.2.2.2.1 nS.2.2.2.2.2.2.2.2.2.1)) hx hb hml hown hts hK hN hA hP hD hS hl (c_City_has l D cI cM cS cJ aN aK s.heap.size x1 nS.1 nS.2.1 nS.2.2.1 nS.2.2.2.1 nS.2.2.2.2.1 nS.2.2.2.2.2.1 nS.2.2.2.2.2.2.1 rfl) gX11_pushes_X2_has rfl kdV_X2_has 0 2 rfl rfl rfl [1] ⟨rfl, rfl⟩ ⟨Nat.le_of_ble_eq_true rfl, Nat.le_of_ble_eq_true rfl⟩ ⟨Nat.zero_le _, Nat.zero_le _⟩ rfl rfl (by decide +kernel) (k_rp rfl (by decide +kernel)) rfl rfl (Nat.le_of_ble_eq_true rfl) dX11_pushes_5 rfl (fun H locs hP hD hS => ?_)
  refine lv_if_eq (tgt := 22) hx hb dX11_pushes_8 (by decide) (fun c8 => ?_) (fun c8 => ?_)
  · have h := k_pos c8 h
    refine lv_ldc (v := 1000000001) hx hb hown (hts (.constant RX11 102 1000000001) (List.mem_of_getElem? (i := 2) rfl)) dX11_pushes_22 ?_
    have h := Option.some.inj h; subst h
    exact hret _ _ _ _ hP hS dX11_pushes_24
  · have h := k_neg c8 h
    refine lv_iload_n hx hb dX11_pushes_11 rfl (lv_at hl 2 rfl) ?_
    refine lv_bipush (v := (-45)) hx hb dX11_pushes_12 (by decide) ?_
    refine lv_bipush (v := 45) hx hb dX11_pushes_14 (by decide) ?_
    refine k_callS (As := [.int x2, .int (-45), .int 45]) (rest := []) (st1 := [.int (S_PL_isIn x2 (-45) 45)]) (ws2 := (Wd25 cI aV aN aS aT aW aK v_hasImage nS.1 nS.2.1 nS.2.2.1 nS.2.2.2.1 nS.2.2.2.2.1 nS.2.2.2.2.2.1 nS.2.2.2.2.2.2.1 nS.2.2.2.2.2.2.2.2.2.1)) hx hb hml hown hts hK hN hA hP hD hS hl (c_PL_isIn l D cI cM cS cJ H.size x2 (-45) 45 rfl) gX11_pushes_X11_isIn rfl kdS_X11_isIn [] ⟨rfl, rfl⟩ ⟨Nat.le_of_ble_eq_true rfl, Nat.le_of_ble_eq_true rfl⟩ ⟨Nat.zero_le _, Nat.zero_le _⟩ rfl rfl (by decide +kernel) (k_rp rfl (by decide +kernel)) rfl rfl (Nat.le_of_ble_eq_true rfl) dX11_pushes_16 rfl (fun H locs hP hD hS => ?_)
    refine lv_if_ne (tgt := 25) hx hb dX11_pushes_19 (by decide) (fun c19 => ?_) (fun c19 => ?_)
    · have h := k_neg c19 h
      refine lv_aload_n hx hb dX11_pushes_25 rfl (lv_at hl 0 rfl) ?_
      refine va_get (D := D) (ci := 11) (v := .ref (aN 0)) (C := RX11) (T := TX11) (N := 6) hx hb hts hiX11 hown hK hP 0 rfl rfl 0 (by decide) hf36 (fun _ z => z) rfl dX11_pushes_26 ?_
      refine va_get (D := D) (ci := 2) (v := .ref (aN 3)) (C := RX2) (T := TX2) (N := 12) hx hb hts hiX2 hown hK hP 1 rfl rfl 2 (by decide) hf99 (fun _ z => z) rfl dX11_pushes_29 ?_
      refine lv_iload_n hx hb dX11_pushes_32 rfl (lv_at hl 1 rfl) ?_
      obtain ⟨g33, h⟩ := k_guard h
      refine va_iald hx hb hK hP 2 0 rfl rfl g33 dX11_pushes_33 ?_
      refine lv_istore_n (lv' := [(3, .int (nS.2.2.2.2.2.2.2.2.2.1 x1.toNatClampNeg)), (0, .ref (aV 0)), (1, .int x1), (2, .int x2)]) hx hb dX11_pushes_34 rfl hl (by decide) rfl (fun ls hl => ?_)
      refine lv_aload_n hx hb dX11_pushes_35 rfl (lv_at hl 1 rfl) ?_
      refine va_get (D := D) (ci := 11) (v := .ref (aN 0)) (C := RX11) (T := TX11) (N := 6) hx hb hts hiX11 hown hK hP 0 rfl rfl 0 (by decide) hf36 (fun _ z => z) rfl dX11_pushes_36 ?_
      refine va_get (D := D) (ci := 2) (v := .ref (aN 3)) (C := RX2) (T := TX2) (N := 12) hx hb hts hiX2 hown hK hP 1 rfl rfl 2 (by decide) hf99 (fun _ z => z) rfl dX11_pushes_39 ?_
      refine lv_iload_n hx hb dX11_pushes_42 rfl (lv_at hl 2 rfl) ?_
      refine lv_iload_n hx hb dX11_pushes_43 rfl (lv_at hl 3 rfl) ?_
      refine va_iast hx hb hK hP hD hS 2 0 rfl rfl g33 dX11_pushes_44 (fun H locs hP hD hS => ?_)
      replace hP : va_P D vwCl (Wd25 cI aV aN aS aT aW aK v_hasImage nS.1 nS.2.1 nS.2.2.1 nS.2.2.2.1 nS.2.2.2.2.1 nS.2.2.2.2.2.1 nS.2.2.2.2.2.2.1 (upd nS.2.2.2.2.2.2.2.2.2.1 x1.toNatClampNeg x2)) H := hP
      replace hD : va_D A (Wd25 cI aV aN aS aT aW aK v_hasImage nS.1 nS.2.1 nS.2.2.1 nS.2.2.2.1 nS.2.2.2.2.1 nS.2.2.2.2.2.1 nS.2.2.2.2.2.2.1 (upd nS.2.2.2.2.2.2.2.2.2.1 x1.toNatClampNeg x2)) := hD
      refine lv_iload_n hx hb dX11_pushes_45 rfl (lv_at hl 0 rfl) ?_
      have h := Option.some.inj h; subst h
      exact hret _ _ _ _ hP hS dX11_pushes_46
    · have h := k_pos c19 h
      refine lv_ldc (v := 1000000001) hx hb hown (hts (.constant RX11 102 1000000001) (List.mem_of_getElem? (i := 2) rfl)) dX11_pushes_22 ?_
      have h := Option.some.inj h; subst h
      exact hret _ _ _ _ hP hS dX11_pushes_24
abbrev Wd28 (aV : Nat → Nat) (aN : Nat → Nat) (aS : Nat → Nat) (aT : Nat → Nat) (aW : Nat → Nat) (aK : Nat → Nat) (v_hasImage : Int32) (n_men : Int32) (n_propped : Int32) (n_place : Int32) (n_swings : Int32) (n_crashes : Int32) (n_day : Int32) (n_crashedToday : Int32) : va_W := [((aV 0), .inr (11, [.ref (aN 0), .ref (aS 0), .ref (aT 0), .ref (aW 0), .ref (aV 1), .int v_hasImage])), ((aN 0), .inr (2, [.ref (aN 1), .ref (aN 2), .ref (aN 3), .int n_men, .int n_propped, .int n_place, .int n_swings, .int n_crashes, .int n_day, .int n_crashedToday, .ref (aK 8), .ref (aN 4)]))]
abbrev rm_X11_props : Room := { frames := 1, cells := 0, slots := 0, locals := 21 }
set_option maxHeartbeats 4000000 in
set_option maxRecDepth 100000 in
theorem c_PL_props (l : Launch) (D : va_G) (cI cM cS cJ : ClassId) (aV : Nat → Nat) (aN : Nat → Nat) (aS : Nat → Nat) (aT : Nat → Nat) (aW : Nat → Nat) (aK : Nat → Nat) (sz : Nat) (x1 : Int32) (v_hasImage : Int32) (nS : CS) {o : (Int32) × (CS)} (hsem : S_PL_props x1 nS = o) : kMet l yX11_props wsX11_props rm_X11_props [.ref (aV 0), .int x1] D (kT cI cM cS cJ) (Wd28 aV aN aS aT aW aK v_hasImage nS.1 nS.2.1 nS.2.2.1 nS.2.2.2.1 nS.2.2.2.2.1 nS.2.2.2.2.2.1 nS.2.2.2.2.2.2.1) sz (some (.int o.1)) (Wd28 aV aN aS aT aW aK v_hasImage o.2.1 o.2.2.1 o.2.2.2.1 o.2.2.2.2.1 o.2.2.2.2.2.1 o.2.2.2.2.2.2.1 o.2.2.2.2.2.2.2.1) := by
  refine k_metI (by decide) rfl rfl (Nat.le_of_ble_eq_true rfl) ?_
  intro p e s m below meth c ls Q A hx hb hml hts hown hK hN hA hP hD hS hl hsz hnm hret
  have hown : s.vm.findClass RX11 = some m.cls := hown
  have hf36 := hts (.fieldLink RX11 36 "PlumbLine" "now" "LPlumbLine$City;") (List.mem_of_getElem? (i := 1) rfl)
  have hiX11 : ∀ w ∈ u_ws RX11 TX11 6, w ∈ wsX11_props := fun w h => List.mem_cons_of_mem _ (List.mem_append_left _ (List.mem_append_right _ h))
  replace hl : lv_has ls 2 [(0, .ref (aV 0)), (1, .int x1)] := hl
  have h := hsem
  clear hsem
  rw [S_PL_props] at h
  refine lv_aload_n hx hb dX11_props_0 rfl (lv_at hl 0 rfl) ?_
  refine va_get (D := D) (ci := 11) (v := .ref (aN 0)) (C := RX11) (T := TX11) (N := 6) hx hb hts hiX11 hown hK hP 0 rfl rfl 0 (by decide) hf36 (fun _ z => z) rfl dX11_props_1 ?_
  refine lv_iload_n hx hb dX11_props_4 rfl (lv_at hl 1 rfl) ?_
  refine k_callV (As := [.int x1]) (rest := []) (st1 := [.int (S_City_has x1 nS.1)]) (ws2 := (Wd28 aV aN aS aT aW aK v_hasImage nS.1 nS.2.1 nS.2.2.1 nS.2.2.2.1 nS.2.2.2.2.1 nS.2.2.2.2.2.1 nS.2.2.2.2.2.2.1)) hx hb hml hown hts hK hN hA hP hD hS hl (c_City_has l D cI cM cS cJ aN aK s.heap.size x1 nS.1 nS.2.1 nS.2.2.1 nS.2.2.2.1 nS.2.2.2.2.1 nS.2.2.2.2.2.1 nS.2.2.2.2.2.2.1 rfl) gX11_props_X2_has rfl kdV_X2_has 0 2 rfl rfl rfl [1] ⟨rfl, rfl⟩ ⟨Nat.le_of_ble_eq_true rfl, Nat.le_of_ble_eq_true rfl⟩ ⟨Nat.zero_le _, Nat.zero_le _⟩ rfl rfl (by decide +kernel) (k_rp rfl (by decide +kernel)) rfl rfl (Nat.le_of_ble_eq_true rfl) dX11_props_5 rfl (fun H locs hP hD hS => ?_)
  refine lv_if_ne (tgt := 13) hx hb dX11_props_8 (by decide) (fun c8 => ?_) (fun c8 => ?_)
  · have h := k_neg c8 h
    refine lv_aload_n hx hb dX11_props_13 rfl (lv_at hl 0 rfl) ?_
    refine va_get (D := D) (ci := 11) (v := .ref (aN 0)) (C := RX11) (T := TX11) (N := 6) hx hb hts hiX11 hown hK hP 0 rfl rfl 0 (by decide) hf36 (fun _ z => z) rfl dX11_props_14 ?_
    refine lv_iload_n hx hb dX11_props_17 rfl (lv_at hl 1 rfl) ?_
    refine k_callV (As := [.int x1]) (rest := []) (st1 := []) (ws2 := (Wd28 aV aN aS aT aW aK v_hasImage nS.1 (S_City_turnProp x1 nS.2.1) nS.2.2.1 nS.2.2.2.1 nS.2.2.2.2.1 nS.2.2.2.2.2.1 nS.2.2.2.2.2.2.1)) hx hb hml hown hts hK hN hA hP hD hS hl (c_City_turnProp l D cI cM cS cJ aN aK H.size x1 nS.1 nS.2.1 nS.2.2.1 nS.2.2.2.1 nS.2.2.2.2.1 nS.2.2.2.2.2.1 nS.2.2.2.2.2.2.1 rfl) gX11_props_X2_turnProp rfl kdV_X2_turnProp 0 2 rfl rfl rfl [1] ⟨rfl, rfl⟩ ⟨Nat.le_of_ble_eq_true rfl, Nat.le_of_ble_eq_true rfl⟩ ⟨Nat.zero_le _, Nat.zero_le _⟩ rfl rfl (by decide +kernel) (k_rp rfl (by decide +kernel)) rfl rfl (Nat.le_of_ble_eq_true rfl) dX11_props_18 rfl (fun H locs hP hD hS => ?_)
    refine lv_aload_n hx hb dX11_props_21 rfl (lv_at hl 0 rfl) ?_
    refine va_get (D := D) (ci := 11) (v := .ref (aN 0)) (C := RX11) (T := TX11) (N := 6) hx hb hts hiX11 hown hK hP 0 rfl rfl 0 (by decide) hf36 (fun _ z => z) rfl dX11_props_22 ?_
    refine lv_iload_n hx hb dX11_props_25 rfl (lv_at hl 1 rfl) ?_
    refine k_callV (As := [.int x1]) (rest := []) (st1 := [.int (S_City_isPropped x1 (S_City_turnProp x1 nS.2.1))]) (ws2 := (Wd28 aV aN aS aT aW aK v_hasImage nS.1 (S_City_turnProp x1 nS.2.1) nS.2.2.1 nS.2.2.2.1 nS.2.2.2.2.1 nS.2.2.2.2.2.1 nS.2.2.2.2.2.2.1)) hx hb hml hown hts hK hN hA hP hD hS hl (c_City_isPropped l D cI cM cS cJ aN aK H.size x1 nS.1 (S_City_turnProp x1 nS.2.1) nS.2.2.1 nS.2.2.2.1 nS.2.2.2.2.1 nS.2.2.2.2.2.1 nS.2.2.2.2.2.2.1 rfl) gX11_props_X2_isPropped rfl kdV_X2_isPropped 0 2 rfl rfl rfl [1] ⟨rfl, rfl⟩ ⟨Nat.le_of_ble_eq_true rfl, Nat.le_of_ble_eq_true rfl⟩ ⟨Nat.zero_le _, Nat.zero_le _⟩ rfl rfl (by decide +kernel) (k_rp rfl (by decide +kernel)) rfl rfl (Nat.le_of_ble_eq_true rfl) dX11_props_26 rfl (fun H locs hP hD hS => ?_)
    refine lv_if_eq (tgt := 36) hx hb dX11_props_29 (by decide) (fun c29 => ?_) (fun c29 => ?_)
    · have h := k_pos c29 h
      refine lv_iconst (v := 0) hx hb dX11_props_36 (by decide) ?_
      subst h
      exact hret _ _ _ _ hP hS dX11_props_37
    · have h := k_neg c29 h
      refine lv_iconst (v := 1) hx hb dX11_props_32 (by decide) ?_
      refine lv_goto (tgt := 37) hx hb dX11_props_33 (by decide) ?_
      subst h
      exact hret _ _ _ _ hP hS dX11_props_37
  · have h := k_pos c8 h
    refine lv_iconst (v := (-1)) hx hb dX11_props_11 (by decide) ?_
    subst h
    exact hret _ _ _ _ hP hS dX11_props_12
abbrev rm_X11_hangs : Room := { frames := 1, cells := 0, slots := 0, locals := 22 }
set_option maxHeartbeats 4000000 in
set_option maxRecDepth 100000 in
theorem c_PL_hangs (l : Launch) (D : va_G) (cI cM cS cJ : ClassId) (aV : Nat → Nat) (aN : Nat → Nat) (aS : Nat → Nat) (aT : Nat → Nat) (aW : Nat → Nat) (aK : Nat → Nat) (sz : Nat) (x1 : Int32) (x2 : Int32) (v_hasImage : Int32) (nS : CS) {o : (Int32) × (CS)} (hsem : S_PL_hangs x1 x2 nS = o) : kMet l yX11_hangs wsX11_hangs rm_X11_hangs [.ref (aV 0), .int x1, .int x2] D (kT cI cM cS cJ) (Wd28 aV aN aS aT aW aK v_hasImage nS.1 nS.2.1 nS.2.2.1 nS.2.2.2.1 nS.2.2.2.2.1 nS.2.2.2.2.2.1 nS.2.2.2.2.2.2.1) sz (some (.int o.1)) (Wd28 aV aN aS aT aW aK v_hasImage o.2.1 o.2.2.1 o.2.2.2.1 o.2.2.2.2.1 o.2.2.2.2.2.1 o.2.2.2.2.2.2.1 o.2.2.2.2.2.2.2.1) := by
  refine k_metI (by decide) rfl rfl (Nat.le_of_ble_eq_true rfl) ?_
  intro p e s m below meth c ls Q A hx hb hml hts hown hK hN hA hP hD hS hl hsz hnm hret
  have hown : s.vm.findClass RX11 = some m.cls := hown
  have hf36 := hts (.fieldLink RX11 36 "PlumbLine" "now" "LPlumbLine$City;") (List.mem_of_getElem? (i := 1) rfl)
  have hf142 := hts (.fieldLink RX11 142 "PlumbLine$City" "swings" "I") (List.mem_of_getElem? (i := 2) rfl)
  have hf145 := hts (.fieldLink RX11 145 "PlumbLine$City" "place" "I") (List.mem_of_getElem? (i := 3) rfl)
  have hiX11 : ∀ w ∈ u_ws RX11 TX11 6, w ∈ wsX11_hangs := fun w h => List.mem_cons_of_mem _ (List.mem_append_left _ (List.mem_append_right _ h))
  have hiX2 : ∀ w ∈ u_ws RX2 TX2 12, w ∈ wsX11_hangs := fun w h => List.mem_cons_of_mem _ (List.mem_append_right _ h)
  replace hl : lv_has ls 4 [(0, .ref (aV 0)), (1, .int x1), (2, .int x2)] := hl
  have h := hsem
  clear hsem
  rw [S_PL_hangs] at h
  refine lv_iload_n hx hb dX11_hangs_0 rfl (lv_at hl 1 rfl) ?_
  refine lv_iconst (v := 0) hx hb dX11_hangs_1 (by decide) ?_
  refine lv_bipush (v := 9) hx hb dX11_hangs_2 (by decide) ?_
  refine k_callS (As := [.int x1, .int 0, .int 9]) (rest := []) (st1 := [.int (S_PL_isIn x1 0 9)]) (ws2 := (Wd28 aV aN aS aT aW aK v_hasImage nS.1 nS.2.1 nS.2.2.1 nS.2.2.2.1 nS.2.2.2.2.1 nS.2.2.2.2.2.1 nS.2.2.2.2.2.2.1)) hx hb hml hown hts hK hN hA hP hD hS hl (c_PL_isIn l D cI cM cS cJ s.heap.size x1 0 9 rfl) gX11_hangs_X11_isIn rfl kdS_X11_isIn [] ⟨rfl, rfl⟩ ⟨Nat.le_of_ble_eq_true rfl, Nat.le_of_ble_eq_true rfl⟩ ⟨Nat.zero_le _, Nat.zero_le _⟩ rfl rfl (by decide +kernel) (k_rp rfl (by decide +kernel)) rfl rfl (Nat.le_of_ble_eq_true rfl) dX11_hangs_4 rfl (fun H locs hP hD hS => ?_)
  refine lv_if_eq (tgt := 20) hx hb dX11_hangs_7 (by decide) (fun c7 => ?_) (fun c7 => ?_)
  · have h := k_pos c7 h
    refine lv_iconst (v := (-1)) hx hb dX11_hangs_20 (by decide) ?_
    subst h
    exact hret _ _ _ _ hP hS dX11_hangs_21
  · have h := k_neg c7 h
    refine lv_iload_n hx hb dX11_hangs_10 rfl (lv_at hl 2 rfl) ?_
    refine lv_iconst (v := 0) hx hb dX11_hangs_11 (by decide) ?_
    refine lv_bipush (v := 7) hx hb dX11_hangs_12 (by decide) ?_
    refine k_callS (As := [.int x2, .int 0, .int 7]) (rest := []) (st1 := [.int (S_PL_isIn x2 0 7)]) (ws2 := (Wd28 aV aN aS aT aW aK v_hasImage nS.1 nS.2.1 nS.2.2.1 nS.2.2.2.1 nS.2.2.2.2.1 nS.2.2.2.2.2.1 nS.2.2.2.2.2.2.1)) hx hb hml hown hts hK hN hA hP hD hS hl (c_PL_isIn l D cI cM cS cJ H.size x2 0 7 rfl) gX11_hangs_X11_isIn rfl kdS_X11_isIn [] ⟨rfl, rfl⟩ ⟨Nat.le_of_ble_eq_true rfl, Nat.le_of_ble_eq_true rfl⟩ ⟨Nat.zero_le _, Nat.zero_le _⟩ rfl rfl (by decide +kernel) (k_rp rfl (by decide +kernel)) rfl rfl (Nat.le_of_ble_eq_true rfl) dX11_hangs_14 rfl (fun H locs hP hD hS => ?_)
    refine lv_if_ne (tgt := 22) hx hb dX11_hangs_17 (by decide) (fun c17 => ?_) (fun c17 => ?_)
    · have h := k_neg c17 h
      refine lv_bipush (v := 10) hx hb dX11_hangs_22 (by decide) ?_
      refine lv_aload_n hx hb dX11_hangs_24 rfl (lv_at hl 0 rfl) ?_
      refine va_get (D := D) (ci := 11) (v := .ref (aN 0)) (C := RX11) (T := TX11) (N := 6) hx hb hts hiX11 hown hK hP 0 rfl rfl 0 (by decide) hf36 (fun _ z => z) rfl dX11_hangs_25 ?_
      refine va_get (D := D) (ci := 2) (v := .int nS.2.2.2.1) (C := RX2) (T := TX2) (N := 12) hx hb hts hiX2 hown hK hP 1 rfl rfl 6 (by decide) hf142 (fun _ z => z) rfl dX11_hangs_28 ?_
      refine lv_imul hx hb dX11_hangs_31 ?_
      refine lv_aload_n hx hb dX11_hangs_32 rfl (lv_at hl 0 rfl) ?_
      refine va_get (D := D) (ci := 11) (v := .ref (aN 0)) (C := RX11) (T := TX11) (N := 6) hx hb hts hiX11 hown hK hP 0 rfl rfl 0 (by decide) hf36 (fun _ z => z) rfl dX11_hangs_33 ?_
      refine va_get (D := D) (ci := 2) (v := .int nS.2.2.1) (C := RX2) (T := TX2) (N := 12) hx hb hts hiX2 hown hK hP 1 rfl rfl 5 (by decide) hf145 (fun _ z => z) rfl dX11_hangs_36 ?_
      refine lv_iadd hx hb dX11_hangs_39 ?_
      refine lv_istore_n (lv' := [(3, .int (((10 : Int32) * nS.2.2.2.1) + nS.2.2.1)), (0, .ref (aV 0)), (1, .int x1), (2, .int x2)]) hx hb dX11_hangs_40 rfl hl (by decide) rfl (fun ls hl => ?_)
      refine lv_aload_n hx hb dX11_hangs_41 rfl (lv_at hl 1 rfl) ?_
      refine va_get (D := D) (ci := 11) (v := .ref (aN 0)) (C := RX11) (T := TX11) (N := 6) hx hb hts hiX11 hown hK hP 0 rfl rfl 0 (by decide) hf36 (fun _ z => z) rfl dX11_hangs_42 ?_
      refine lv_iload_n hx hb dX11_hangs_45 rfl (lv_at hl 2 rfl) ?_
      refine va_put (D := D) (ci := 2) (v := .int x1) (ty := .int) (C := RX2) (T := TX2) (N := 12) hx hb hts hiX2 tyX2 tyX2_ok nmX2 hown hK hP hD hS 1 rfl rfl 6 (by decide) hf142 (fun _ z => z) rfl (by decide +kernel) rfl rfl (Nat.le_of_ble_eq_true rfl) dX11_hangs_46 (fun H locs hP hD hS => ?_)
      replace hP : va_P D vwCl (Wd28 aV aN aS aT aW aK v_hasImage nS.1 nS.2.1 nS.2.2.1 x1 nS.2.2.2.2.1 nS.2.2.2.2.2.1 nS.2.2.2.2.2.2.1) H := hP
      replace hD : va_D A (Wd28 aV aN aS aT aW aK v_hasImage nS.1 nS.2.1 nS.2.2.1 x1 nS.2.2.2.2.1 nS.2.2.2.2.2.1 nS.2.2.2.2.2.2.1) := hD
      refine lv_aload_n hx hb dX11_hangs_49 rfl (lv_at hl 1 rfl) ?_
      refine va_get (D := D) (ci := 11) (v := .ref (aN 0)) (C := RX11) (T := TX11) (N := 6) hx hb hts hiX11 hown hK hP 0 rfl rfl 0 (by decide) hf36 (fun _ z => z) rfl dX11_hangs_50 ?_
      refine lv_iload_n hx hb dX11_hangs_53 rfl (lv_at hl 3 rfl) ?_
      refine va_put (D := D) (ci := 2) (v := .int x2) (ty := .int) (C := RX2) (T := TX2) (N := 12) hx hb hts hiX2 tyX2 tyX2_ok nmX2 hown hK hP hD hS 1 rfl rfl 5 (by decide) hf145 (fun _ z => z) rfl (by decide +kernel) rfl rfl (Nat.le_of_ble_eq_true rfl) dX11_hangs_54 (fun H locs hP hD hS => ?_)
      replace hP : va_P D vwCl (Wd28 aV aN aS aT aW aK v_hasImage nS.1 nS.2.1 x2 x1 nS.2.2.2.2.1 nS.2.2.2.2.2.1 nS.2.2.2.2.2.2.1) H := hP
      replace hD : va_D A (Wd28 aV aN aS aT aW aK v_hasImage nS.1 nS.2.1 x2 x1 nS.2.2.2.2.1 nS.2.2.2.2.2.1 nS.2.2.2.2.2.2.1) := hD
      refine lv_iload_n hx hb dX11_hangs_57 rfl (lv_at hl 0 rfl) ?_
      subst h
      exact hret _ _ _ _ hP hS dX11_hangs_58
    · have h := k_pos c17 h
      refine lv_iconst (v := (-1)) hx hb dX11_hangs_20 (by decide) ?_
      subst h
      exact hret _ _ _ _ hP hS dX11_hangs_21
abbrev rm_X11_days : Room := { frames := 5, cells := 0, slots := 0, locals := 128 }
set_option maxHeartbeats 4000000 in
set_option maxRecDepth 100000 in
theorem c_PL_days (l : Launch) (D : va_G) (cI cM cS cJ : ClassId) (aV : Nat → Nat) (aN : Nat → Nat) (aS : Nat → Nat) (aT : Nat → Nat) (aW : Nat → Nat) (aK : Nat → Nat) (sz : Nat) (x1 : Int32) (v_hasImage : Int32) (nS : CS) {o : (Int32) × (CS)} (hsem : S_PL_days x1 nS = some o) : kMet l yX11_days wsX11_days rm_X11_days [.ref (aV 0), .int x1] D (kT cI cM cS cJ) (Wd26 cI cM aV aN aS aT aW aK v_hasImage nS.1 nS.2.1 nS.2.2.1 nS.2.2.2.1 nS.2.2.2.2.1 nS.2.2.2.2.2.1 nS.2.2.2.2.2.2.1 nS.2.2.2.2.2.2.2.1 nS.2.2.2.2.2.2.2.2.1 nS.2.2.2.2.2.2.2.2.2.1) sz (some (.int o.1)) (Wd26 cI cM aV aN aS aT aW aK v_hasImage o.2.1 o.2.2.1 o.2.2.2.1 o.2.2.2.2.1 o.2.2.2.2.2.1 o.2.2.2.2.2.2.1 o.2.2.2.2.2.2.2.1 o.2.2.2.2.2.2.2.2.1 o.2.2.2.2.2.2.2.2.2.1 o.2.2.2.2.2.2.2.2.2.2.1) := by
  refine k_metI (by decide) rfl rfl (Nat.le_of_ble_eq_true rfl) ?_
  intro p e s m below meth c ls Q A hx hb hml hts hown hK hN hA hP hD hS hl hsz hnm hret
  have hown : s.vm.findClass RX11 = some m.cls := hown
  have hf36 := hts (.fieldLink RX11 36 "PlumbLine" "now" "LPlumbLine$City;") (List.mem_of_getElem? (i := 1) rfl)
  have hf148 := hts (.fieldLink RX11 148 "PlumbLine$City" "day" "I") (List.mem_of_getElem? (i := 2) rfl)
  have hiX11 : ∀ w ∈ u_ws RX11 TX11 6, w ∈ wsX11_days := fun w h => List.mem_cons_of_mem _ (List.mem_append_left _ (List.mem_append_right _ h))
  have hiX2 : ∀ w ∈ u_ws RX2 TX2 12, w ∈ wsX11_days := fun w h => List.mem_cons_of_mem _ (List.mem_append_right _ h)
  replace hl : lv_has ls 2 [(0, .ref (aV 0)), (1, .int x1)] := hl
  have h := hsem
  clear hsem
  rw [S_PL_days] at h
  refine lv_iload_n hx hb dX11_days_0 rfl (lv_at hl 1 rfl) ?_
  refine lv_iconst (v := 1) hx hb dX11_days_1 (by decide) ?_
  refine lv_bipush (v := 60) hx hb dX11_days_2 (by decide) ?_
  refine k_callS (As := [.int x1, .int 1, .int 60]) (rest := []) (st1 := [.int (S_PL_isIn x1 1 60)]) (ws2 := (Wd26 cI cM aV aN aS aT aW aK v_hasImage nS.1 nS.2.1 nS.2.2.1 nS.2.2.2.1 nS.2.2.2.2.1 nS.2.2.2.2.2.1 nS.2.2.2.2.2.2.1 nS.2.2.2.2.2.2.2.1 nS.2.2.2.2.2.2.2.2.1 nS.2.2.2.2.2.2.2.2.2.1)) hx hb hml hown hts hK hN hA hP hD hS hl (c_PL_isIn l D cI cM cS cJ s.heap.size x1 1 60 rfl) gX11_days_X11_isIn rfl kdS_X11_isIn [] ⟨rfl, rfl⟩ ⟨Nat.le_of_ble_eq_true rfl, Nat.le_of_ble_eq_true rfl⟩ ⟨Nat.zero_le _, Nat.zero_le _⟩ rfl rfl (by decide +kernel) (k_rp rfl (by decide +kernel)) rfl rfl (Nat.le_of_ble_eq_true rfl) dX11_days_4 rfl (fun H locs hP hD hS => ?_)
  refine lv_if_ne (tgt := 12) hx hb dX11_days_7 (by decide) (fun c7 => ?_) (fun c7 => ?_)
  · have h := k_neg c7 h
    refine lv_aload_n hx hb dX11_days_12 rfl (lv_at hl 0 rfl) ?_
    refine va_get (D := D) (ci := 11) (v := .ref (aN 0)) (C := RX11) (T := TX11) (N := 6) hx hb hts hiX11 hown hK hP 0 rfl rfl 0 (by decide) hf36 (fun _ z => z) rfl dX11_days_13 ?_
    refine va_get (D := D) (ci := 2) (v := .int nS.2.2.2.2.2.1) (C := RX2) (T := TX2) (N := 12) hx hb hts hiX2 hown hK hP 1 rfl rfl 8 (by decide) hf148 (fun _ z => z) rfl dX11_days_16 ?_
    refine lv_iload_n hx hb dX11_days_19 rfl (lv_at hl 1 rfl) ?_
    refine lv_iadd hx hb dX11_days_20 ?_
    refine lv_sipush (v := 999) hx hb dX11_days_21 (by decide) ?_
    refine lv_icmp_le (tgt := 30) hx hb dX11_days_24 (by decide) (fun c24 => ?_) (fun c24 => ?_)
    · have h := k_pos c24 h
      refine lv_aload_n hx hb dX11_days_30 rfl (lv_at hl 0 rfl) ?_
      refine va_get (D := D) (ci := 11) (v := .ref (aN 0)) (C := RX11) (T := TX11) (N := 6) hx hb hts hiX11 hown hK hP 0 rfl rfl 0 (by decide) hf36 (fun _ z => z) rfl dX11_days_31 ?_
      refine lv_iload_n hx hb dX11_days_34 rfl (lv_at hl 1 rfl) ?_
      obtain ⟨r35, g35, h⟩ := k_bind h
      refine k_callV (As := [.int x1]) (rest := []) (st1 := [.int r35.1]) (ws2 := (Wd26 cI cM aV aN aS aT aW aK v_hasImage nS.1 nS.2.1 r35.2.1 r35.2.2.1 r35.2.2.2.1 r35.2.2.2.2.1 r35.2.2.2.2.2.1 nS.2.2.2.2.2.2.2.1 nS.2.2.2.2.2.2.2.2.1 r35.2.2.2.2.2.2)) hx hb hml hown hts hK hN hA hP hD hS hl (c_City_passDays l D cI cM cS cJ aN aK H.size x1 nS.1 nS.2.1 nS.2.2.1 nS.2.2.2.1 nS.2.2.2.2.1 nS.2.2.2.2.2.1 nS.2.2.2.2.2.2.1 nS.2.2.2.2.2.2.2.1 nS.2.2.2.2.2.2.2.2.1 nS.2.2.2.2.2.2.2.2.2.1 g35) gX11_days_X2_passDays rfl kdV_X2_passDays 0 2 rfl rfl rfl [1, 2, 3, 4, 5, 6, 7, 8, 9, 10, 11, 12, 13] ⟨rfl, rfl⟩ ⟨Nat.le_of_ble_eq_true rfl, Nat.le_of_ble_eq_true rfl⟩ ⟨Nat.zero_le _, Nat.zero_le _⟩ rfl rfl (by decide +kernel) (k_rp rfl (by decide +kernel)) rfl rfl (Nat.le_of_ble_eq_true rfl) dX11_days_35 rfl (fun H locs hP hD hS => ?_)
      refine lv_pop hx hb dX11_days_38 rfl ?_
      refine lv_aload_n hx hb dX11_days_39 rfl (lv_at hl 0 rfl) ?_
      refine va_get (D := D) (ci := 11) (v := .ref (aN 0)) (C := RX11) (T := TX11) (N := 6) hx hb hts hiX11 hown hK hP 0 rfl rfl 0 (by decide) hf36 (fun _ z => z) rfl dX11_days_40 ?_
      obtain ⟨r43, g43, h⟩ := k_bind h
      refine k_callV (As := []) (rest := []) (st1 := [.int r43]) (ws2 := (Wd26 cI cM aV aN aS aT aW aK v_hasImage nS.1 nS.2.1 r35.2.1 r35.2.2.1 r35.2.2.2.1 r35.2.2.2.2.1 r35.2.2.2.2.2.1 nS.2.2.2.2.2.2.2.1 nS.2.2.2.2.2.2.2.2.1 r35.2.2.2.2.2.2)) hx hb hml hown hts hK hN hA hP hD hS hl (c_City_upright l D cI cM cS cJ aN aK H.size nS.1 nS.2.1 r35.2.1 r35.2.2.1 r35.2.2.2.1 r35.2.2.2.2.1 r35.2.2.2.2.2.1 nS.2.2.2.2.2.2.2.1 nS.2.2.2.2.2.2.2.2.1 r35.2.2.2.2.2.2 g43) gX11_days_X2_upright rfl kdV_X2_upright 0 2 rfl rfl rfl [1, 2, 3, 4, 5, 6, 7, 8, 9, 10, 11, 12, 13] ⟨rfl, rfl⟩ ⟨Nat.le_of_ble_eq_true rfl, Nat.le_of_ble_eq_true rfl⟩ ⟨Nat.zero_le _, Nat.zero_le _⟩ rfl rfl (by decide +kernel) (k_rp rfl (by decide +kernel)) rfl rfl (Nat.le_of_ble_eq_true rfl) dX11_days_43 rfl (fun H locs hP hD hS => ?_)
      refine k_callS (As := [.int r43]) (rest := []) (st1 := [.int (S_J_bitCount r43)]) (ws2 := (Wd26 cI cM aV aN aS aT aW aK v_hasImage nS.1 nS.2.1 r35.2.1 r35.2.2.1 r35.2.2.2.1 r35.2.2.2.2.1 r35.2.2.2.2.2.1 nS.2.2.2.2.2.2.2.1 nS.2.2.2.2.2.2.2.2.1 r35.2.2.2.2.2.2)) hx hb hml hown hts hK hN hA hP hD hS hl (c_J_bitCount l D cI cM cS cJ H.size r43 rfl) gX11_days_J6_bitCount_0f7a4 rfl kdS_J6_bitCount_0f7a4 [] ⟨rfl, rfl⟩ ⟨Nat.le_of_ble_eq_true rfl, Nat.le_of_ble_eq_true rfl⟩ ⟨Nat.zero_le _, Nat.zero_le _⟩ rfl rfl (by decide +kernel) (k_rp rfl (by decide +kernel)) rfl rfl (Nat.le_of_ble_eq_true rfl) dX11_days_46 rfl (fun H locs hP hD hS => ?_)
      have h := Option.some.inj h; subst h
      exact hret _ _ _ _ hP hS dX11_days_49
    · have h := k_neg c24 h
      refine lv_bipush (v := (-3)) hx hb dX11_days_27 (by decide) ?_
      have h := Option.some.inj h; subst h
      exact hret _ _ _ _ hP hS dX11_days_29
  · have h := k_pos c7 h
    refine lv_iconst (v := (-1)) hx hb dX11_days_10 (by decide) ?_
    have h := Option.some.inj h; subst h
    exact hret _ _ _ _ hP hS dX11_days_11
abbrev Wd29 (cI : ClassId) (cM : ClassId) (aV : Nat → Nat) (aN : Nat → Nat) (aS : Nat → Nat) (aT : Nat → Nat) (aW : Nat → Nat) (aM : Nat → Nat) (aK : Nat → Nat) (v_hasImage : Int32) (n_men : Int32) (n_propped : Int32) (n_place : Int32) (n_swings : Int32) (n_crashes : Int32) (n_day : Int32) (n_crashedToday : Int32) (n_kind : Nat → Int32) (n_figure : Nat → Int32) (n_lean : Nat → Int32) (m_men : Int32) (m_propped : Int32) (m_place : Int32) (m_swings : Int32) (m_crashes : Int32) (m_day : Int32) (m_crashedToday : Int32) (m_kind : Nat → Int32) (m_figure : Nat → Int32) (m_lean : Nat → Int32) : va_W := [((aV 0), .inr (11, [.ref (aN 0), .ref (aS 0), .ref (aT 0), .ref (aW 0), .ref (aV 1), .int v_hasImage])), ((aN 0), .inr (2, [.ref (aN 1), .ref (aN 2), .ref (aN 3), .int n_men, .int n_propped, .int n_place, .int n_swings, .int n_crashes, .int n_day, .int n_crashedToday, .ref (aK 8), .ref (aN 4)])), ((aN 1), .inl (cI, 8, .inl n_kind)), ((aN 2), .inl (cI, 8, .inl n_figure)), ((aN 3), .inl (cI, 8, .inl n_lean)), ((aW 0), .inr (5, [.ref (aN 0), .ref (aM 0), .ref (aW 1), .ref (aW 2), .ref (aW 3)])), ((aM 0), .inr (2, [.ref (aM 1), .ref (aM 2), .ref (aM 3), .int m_men, .int m_propped, .int m_place, .int m_swings, .int m_crashes, .int m_day, .int m_crashedToday, .ref (aK 8), .ref (aM 4)])), ((aM 1), .inl (cI, 8, .inl m_kind)), ((aM 2), .inl (cI, 8, .inl m_figure)), ((aM 3), .inl (cI, 8, .inl m_lean)), ((aK 8), .inl (cM, 8, .inr (.inr (.inr (.inr (fun k => some (aK k))))))), ((aK 0), .inr (4, [])), ((aK 1), .inr (0, [])), ((aK 2), .inr (7, [])), ((aK 3), .inr (3, [])), ((aK 4), .inr (1, [])), ((aK 5), .inr (8, [])), ((aK 6), .inr (10, [])), ((aK 7), .inr (6, []))]
abbrev rm_X11_leanThen : Room := { frames := 6, cells := 0, slots := 0, locals := 149 }
set_option maxHeartbeats 4000000 in
set_option maxRecDepth 100000 in
theorem c_PL_leanThen (l : Launch) (D : va_G) (cI cM cS cJ : ClassId) (aV : Nat → Nat) (aN : Nat → Nat) (aS : Nat → Nat) (aT : Nat → Nat) (aW : Nat → Nat) (aM : Nat → Nat) (aK : Nat → Nat) (sz : Nat) (x1 : Int32) (x2 : Int32) (v_hasImage : Int32) (nS : CS) (mS : CS) {o : (Int32) × (CS)} (hsem : S_PL_leanThen x1 x2 nS mS = some o) : kMet l yX11_leanThen wsX11_leanThen rm_X11_leanThen [.ref (aV 0), .int x1, .int x2] D (kT cI cM cS cJ) (Wd29 cI cM aV aN aS aT aW aM aK v_hasImage nS.1 nS.2.1 nS.2.2.1 nS.2.2.2.1 nS.2.2.2.2.1 nS.2.2.2.2.2.1 nS.2.2.2.2.2.2.1 nS.2.2.2.2.2.2.2.1 nS.2.2.2.2.2.2.2.2.1 nS.2.2.2.2.2.2.2.2.2.1 mS.1 mS.2.1 mS.2.2.1 mS.2.2.2.1 mS.2.2.2.2.1 mS.2.2.2.2.2.1 mS.2.2.2.2.2.2.1 mS.2.2.2.2.2.2.2.1 mS.2.2.2.2.2.2.2.2.1 mS.2.2.2.2.2.2.2.2.2.1) sz (some (.int o.1)) (Wd29 cI cM aV aN aS aT aW aM aK v_hasImage nS.1 nS.2.1 nS.2.2.1 nS.2.2.2.1 nS.2.2.2.2.1 nS.2.2.2.2.2.1 nS.2.2.2.2.2.2.1 nS.2.2.2.2.2.2.2.1 nS.2.2.2.2.2.2.2.2.1 nS.2.2.2.2.2.2.2.2.2.1 o.2.1 o.2.2.1 o.2.2.2.1 o.2.2.2.2.1 o.2.2.2.2.2.1 o.2.2.2.2.2.2.1 o.2.2.2.2.2.2.2.1 o.2.2.2.2.2.2.2.2.1 o.2.2.2.2.2.2.2.2.2.1 o.2.2.2.2.2.2.2.2.2.2.1) := by
  refine k_metI (by decide) rfl rfl (Nat.le_of_ble_eq_true rfl) ?_
  intro p e s m below meth c ls Q A hx hb hml hts hown hK hN hA hP hD hS hl hsz hnm hret
  have hown : s.vm.findClass RX11 = some m.cls := hown
  have hf36 := hts (.fieldLink RX11 36 "PlumbLine" "now" "LPlumbLine$City;") (List.mem_of_getElem? (i := 1) rfl)
  have hf53 := hts (.fieldLink RX11 53 "PlumbLine" "mind" "LPlumbLine$Mind;") (List.mem_of_getElem? (i := 3) rfl)
  have hf99 := hts (.fieldLink RX11 99 "PlumbLine$City" "lean" "[I") (List.mem_of_getElem? (i := 4) rfl)
  have hiX11 : ∀ w ∈ u_ws RX11 TX11 6, w ∈ wsX11_leanThen := fun w h => List.mem_cons_of_mem _ (List.mem_append_left _ (List.mem_append_left _ (List.mem_append_right _ h)))
  have hiX2 : ∀ w ∈ u_ws RX2 TX2 12, w ∈ wsX11_leanThen := fun w h => List.mem_cons_of_mem _ (List.mem_append_left _ (List.mem_append_right _ h))
  replace hl : lv_has ls 3 [(0, .ref (aV 0)), (1, .int x1), (2, .int x2)] := hl
  have h := hsem
  clear hsem
  rw [S_PL_leanThen] at h
  refine lv_aload_n hx hb dX11_leanThen_0 rfl (lv_at hl 0 rfl) ?_
  refine va_get (D := D) (ci := 11) (v := .ref (aN 0)) (C := RX11) (T := TX11) (N := 6) hx hb hts hiX11 hown hK hP 0 rfl rfl 0 (by decide) hf36 (fun _ z => z) rfl dX11_leanThen_1 ?_
  refine lv_iload_n hx hb dX11_leanThen_4 rfl (lv_at hl 1 rfl) ?_
  refine k_callV (As := [.int x1]) (rest := []) (st1 := [.int (S_City_has x1 nS.1)]) (ws2 := (Wd29 cI cM aV aN aS aT aW aM aK v_hasImage nS.1 nS.2.1 nS.2.2.1 nS.2.2.2.1 nS.2.2.2.2.1 nS.2.2.2.2.2.1 nS.2.2.2.2.2.2.1 nS.2.2.2.2.2.2.2.1 nS.2.2.2.2.2.2.2.2.1 nS.2.2.2.2.2.2.2.2.2.1 mS.1 mS.2.1 mS.2.2.1 mS.2.2.2.1 mS.2.2.2.2.1 mS.2.2.2.2.2.1 mS.2.2.2.2.2.2.1 mS.2.2.2.2.2.2.2.1 mS.2.2.2.2.2.2.2.2.1 mS.2.2.2.2.2.2.2.2.2.1)) hx hb hml hown hts hK hN hA hP hD hS hl (c_City_has l D cI cM cS cJ aN aK s.heap.size x1 nS.1 nS.2.1 nS.2.2.1 nS.2.2.2.1 nS.2.2.2.2.1 nS.2.2.2.2.2.1 nS.2.2.2.2.2.2.1 rfl) gX11_leanThen_X2_has rfl kdV_X2_has 0 2 rfl rfl rfl [1] ⟨rfl, rfl⟩ ⟨Nat.le_of_ble_eq_true rfl, Nat.le_of_ble_eq_true rfl⟩ ⟨Nat.zero_le _, Nat.zero_le _⟩ rfl rfl (by decide +kernel) (k_rp rfl (by decide +kernel)) rfl rfl (Nat.le_of_ble_eq_true rfl) dX11_leanThen_5 rfl (fun H locs hP hD hS => ?_)
  refine lv_if_eq (tgt := 21) hx hb dX11_leanThen_8 (by decide) (fun c8 => ?_) (fun c8 => ?_)
  · have h := k_pos c8 h
    refine lv_ldc (v := 1000000001) hx hb hown (hts (.constant RX11 102 1000000001) (List.mem_of_getElem? (i := 2) rfl)) dX11_leanThen_21 ?_
    have h := Option.some.inj h; subst h
    exact hret _ _ _ _ hP hS dX11_leanThen_23
  · have h := k_neg c8 h
    refine lv_iload_n hx hb dX11_leanThen_11 rfl (lv_at hl 2 rfl) ?_
    refine lv_iconst (v := 0) hx hb dX11_leanThen_12 (by decide) ?_
    refine lv_bipush (v := 60) hx hb dX11_leanThen_13 (by decide) ?_
    refine k_callS (As := [.int x2, .int 0, .int 60]) (rest := []) (st1 := [.int (S_PL_isIn x2 0 60)]) (ws2 := (Wd29 cI cM aV aN aS aT aW aM aK v_hasImage nS.1 nS.2.1 nS.2.2.1 nS.2.2.2.1 nS.2.2.2.2.1 nS.2.2.2.2.2.1 nS.2.2.2.2.2.2.1 nS.2.2.2.2.2.2.2.1 nS.2.2.2.2.2.2.2.2.1 nS.2.2.2.2.2.2.2.2.2.1 mS.1 mS.2.1 mS.2.2.1 mS.2.2.2.1 mS.2.2.2.2.1 mS.2.2.2.2.2.1 mS.2.2.2.2.2.2.1 mS.2.2.2.2.2.2.2.1 mS.2.2.2.2.2.2.2.2.1 mS.2.2.2.2.2.2.2.2.2.1)) hx hb hml hown hts hK hN hA hP hD hS hl (c_PL_isIn l D cI cM cS cJ H.size x2 0 60 rfl) gX11_leanThen_X11_isIn rfl kdS_X11_isIn [] ⟨rfl, rfl⟩ ⟨Nat.le_of_ble_eq_true rfl, Nat.le_of_ble_eq_true rfl⟩ ⟨Nat.zero_le _, Nat.zero_le _⟩ rfl rfl (by decide +kernel) (k_rp rfl (by decide +kernel)) rfl rfl (Nat.le_of_ble_eq_true rfl) dX11_leanThen_15 rfl (fun H locs hP hD hS => ?_)
    refine lv_if_ne (tgt := 24) hx hb dX11_leanThen_18 (by decide) (fun c18 => ?_) (fun c18 => ?_)
    · have h := k_neg c18 h
      refine lv_aload_n hx hb dX11_leanThen_24 rfl (lv_at hl 0 rfl) ?_
      refine va_get (D := D) (ci := 11) (v := .ref (aW 0)) (C := RX11) (T := TX11) (N := 6) hx hb hts hiX11 hown hK hP 0 rfl rfl 3 (by decide) hf53 (fun _ z => z) rfl dX11_leanThen_25 ?_
      refine lv_iload_n hx hb dX11_leanThen_28 rfl (lv_at hl 2 rfl) ?_
      obtain ⟨r29, g29, h⟩ := k_bind h
      refine k_callV (As := [.int x2]) (rest := []) (st1 := [.ref (aM 0)]) (ws2 := (Wd29 cI cM aV aN aS aT aW aM aK v_hasImage nS.1 nS.2.1 nS.2.2.1 nS.2.2.2.1 nS.2.2.2.2.1 nS.2.2.2.2.2.1 nS.2.2.2.2.2.2.1 nS.2.2.2.2.2.2.2.1 nS.2.2.2.2.2.2.2.2.1 nS.2.2.2.2.2.2.2.2.2.1 r29.1 r29.2.1 r29.2.2.1 r29.2.2.2.1 r29.2.2.2.2.1 r29.2.2.2.2.2.1 r29.2.2.2.2.2.2.1 r29.2.2.2.2.2.2.2.1 r29.2.2.2.2.2.2.2.2.1 r29.2.2.2.2.2.2.2.2.2.1)) hx hb hml hown hts hK hN hA hP hD hS hl (c_Mind_after l D cI cM cS cJ aN aW aM aK H.size x2 nS mS g29) gX11_leanThen_X5_after rfl kdV_X5_after 0 5 rfl rfl rfl [5, 1, 2, 3, 4, 6, 7, 8, 9, 10, 11, 12, 13, 14, 15, 16, 17, 18] ⟨rfl, rfl⟩ ⟨Nat.le_of_ble_eq_true rfl, Nat.le_of_ble_eq_true rfl⟩ ⟨Nat.zero_le _, Nat.zero_le _⟩ rfl rfl (by decide +kernel) (k_rp rfl (by decide +kernel)) rfl rfl (Nat.le_of_ble_eq_true rfl) dX11_leanThen_29 rfl (fun H locs hP hD hS => ?_)
      refine va_get (D := D) (ci := 2) (v := .ref (aM 3)) (C := RX2) (T := TX2) (N := 12) hx hb hts hiX2 hown hK hP 6 rfl rfl 2 (by decide) hf99 (fun _ z => z) rfl dX11_leanThen_32 ?_
      refine lv_iload_n hx hb dX11_leanThen_35 rfl (lv_at hl 1 rfl) ?_
      obtain ⟨g36, h⟩ := k_guard h
      refine va_iald hx hb hK hP 9 0 rfl rfl g36 dX11_leanThen_36 ?_
      have h := Option.some.inj h; subst h
      exact hret _ _ _ _ hP hS dX11_leanThen_37
    · have h := k_pos c18 h
      refine lv_ldc (v := 1000000001) hx hb hown (hts (.constant RX11 102 1000000001) (List.mem_of_getElem? (i := 2) rfl)) dX11_leanThen_21 ?_
      have h := Option.some.inj h; subst h
      exact hret _ _ _ _ hP hS dX11_leanThen_23
abbrev rm_X11_then : Room := { frames := 6, cells := 0, slots := 0, locals := 149 }
set_option maxHeartbeats 4000000 in
set_option maxRecDepth 100000 in
theorem c_PL_then (l : Launch) (D : va_G) (cI cM cS cJ : ClassId) (aV : Nat → Nat) (aN : Nat → Nat) (aS : Nat → Nat) (aT : Nat → Nat) (aW : Nat → Nat) (aM : Nat → Nat) (aK : Nat → Nat) (sz : Nat) (x1 : Int32) (x2 : Int32) (v_hasImage : Int32) (nS : CS) (mS : CS) {o : (Int32) × (CS)} (hsem : S_PL_then x1 x2 nS mS = some o) : kMet l yX11_then wsX11_then rm_X11_then [.ref (aV 0), .int x1, .int x2] D (kT cI cM cS cJ) (Wd29 cI cM aV aN aS aT aW aM aK v_hasImage nS.1 nS.2.1 nS.2.2.1 nS.2.2.2.1 nS.2.2.2.2.1 nS.2.2.2.2.2.1 nS.2.2.2.2.2.2.1 nS.2.2.2.2.2.2.2.1 nS.2.2.2.2.2.2.2.2.1 nS.2.2.2.2.2.2.2.2.2.1 mS.1 mS.2.1 mS.2.2.1 mS.2.2.2.1 mS.2.2.2.2.1 mS.2.2.2.2.2.1 mS.2.2.2.2.2.2.1 mS.2.2.2.2.2.2.2.1 mS.2.2.2.2.2.2.2.2.1 mS.2.2.2.2.2.2.2.2.2.1) sz (some (.int o.1)) (Wd29 cI cM aV aN aS aT aW aM aK v_hasImage nS.1 nS.2.1 nS.2.2.1 nS.2.2.2.1 nS.2.2.2.2.1 nS.2.2.2.2.2.1 nS.2.2.2.2.2.2.1 nS.2.2.2.2.2.2.2.1 nS.2.2.2.2.2.2.2.2.1 nS.2.2.2.2.2.2.2.2.2.1 o.2.1 o.2.2.1 o.2.2.2.1 o.2.2.2.2.1 o.2.2.2.2.2.1 o.2.2.2.2.2.2.1 o.2.2.2.2.2.2.2.1 o.2.2.2.2.2.2.2.2.1 o.2.2.2.2.2.2.2.2.2.1 o.2.2.2.2.2.2.2.2.2.2.1) := by
  refine k_metI (by decide) rfl rfl (Nat.le_of_ble_eq_true rfl) ?_
  intro p e s m below meth c ls Q A hx hb hml hts hown hK hN hA hP hD hS hl hsz hnm hret
  have hown : s.vm.findClass RX11 = some m.cls := hown
  have hf53 := hts (.fieldLink RX11 53 "PlumbLine" "mind" "LPlumbLine$Mind;") (List.mem_of_getElem? (i := 1) rfl)
  have hf145 := hts (.fieldLink RX11 145 "PlumbLine$City" "place" "I") (List.mem_of_getElem? (i := 2) rfl)
  have hf142 := hts (.fieldLink RX11 142 "PlumbLine$City" "swings" "I") (List.mem_of_getElem? (i := 3) rfl)
  have hf166 := hts (.fieldLink RX11 166 "PlumbLine$City" "crashes" "I") (List.mem_of_getElem? (i := 4) rfl)
  have hiX11 : ∀ w ∈ u_ws RX11 TX11 6, w ∈ wsX11_then := fun w h => List.mem_cons_of_mem _ (List.mem_append_left _ (List.mem_append_left _ (List.mem_append_right _ h)))
  have hiX2 : ∀ w ∈ u_ws RX2 TX2 12, w ∈ wsX11_then := fun w h => List.mem_cons_of_mem _ (List.mem_append_left _ (List.mem_append_right _ h))
  replace hl : lv_has ls 4 [(0, .ref (aV 0)), (1, .int x1), (2, .int x2)] := hl
  have h := hsem
  clear hsem
  rw [S_PL_then] at h
  refine lv_iload_n hx hb dX11_then_0 rfl (lv_at hl 1 rfl) ?_
  refine lv_iconst (v := 0) hx hb dX11_then_1 (by decide) ?_
  refine lv_bipush (v := 60) hx hb dX11_then_2 (by decide) ?_
  refine k_callS (As := [.int x1, .int 0, .int 60]) (rest := []) (st1 := [.int (S_PL_isIn x1 0 60)]) (ws2 := (Wd29 cI cM aV aN aS aT aW aM aK v_hasImage nS.1 nS.2.1 nS.2.2.1 nS.2.2.2.1 nS.2.2.2.2.1 nS.2.2.2.2.2.1 nS.2.2.2.2.2.2.1 nS.2.2.2.2.2.2.2.1 nS.2.2.2.2.2.2.2.2.1 nS.2.2.2.2.2.2.2.2.2.1 mS.1 mS.2.1 mS.2.2.1 mS.2.2.2.1 mS.2.2.2.2.1 mS.2.2.2.2.2.1 mS.2.2.2.2.2.2.1 mS.2.2.2.2.2.2.2.1 mS.2.2.2.2.2.2.2.2.1 mS.2.2.2.2.2.2.2.2.2.1)) hx hb hml hown hts hK hN hA hP hD hS hl (c_PL_isIn l D cI cM cS cJ s.heap.size x1 0 60 rfl) gX11_then_X11_isIn rfl kdS_X11_isIn [] ⟨rfl, rfl⟩ ⟨Nat.le_of_ble_eq_true rfl, Nat.le_of_ble_eq_true rfl⟩ ⟨Nat.zero_le _, Nat.zero_le _⟩ rfl rfl (by decide +kernel) (k_rp rfl (by decide +kernel)) rfl rfl (Nat.le_of_ble_eq_true rfl) dX11_then_4 rfl (fun H locs hP hD hS => ?_)
  refine lv_if_eq (tgt := 19) hx hb dX11_then_7 (by decide) (fun c7 => ?_) (fun c7 => ?_)
  · have h := k_pos c7 h
    refine lv_iconst (v := (-1)) hx hb dX11_then_19 (by decide) ?_
    have h := Option.some.inj h; subst h
    exact hret _ _ _ _ hP hS dX11_then_20
  · have h := k_neg c7 h
    refine lv_iload_n hx hb dX11_then_10 rfl (lv_at hl 2 rfl) ?_
    refine lv_iconst (v := 0) hx hb dX11_then_11 (by decide) ?_
    refine lv_iconst (v := 3) hx hb dX11_then_12 (by decide) ?_
    refine k_callS (As := [.int x2, .int 0, .int 3]) (rest := []) (st1 := [.int (S_PL_isIn x2 0 3)]) (ws2 := (Wd29 cI cM aV aN aS aT aW aM aK v_hasImage nS.1 nS.2.1 nS.2.2.1 nS.2.2.2.1 nS.2.2.2.2.1 nS.2.2.2.2.2.1 nS.2.2.2.2.2.2.1 nS.2.2.2.2.2.2.2.1 nS.2.2.2.2.2.2.2.2.1 nS.2.2.2.2.2.2.2.2.2.1 mS.1 mS.2.1 mS.2.2.1 mS.2.2.2.1 mS.2.2.2.2.1 mS.2.2.2.2.2.1 mS.2.2.2.2.2.2.1 mS.2.2.2.2.2.2.2.1 mS.2.2.2.2.2.2.2.2.1 mS.2.2.2.2.2.2.2.2.2.1)) hx hb hml hown hts hK hN hA hP hD hS hl (c_PL_isIn l D cI cM cS cJ H.size x2 0 3 rfl) gX11_then_X11_isIn rfl kdS_X11_isIn [] ⟨rfl, rfl⟩ ⟨Nat.le_of_ble_eq_true rfl, Nat.le_of_ble_eq_true rfl⟩ ⟨Nat.zero_le _, Nat.zero_le _⟩ rfl rfl (by decide +kernel) (k_rp rfl (by decide +kernel)) rfl rfl (Nat.le_of_ble_eq_true rfl) dX11_then_13 rfl (fun H locs hP hD hS => ?_)
    refine lv_if_ne (tgt := 21) hx hb dX11_then_16 (by decide) (fun c16 => ?_) (fun c16 => ?_)
    · have h := k_neg c16 h
      refine lv_aload_n hx hb dX11_then_21 rfl (lv_at hl 0 rfl) ?_
      refine va_get (D := D) (ci := 11) (v := .ref (aW 0)) (C := RX11) (T := TX11) (N := 6) hx hb hts hiX11 hown hK hP 0 rfl rfl 3 (by decide) hf53 (fun _ z => z) rfl dX11_then_22 ?_
      refine lv_iload_n hx hb dX11_then_25 rfl (lv_at hl 1 rfl) ?_
      obtain ⟨r26, g26, h⟩ := k_bind h
      refine k_callV (As := [.int x1]) (rest := []) (st1 := [.ref (aM 0)]) (ws2 := (Wd29 cI cM aV aN aS aT aW aM aK v_hasImage nS.1 nS.2.1 nS.2.2.1 nS.2.2.2.1 nS.2.2.2.2.1 nS.2.2.2.2.2.1 nS.2.2.2.2.2.2.1 nS.2.2.2.2.2.2.2.1 nS.2.2.2.2.2.2.2.2.1 nS.2.2.2.2.2.2.2.2.2.1 r26.1 r26.2.1 r26.2.2.1 r26.2.2.2.1 r26.2.2.2.2.1 r26.2.2.2.2.2.1 r26.2.2.2.2.2.2.1 r26.2.2.2.2.2.2.2.1 r26.2.2.2.2.2.2.2.2.1 r26.2.2.2.2.2.2.2.2.2.1)) hx hb hml hown hts hK hN hA hP hD hS hl (c_Mind_after l D cI cM cS cJ aN aW aM aK H.size x1 nS mS g26) gX11_then_X5_after rfl kdV_X5_after 0 5 rfl rfl rfl [5, 1, 2, 3, 4, 6, 7, 8, 9, 10, 11, 12, 13, 14, 15, 16, 17, 18] ⟨rfl, rfl⟩ ⟨Nat.le_of_ble_eq_true rfl, Nat.le_of_ble_eq_true rfl⟩ ⟨Nat.zero_le _, Nat.zero_le _⟩ rfl rfl (by decide +kernel) (k_rp rfl (by decide +kernel)) rfl rfl (Nat.le_of_ble_eq_true rfl) dX11_then_26 rfl (fun H locs hP hD hS => ?_)
      refine lv_astore_n (lv' := [(3, .ref (aM 0)), (0, .ref (aV 0)), (1, .int x1), (2, .int x2)]) hx hb dX11_then_29 rfl hl (by decide) rfl (fun ls hl => ?_)
      refine lv_iload_n hx hb dX11_then_30 rfl (lv_at hl 3 rfl) ?_
      by_cases s31_0 : x2 = 0
      · refine k_tblI (tgt := 56) (v := 0) hx hb dX11_then_31 s31_0 (by decide) (by decide) rfl (by decide) ?_
        have h := k_pos s31_0 h
        refine lv_aload_n hx hb dX11_then_56 rfl (lv_at hl 0 rfl) ?_
        refine va_get (D := D) (ci := 2) (v := .int r26.2.2.1) (C := RX2) (T := TX2) (N := 12) hx hb hts hiX2 hown hK hP 6 rfl rfl 5 (by decide) hf145 (fun _ z => z) rfl dX11_then_57 ?_
        have h := Option.some.inj h; subst h
        exact hret _ _ _ _ hP hS dX11_then_60
      · have h := k_neg s31_0 h
        by_cases s31_1 : x2 = 1
        · refine k_tblI (tgt := 61) (v := 1) hx hb dX11_then_31 s31_1 (by decide) (by decide) rfl (by decide) ?_
          have h := k_pos s31_1 h
          refine lv_aload_n hx hb dX11_then_61 rfl (lv_at hl 0 rfl) ?_
          refine va_get (D := D) (ci := 2) (v := .int r26.2.2.2.1) (C := RX2) (T := TX2) (N := 12) hx hb hts hiX2 hown hK hP 6 rfl rfl 6 (by decide) hf142 (fun _ z => z) rfl dX11_then_62 ?_
          have h := Option.some.inj h; subst h
          exact hret _ _ _ _ hP hS dX11_then_65
        · have h := k_neg s31_1 h
          by_cases s31_2 : x2 = 2
          · refine k_tblI (tgt := 66) (v := 2) hx hb dX11_then_31 s31_2 (by decide) (by decide) rfl (by decide) ?_
            have h := k_pos s31_2 h
            refine lv_aload_n hx hb dX11_then_66 rfl (lv_at hl 0 rfl) ?_
            refine va_get (D := D) (ci := 2) (v := .int r26.2.2.2.2.1) (C := RX2) (T := TX2) (N := 12) hx hb hts hiX2 hown hK hP 6 rfl rfl 7 (by decide) hf166 (fun _ z => z) rfl dX11_then_67 ?_
            have h := Option.some.inj h; subst h
            exact hret _ _ _ _ hP hS dX11_then_70
          · have h := k_neg s31_2 h
            refine lv_tableOut (tgt := 71) hx hb dX11_then_31 (k_out [0, 1, 2] (by decide) (List.forall_mem_cons.mpr ⟨s31_0, (List.forall_mem_cons.mpr ⟨s31_1, (List.forall_mem_cons.mpr ⟨s31_2, (fun _ z => absurd z List.not_mem_nil)⟩)⟩)⟩)) (by decide) ?_
            refine lv_aload_n hx hb dX11_then_71 rfl (lv_at hl 0 rfl) ?_
            obtain ⟨r72, g72, h⟩ := k_bind h
            refine k_callV (As := []) (rest := []) (st1 := [.int r72]) (ws2 := (Wd29 cI cM aV aN aS aT aW aM aK v_hasImage nS.1 nS.2.1 nS.2.2.1 nS.2.2.2.1 nS.2.2.2.2.1 nS.2.2.2.2.2.1 nS.2.2.2.2.2.2.1 nS.2.2.2.2.2.2.2.1 nS.2.2.2.2.2.2.2.2.1 nS.2.2.2.2.2.2.2.2.2.1 r26.1 r26.2.1 r26.2.2.1 r26.2.2.2.1 r26.2.2.2.2.1 r26.2.2.2.2.2.1 r26.2.2.2.2.2.2.1 r26.2.2.2.2.2.2.2.1 r26.2.2.2.2.2.2.2.2.1 r26.2.2.2.2.2.2.2.2.2.1)) hx hb hml hown hts hK hN hA hP hD hS hl (c_City_upright l D cI cM cS cJ aM aK H.size r26.1 r26.2.1 r26.2.2.1 r26.2.2.2.1 r26.2.2.2.2.1 r26.2.2.2.2.2.1 r26.2.2.2.2.2.2.1 r26.2.2.2.2.2.2.2.1 r26.2.2.2.2.2.2.2.2.1 r26.2.2.2.2.2.2.2.2.2.1 g72) gX11_then_X2_upright rfl kdV_X2_upright 0 2 rfl rfl rfl [6, 7, 8, 9, 10, 11, 12, 13, 14, 15, 16, 17, 18] ⟨rfl, rfl⟩ ⟨Nat.le_of_ble_eq_true rfl, Nat.le_of_ble_eq_true rfl⟩ ⟨Nat.zero_le _, Nat.zero_le _⟩ rfl rfl (by decide +kernel) (k_rp rfl (by decide +kernel)) rfl rfl (Nat.le_of_ble_eq_true rfl) dX11_then_72 rfl (fun H locs hP hD hS => ?_)
            have h := Option.some.inj h; subst h
            exact hret _ _ _ _ hP hS dX11_then_75
    · have h := k_pos c16 h
      refine lv_iconst (v := (-1)) hx hb dX11_then_19 (by decide) ?_
      have h := Option.some.inj h; subst h
      exact hret _ _ _ _ hP hS dX11_then_20
