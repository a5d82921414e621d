theorem kdV_X5_bestPush : yX5_bestPush.cls = RX5 ∧ yX5_bestPush.cls ≠ "java/lang/invoke/MethodHandle" ∧ yX5_bestPush.cls ≠ "java/lang/invoke/VarHandle" ∧ (parseMethodDescriptor yX5_bestPush.desc).map (fun d => d.parameters.length) = some 1 := by decide +kernel
abbrev rm_X11_push : Room := { frames := 7, cells := 0, slots := 0, locals := 175 }
set_option maxHeartbeats 4000000 in
set_option maxRecDepth 100000 in
theorem c_PL_push (l : Launch) (D : va_G) (cI cM cS cJ : ClassId) (aV : Nat → Nat) (aN : Nat → Nat) (aS : Nat → Nat) (aT : Nat → Nat) (aW : Nat → Nat) (aM : Nat → Nat) (aK : Nat → Nat) (sz : Nat) (x1 : Int32) (v_hasImage : Int32) (nS : CS) (mS : CS) {o : (Int32) × (CS)} (hsem : S_PL_push x1 nS mS = some o) : kMet l yX11_push wsX11_push rm_X11_push [.ref (aV 0), .int x1] D (kT cI cM cS cJ) (Wd29 cI cM aV aN aS aT aW aM aK v_hasImage nS.1 nS.2.1 nS.2.2.1 nS.2.2.2.1 nS.2.2.2.2.1 nS.2.2.2.2.2.1 nS.2.2.2.2.2.2.1 nS.2.2.2.2.2.2.2.1 nS.2.2.2.2.2.2.2.2.1 nS.2.2.2.2.2.2.2.2.2.1 mS.1 mS.2.1 mS.2.2.1 mS.2.2.2.1 mS.2.2.2.2.1 mS.2.2.2.2.2.1 mS.2.2.2.2.2.2.1 mS.2.2.2.2.2.2.2.1 mS.2.2.2.2.2.2.2.2.1 mS.2.2.2.2.2.2.2.2.2.1) sz (some (.int o.1)) (Wd29 cI cM aV aN aS aT aW aM aK v_hasImage nS.1 nS.2.1 nS.2.2.1 nS.2.2.2.1 nS.2.2.2.2.1 nS.2.2.2.2.2.1 nS.2.2.2.2.2.2.1 nS.2.2.2.2.2.2.2.1 nS.2.2.2.2.2.2.2.2.1 nS.2.2.2.2.2.2.2.2.2.1 o.2.1 o.2.2.1 o.2.2.2.1 o.2.2.2.2.1 o.2.2.2.2.2.1 o.2.2.2.2.2.2.1 o.2.2.2.2.2.2.2.1 o.2.2.2.2.2.2.2.2.1 o.2.2.2.2.2.2.2.2.2.1 o.2.2.2.2.2.2.2.2.2.2.1) := by
  refine k_metI (by decide) rfl rfl (Nat.le_of_ble_eq_true rfl) ?_
  intro p e s m below meth c ls Q A hx hb hml hts hown hK hN hA hP hD hS hl hsz hnm hret
  have hown : s.vm.findClass RX11 = some m.cls := hown
  have hf53 := hts (.fieldLink RX11 53 "PlumbLine" "mind" "LPlumbLine$Mind;") (List.mem_of_getElem? (i := 1) rfl)
  have hiX11 : ∀ w ∈ u_ws RX11 TX11 6, w ∈ wsX11_push := fun w h => List.mem_cons_of_mem _ (List.mem_append_left _ (List.mem_append_left _ (List.mem_append_right _ h)))
  replace hl : lv_has ls 2 [(0, .ref (aV 0)), (1, .int x1)] := hl
  have h := hsem
  clear hsem
  rw [S_PL_push] at h
  refine lv_iload_n hx hb dX11_push_0 rfl (lv_at hl 1 rfl) ?_
  refine lv_iconst (v := 0) hx hb dX11_push_1 (by decide) ?_
  refine lv_bipush (v := 20) hx hb dX11_push_2 (by decide) ?_
  refine k_callS (As := [.int x1, .int 0, .int 20]) (rest := []) (st1 := [.int (S_PL_isIn x1 0 20)]) (ws2 := (Wd29 cI cM aV aN aS aT aW aM aK v_hasImage nS.1 nS.2.1 nS.2.2.1 nS.2.2.2.1 nS.2.2.2.2.1 nS.2.2.2.2.2.1 nS.2.2.2.2.2.2.1 nS.2.2.2.2.2.2.2.1 nS.2.2.2.2.2.2.2.2.1 nS.2.2.2.2.2.2.2.2.2.1 mS.1 mS.2.1 mS.2.2.1 mS.2.2.2.1 mS.2.2.2.2.1 mS.2.2.2.2.2.1 mS.2.2.2.2.2.2.1 mS.2.2.2.2.2.2.2.1 mS.2.2.2.2.2.2.2.2.1 mS.2.2.2.2.2.2.2.2.2.1)) hx hb hml hown hts hK hN hA hP hD hS hl (c_PL_isIn l D cI cM cS cJ s.heap.size x1 0 20 rfl) gX11_push_X11_isIn rfl kdS_X11_isIn [] ⟨rfl, rfl⟩ ⟨Nat.le_of_ble_eq_true rfl, Nat.le_of_ble_eq_true rfl⟩ ⟨Nat.zero_le _, Nat.zero_le _⟩ rfl rfl (by decide +kernel) (k_rp rfl (by decide +kernel)) rfl rfl (Nat.le_of_ble_eq_true rfl) dX11_push_4 rfl (fun H locs hP hD hS => ?_)
  refine lv_if_eq (tgt := 21) hx hb dX11_push_7 (by decide) (fun c7 => ?_) (fun c7 => ?_)
  · have h := k_pos c7 h
    refine lv_iconst (v := (-1)) hx hb dX11_push_21 (by decide) ?_
    have h := Option.some.inj h; subst h
    exact hret _ _ _ _ hP hS dX11_push_22
  · have h := k_neg c7 h
    refine lv_aload_n hx hb dX11_push_10 rfl (lv_at hl 0 rfl) ?_
    refine va_get (D := D) (ci := 11) (v := .ref (aW 0)) (C := RX11) (T := TX11) (N := 6) hx hb hts hiX11 hown hK hP 0 rfl rfl 3 (by decide) hf53 (fun _ z => z) rfl dX11_push_11 ?_
    refine lv_iload_n hx hb dX11_push_14 rfl (lv_at hl 1 rfl) ?_
    obtain ⟨r15, g15, h⟩ := k_bind h
    refine k_callV (As := [.int x1]) (rest := []) (st1 := [.int r15.1]) (ws2 := (Wd29 cI cM aV aN aS aT aW aM aK v_hasImage nS.1 nS.2.1 nS.2.2.1 nS.2.2.2.1 nS.2.2.2.2.1 nS.2.2.2.2.2.1 nS.2.2.2.2.2.2.1 nS.2.2.2.2.2.2.2.1 nS.2.2.2.2.2.2.2.2.1 nS.2.2.2.2.2.2.2.2.2.1 r15.2.1 r15.2.2.1 r15.2.2.2.1 r15.2.2.2.2.1 r15.2.2.2.2.2.1 r15.2.2.2.2.2.2.1 r15.2.2.2.2.2.2.2.1 r15.2.2.2.2.2.2.2.2.1 r15.2.2.2.2.2.2.2.2.2.1 r15.2.2.2.2.2.2.2.2.2.2.1)) hx hb hml hown hts hK hN hA hP hD hS hl (c_Mind_bestPush l D cI cM cS cJ aN aW aM aK H.size x1 nS mS g15) gX11_push_X5_bestPush rfl kdV_X5_bestPush 0 5 rfl rfl rfl [5, 1, 2, 3, 4, 6, 7, 8, 9, 10, 11, 12, 13, 14, 15, 16, 17, 18] ⟨rfl, rfl⟩ ⟨Nat.le_of_ble_eq_true rfl, Nat.le_of_ble_eq_true rfl⟩ ⟨Nat.zero_le _, Nat.zero_le _⟩ rfl rfl (by decide +kernel) (k_rp rfl (by decide +kernel)) rfl rfl (Nat.le_of_ble_eq_true rfl) dX11_push_15 rfl (fun H locs hP hD hS => ?_)
    refine lv_goto (tgt := 22) hx hb dX11_push_18 (by decide) ?_
    have h := Option.some.inj h; subst h
    exact hret _ _ _ _ hP hS dX11_push_22
abbrev Wd31 (cI : ClassId) (cM : ClassId) (aV : Nat → Nat) (aN : Nat → Nat) (aS : Nat → Nat) (aT : Nat → Nat) (aW : Nat → Nat) (aK : Nat → Nat) (v_hasImage : Int32) (n_men : Int32) (n_propped : Int32) (n_place : Int32) (n_swings : Int32) (n_crashes : Int32) (n_day : Int32) (n_crashedToday : Int32) (n_kind : Nat → Int32) (n_figure : Nat → Int32) (n_lean : Nat → Int32) (n_seated : Nat → Int32) : va_W := [((aV 0), .inr (11, [.ref (aN 0), .ref (aS 0), .ref (aT 0), .ref (aW 0), .ref (aV 1), .int v_hasImage])), ((aN 0), .inr (2, [.ref (aN 1), .ref (aN 2), .ref (aN 3), .int n_men, .int n_propped, .int n_place, .int n_swings, .int n_crashes, .int n_day, .int n_crashedToday, .ref (aK 8), .ref (aN 4)])), ((aN 1), .inl (cI, 8, .inl n_kind)), ((aN 2), .inl (cI, 8, .inl n_figure)), ((aN 3), .inl (cI, 8, .inl n_lean)), ((aN 4), .inl (cI, 8, .inl n_seated)), ((aK 8), .inl (cM, 8, .inr (.inr (.inr (.inr (fun k => some (aK k))))))), ((aK 0), .inr (4, [])), ((aK 1), .inr (0, [])), ((aK 2), .inr (7, [])), ((aK 3), .inr (3, [])), ((aK 4), .inr (1, [])), ((aK 5), .inr (8, [])), ((aK 6), .inr (10, [])), ((aK 7), .inr (6, []))]
theorem kdV_X2_rightOne : yX2_rightOne.cls = RX2 ∧ yX2_rightOne.cls ≠ "java/lang/invoke/MethodHandle" ∧ yX2_rightOne.cls ≠ "java/lang/invoke/VarHandle" ∧ (parseMethodDescriptor yX2_rightOne.desc).map (fun d => d.parameters.length) = some 0 := by decide +kernel
theorem kdV_X2_walls : yX2_walls.cls = RX2 ∧ yX2_walls.cls ≠ "java/lang/invoke/MethodHandle" ∧ yX2_walls.cls ≠ "java/lang/invoke/VarHandle" ∧ (parseMethodDescriptor yX2_walls.desc).map (fun d => d.parameters.length) = some 0 := by decide +kernel
theorem kdV_X2_balance : yX2_balance.cls = RX2 ∧ yX2_balance.cls ≠ "java/lang/invoke/MethodHandle" ∧ yX2_balance.cls ≠ "java/lang/invoke/VarHandle" ∧ (parseMethodDescriptor yX2_balance.desc).map (fun d => d.parameters.length) = some 0 := by decide +kernel
abbrev rm_X11_right : Room := { frames := 5, cells := 0, slots := 0, locals := 111 }
set_option maxHeartbeats 4000000 in
set_option maxRecDepth 100000 in
theorem c_PL_right (l : Launch) (D : va_G) (cI cM cS cJ : ClassId) (aV : Nat → Nat) (aN : Nat → Nat) (aS : Nat → Nat) (aT : Nat → Nat) (aW : Nat → Nat) (aK : Nat → Nat) (sz : Nat) (x1 : Int32) (v_hasImage : Int32) (nS : CS) {o : (Int32) × (CS)} (hsem : S_PL_right x1 nS = some o) : kMet l yX11_right wsX11_right rm_X11_right [.ref (aV 0), .int x1] D (kT cI cM cS cJ) (Wd31 cI cM aV aN aS aT aW aK v_hasImage nS.1 nS.2.1 nS.2.2.1 nS.2.2.2.1 nS.2.2.2.2.1 nS.2.2.2.2.2.1 nS.2.2.2.2.2.2.1 nS.2.2.2.2.2.2.2.1 nS.2.2.2.2.2.2.2.2.1 nS.2.2.2.2.2.2.2.2.2.1 nS.2.2.2.2.2.2.2.2.2.2) sz (some (.int o.1)) (Wd31 cI cM aV aN aS aT aW aK v_hasImage o.2.1 o.2.2.1 o.2.2.2.1 o.2.2.2.2.1 o.2.2.2.2.2.1 o.2.2.2.2.2.2.1 o.2.2.2.2.2.2.2.1 o.2.2.2.2.2.2.2.2.1 o.2.2.2.2.2.2.2.2.2.1 o.2.2.2.2.2.2.2.2.2.2.1 o.2.2.2.2.2.2.2.2.2.2.2) := by
  refine k_metI (by decide) rfl rfl (Nat.le_of_ble_eq_true rfl) ?_
  intro p e s m below meth c ls Q A hx hb hml hts hown hK hN hA hP hD hS hl hsz hnm hret
  have hown : s.vm.findClass RX11 = some m.cls := hown
  have hf36 := hts (.fieldLink RX11 36 "PlumbLine" "now" "LPlumbLine$City;") (List.mem_of_getElem? (i := 1) rfl)
  have hiX11 : ∀ w ∈ u_ws RX11 TX11 6, w ∈ wsX11_right := fun w h => List.mem_cons_of_mem _ (List.mem_append_left _ (List.mem_append_right _ h))
  replace hl : lv_has ls 2 [(0, .ref (aV 0)), (1, .int x1)] := hl
  have h := hsem
  clear hsem
  rw [S_PL_right] at h
  refine lv_iload_n hx hb dX11_right_0 rfl (lv_at hl 1 rfl) ?_
  by_cases s1_0 : x1 = 0
  · refine k_tblI (tgt := 28) (v := 0) hx hb dX11_right_1 s1_0 (by decide) (by decide) rfl (by decide) ?_
    have h := k_pos s1_0 h
    refine lv_aload_n hx hb dX11_right_28 rfl (lv_at hl 0 rfl) ?_
    refine va_get (D := D) (ci := 11) (v := .ref (aN 0)) (C := RX11) (T := TX11) (N := 6) hx hb hts hiX11 hown hK hP 0 rfl rfl 0 (by decide) hf36 (fun _ z => z) rfl dX11_right_29 ?_
    obtain ⟨r32, g32, h⟩ := k_bind h
    refine k_callV (As := []) (rest := []) (st1 := [.int r32]) (ws2 := (Wd31 cI cM aV aN aS aT aW aK v_hasImage nS.1 nS.2.1 nS.2.2.1 nS.2.2.2.1 nS.2.2.2.2.1 nS.2.2.2.2.2.1 nS.2.2.2.2.2.2.1 nS.2.2.2.2.2.2.2.1 nS.2.2.2.2.2.2.2.2.1 nS.2.2.2.2.2.2.2.2.2.1 nS.2.2.2.2.2.2.2.2.2.2)) hx hb hml hown hts hK hN hA hP hD hS hl (c_City_rightOne l D cI cM cS cJ aN aK s.heap.size nS.1 nS.2.1 nS.2.2.1 nS.2.2.2.1 nS.2.2.2.2.1 nS.2.2.2.2.2.1 nS.2.2.2.2.2.2.1 nS.2.2.2.2.2.2.2.1 nS.2.2.2.2.2.2.2.2.1 nS.2.2.2.2.2.2.2.2.2.1 g32) gX11_right_X2_rightOne rfl kdV_X2_rightOne 0 2 rfl rfl rfl [1, 2, 3, 4, 6, 7, 8, 9, 10, 11, 12, 13, 14] ⟨rfl, rfl⟩ ⟨Nat.le_of_ble_eq_true rfl, Nat.le_of_ble_eq_true rfl⟩ ⟨Nat.zero_le _, Nat.zero_le _⟩ rfl rfl (by decide +kernel) (k_rp rfl (by decide +kernel)) rfl rfl (Nat.le_of_ble_eq_true rfl) dX11_right_32 rfl (fun H locs hP hD hS => ?_)
    have h := Option.some.inj h; subst h
    exact hret _ _ _ _ hP hS dX11_right_35
  · have h := k_neg s1_0 h
    by_cases s1_1 : x1 = 1
    · refine k_tblI (tgt := 36) (v := 1) hx hb dX11_right_1 s1_1 (by decide) (by decide) rfl (by decide) ?_
      have h := k_pos s1_1 h
      refine lv_aload_n hx hb dX11_right_36 rfl (lv_at hl 0 rfl) ?_
      refine va_get (D := D) (ci := 11) (v := .ref (aN 0)) (C := RX11) (T := TX11) (N := 6) hx hb hts hiX11 hown hK hP 0 rfl rfl 0 (by decide) hf36 (fun _ z => z) rfl dX11_right_37 ?_
      obtain ⟨r40, g40, h⟩ := k_bind h
      refine k_callV (As := []) (rest := []) (st1 := [.int r40.1]) (ws2 := (Wd31 cI cM aV aN aS aT aW aK v_hasImage nS.1 nS.2.1 nS.2.2.1 nS.2.2.2.1 nS.2.2.2.2.1 nS.2.2.2.2.2.1 nS.2.2.2.2.2.2.1 nS.2.2.2.2.2.2.2.1 nS.2.2.2.2.2.2.2.2.1 nS.2.2.2.2.2.2.2.2.2.1 r40.2)) hx hb hml hown hts hK hN hA hP hD hS hl (c_City_walls l D cI cM cS cJ aN aK s.heap.size nS.1 nS.2.1 nS.2.2.1 nS.2.2.2.1 nS.2.2.2.2.1 nS.2.2.2.2.2.1 nS.2.2.2.2.2.2.1 nS.2.2.2.2.2.2.2.2.2.1 nS.2.2.2.2.2.2.2.2.2.2 g40) gX11_right_X2_walls rfl kdV_X2_walls 0 2 rfl rfl rfl [1, 4, 5] ⟨rfl, rfl⟩ ⟨Nat.le_of_ble_eq_true rfl, Nat.le_of_ble_eq_true rfl⟩ ⟨Nat.zero_le _, Nat.zero_le _⟩ rfl rfl (by decide +kernel) (k_rp rfl (by decide +kernel)) rfl rfl (Nat.le_of_ble_eq_true rfl) dX11_right_40 rfl (fun H locs hP hD hS => ?_)
      have h := Option.some.inj h; subst h
      exact hret _ _ _ _ hP hS dX11_right_43
    · have h := k_neg s1_1 h
      by_cases s1_2 : x1 = 2
      · refine k_tblI (tgt := 44) (v := 2) hx hb dX11_right_1 s1_2 (by decide) (by decide) rfl (by decide) ?_
        have h := k_pos s1_2 h
        refine lv_aload_n hx hb dX11_right_44 rfl (lv_at hl 0 rfl) ?_
        refine va_get (D := D) (ci := 11) (v := .ref (aN 0)) (C := RX11) (T := TX11) (N := 6) hx hb hts hiX11 hown hK hP 0 rfl rfl 0 (by decide) hf36 (fun _ z => z) rfl dX11_right_45 ?_
        obtain ⟨r48, g48, h⟩ := k_bind h
        refine k_callV (As := []) (rest := []) (st1 := [.int r48]) (ws2 := (Wd31 cI cM aV aN aS aT aW aK v_hasImage nS.1 nS.2.1 nS.2.2.1 nS.2.2.2.1 nS.2.2.2.2.1 nS.2.2.2.2.2.1 nS.2.2.2.2.2.2.1 nS.2.2.2.2.2.2.2.1 nS.2.2.2.2.2.2.2.2.1 nS.2.2.2.2.2.2.2.2.2.1 nS.2.2.2.2.2.2.2.2.2.2)) hx hb hml hown hts hK hN hA hP hD hS hl (c_City_balance l D cI cM cS cJ aN aK s.heap.size nS.1 nS.2.1 nS.2.2.1 nS.2.2.2.1 nS.2.2.2.2.1 nS.2.2.2.2.2.1 nS.2.2.2.2.2.2.1 nS.2.2.2.2.2.2.2.2.2.1 g48) gX11_right_X2_balance rfl kdV_X2_balance 0 2 rfl rfl rfl [1, 4] ⟨rfl, rfl⟩ ⟨Nat.le_of_ble_eq_true rfl, Nat.le_of_ble_eq_true rfl⟩ ⟨Nat.zero_le _, Nat.zero_le _⟩ rfl rfl (by decide +kernel) (k_rp rfl (by decide +kernel)) rfl rfl (Nat.le_of_ble_eq_true rfl) dX11_right_48 rfl (fun H locs hP hD hS => ?_)
        have h := Option.some.inj h; subst h
        exact hret _ _ _ _ hP hS dX11_right_51
      · have h := k_neg s1_2 h
        refine lv_tableOut (tgt := 52) hx hb dX11_right_1 (k_out [0, 1, 2] (by decide) (List.forall_mem_cons.mpr ⟨s1_0, (List.forall_mem_cons.mpr ⟨s1_1, (List.forall_mem_cons.mpr ⟨s1_2, (fun _ z => absurd z List.not_mem_nil)⟩)⟩)⟩)) (by decide) ?_
        refine lv_iconst (v := (-1)) hx hb dX11_right_52 (by decide) ?_
        have h := Option.some.inj h; subst h
        exact hret _ _ _ _ hP hS dX11_right_53
abbrev Wd32 (cI : ClassId) (cM : ClassId) (cS : ClassId) (aV : Nat → Nat) (aN : Nat → Nat) (aS : Nat → Nat) (aT : Nat → Nat) (aW : Nat → Nat) (aM : Nat → Nat) (aK : Nat → Nat) (aH : Nat → Nat → Nat) (dn : Nat) (v_hasImage : Int32) (n_men : Int32) (n_propped : Int32) (n_place : Int32) (n_swings : Int32) (n_crashes : Int32) (n_day : Int32) (n_crashedToday : Int32) (n_kind : Nat → Int32) (n_figure : Nat → Int32) (n_lean : Nat → Int32) (m_men : Int32) (m_propped : Int32) (m_place : Int32) (m_swings : Int32) (m_crashes : Int32) (m_day : Int32) (m_crashedToday : Int32) (m_kind : Nat → Int32) (m_figure : Nat → Int32) (m_lean : Nat → Int32) (d_kind : Int32) (d_figure : Int32) (d_sort : Int32) (d_size : Int32) (d_held : Int32) (d_el : Nat → Int32) : va_W := [((aV 0), .inr (11, [.ref (aN 0), .ref (aS 0), .ref (aT 0), .ref (aW 0), .ref (aV 1), .int v_hasImage])), ((aV 1), .inl (cS, 8, .inr (.inr (.inr (.inr (fun k => some (aH k 0))))))), ((aN 0), .inr (2, [.ref (aN 1), .ref (aN 2), .ref (aN 3), .int n_men, .int n_propped, .int n_place, .int n_swings, .int n_crashes, .int n_day, .int n_crashedToday, .ref (aK 8), .ref (aN 4)])), ((aN 1), .inl (cI, 8, .inl n_kind)), ((aN 2), .inl (cI, 8, .inl n_figure)), ((aN 3), .inl (cI, 8, .inl n_lean)), ((aW 0), .inr (5, [.ref (aN 0), .ref (aM 0), .ref (aW 1), .ref (aW 2), .ref (aW 3)])), ((aM 0), .inr (2, [.ref (aM 1), .ref (aM 2), .ref (aM 3), .int m_men, .int m_propped, .int m_place, .int m_swings, .int m_crashes, .int m_day, .int m_crashedToday, .ref (aK 8), .ref (aM 4)])), ((aM 1), .inl (cI, 8, .inl m_kind)), ((aM 2), .inl (cI, 8, .inl m_figure)), ((aM 3), .inl (cI, 8, .inl m_lean)), (((aH dn) 0), .inr (9, [.ref ((aH dn) 1), .int d_kind, .int d_figure, .int d_sort, .int d_size, .int d_held, .ref (aK 8)])), (((aH dn) 1), .inl (cI, 100, .inl d_el)), ((aK 8), .inl (cM, 8, .inr (.inr (.inr (.inr (fun k => some (aK k))))))), ((aK 0), .inr (4, [])), ((aK 1), .inr (0, [])), ((aK 2), .inr (7, [])), ((aK 3), .inr (3, [])), ((aK 4), .inr (1, [])), ((aK 5), .inr (8, [])), ((aK 6), .inr (10, [])), ((aK 7), .inr (6, []))]
theorem kdV_X5_figuresThatDid : yX5_figuresThatDid.cls = RX5 ∧ yX5_figuresThatDid.cls ≠ "java/lang/invoke/MethodHandle" ∧ yX5_figuresThatDid.cls ≠ "java/lang/invoke/VarHandle" ∧ (parseMethodDescriptor yX5_figuresThatDid.desc).map (fun d => d.parameters.length) = some 2 := by decide +kernel
theorem kdV_X5_kindsThatDid : yX5_kindsThatDid.cls = RX5 ∧ yX5_kindsThatDid.cls ≠ "java/lang/invoke/MethodHandle" ∧ yX5_kindsThatDid.cls ≠ "java/lang/invoke/VarHandle" ∧ (parseMethodDescriptor yX5_kindsThatDid.desc).map (fun d => d.parameters.length) = some 2 := by decide +kernel
abbrev rm_X11_whatIs : Room := { frames := 6, cells := 0, slots := 0, locals := 152 }
set_option maxHeartbeats 4000000 in
set_option maxRecDepth 100000 in
theorem c_PL_whatIs (l : Launch) (D : va_G) (cI cM cS cJ : ClassId) (aV : Nat → Nat) (aN : Nat → Nat) (aS : Nat → Nat) (aT : Nat → Nat) (aW : Nat → Nat) (aM : Nat → Nat) (aK : Nat → Nat) (aH : Nat → Nat → Nat) (dn : Nat) (sz : Nat) (x1 : Int32) (x2 : Int32) (x3 : Int32) (v_hasImage : Int32) (nS : CS) (mS : CS) (d_kind : Int32) (d_figure : Int32) (d_sort : Int32) (d_size : Int32) (d_held : Int32) (d_el : Nat → Int32) (hdn : ¬ (x1 < 0 ∨ 8 ≤ x1.toNatClampNeg) → x1.toNatClampNeg = dn) {o : (Int32) × (CS)} (hsem : S_PL_whatIs x1 x2 x3 nS mS d_sort d_size d_held d_el = some o) : kMet l yX11_whatIs wsX11_whatIs rm_X11_whatIs [.ref (aV 0), .int x1, .int x2, .int x3] D (kT cI cM cS cJ) (Wd32 cI cM cS aV aN aS aT aW aM aK aH dn v_hasImage nS.1 nS.2.1 nS.2.2.1 nS.2.2.2.1 nS.2.2.2.2.1 nS.2.2.2.2.2.1 nS.2.2.2.2.2.2.1 nS.2.2.2.2.2.2.2.1 nS.2.2.2.2.2.2.2.2.1 nS.2.2.2.2.2.2.2.2.2.1 mS.1 mS.2.1 mS.2.2.1 mS.2.2.2.1 mS.2.2.2.2.1 mS.2.2.2.2.2.1 mS.2.2.2.2.2.2.1 mS.2.2.2.2.2.2.2.1 mS.2.2.2.2.2.2.2.2.1 mS.2.2.2.2.2.2.2.2.2.1 d_kind d_figure d_sort d_size d_held d_el) sz (some (.int o.1)) (Wd32 cI cM cS aV aN aS aT aW aM aK aH dn v_hasImage nS.1 nS.2.1 nS.2.2.1 nS.2.2.2.1 nS.2.2.2.2.1 nS.2.2.2.2.2.1 nS.2.2.2.2.2.2.1 nS.2.2.2.2.2.2.2.1 nS.2.2.2.2.2.2.2.2.1 nS.2.2.2.2.2.2.2.2.2.1 o.2.1 o.2.2.1 o.2.2.2.1 o.2.2.2.2.1 o.2.2.2.2.2.1 o.2.2.2.2.2.2.1 o.2.2.2.2.2.2.2.1 o.2.2.2.2.2.2.2.2.1 o.2.2.2.2.2.2.2.2.2.1 o.2.2.2.2.2.2.2.2.2.2.1 d_kind d_figure d_sort d_size d_held d_el) := by
  refine k_metI (by decide) rfl rfl (Nat.le_of_ble_eq_true rfl) ?_
  intro p e s m below meth c ls Q A hx hb hml hts hown hK hN hA hP hD hS hl hsz hnm hret
  have hown : s.vm.findClass RX11 = some m.cls := hown
  have hf36 := hts (.fieldLink RX11 36 "PlumbLine" "now" "LPlumbLine$City;") (List.mem_of_getElem? (i := 1) rfl)
  have hf53 := hts (.fieldLink RX11 53 "PlumbLine" "mind" "LPlumbLine$Mind;") (List.mem_of_getElem? (i := 2) rfl)
  have hf59 := hts (.fieldLink RX11 59 "PlumbLine" "shelves" "[LPlumbLine$Shelf;") (List.mem_of_getElem? (i := 3) rfl)
  have hiX11 : ∀ w ∈ u_ws RX11 TX11 6, w ∈ wsX11_whatIs := fun w h => List.mem_cons_of_mem _ (List.mem_append_left _ (List.mem_append_left _ (List.mem_append_left _ (List.mem_append_right _ h))))
  replace hl : lv_has ls 5 [(0, .ref (aV 0)), (1, .int x1), (2, .int x2), (3, .int x3)] := hl
  have h := hsem
  clear hsem
  rw [S_PL_whatIs] at h
  refine lv_aload_n hx hb dX11_whatIs_0 rfl (lv_at hl 0 rfl) ?_
  refine va_get (D := D) (ci := 11) (v := .ref (aN 0)) (C := RX11) (T := TX11) (N := 6) hx hb hts hiX11 hown hK hP 0 rfl rfl 0 (by decide) hf36 (fun _ z => z) rfl dX11_whatIs_1 ?_
  refine lv_iload_n hx hb dX11_whatIs_4 rfl (lv_at hl 2 rfl) ?_
  refine k_callV (As := [.int x2]) (rest := []) (st1 := [.int (S_City_has x2 nS.1)]) (ws2 := (Wd32 cI cM cS aV aN aS aT aW aM aK aH dn v_hasImage nS.1 nS.2.1 nS.2.2.1 nS.2.2.2.1 nS.2.2.2.2.1 nS.2.2.2.2.2.1 nS.2.2.2.2.2.2.1 nS.2.2.2.2.2.2.2.1 nS.2.2.2.2.2.2.2.2.1 nS.2.2.2.2.2.2.2.2.2.1 mS.1 mS.2.1 mS.2.2.1 mS.2.2.2.1 mS.2.2.2.2.1 mS.2.2.2.2.2.1 mS.2.2.2.2.2.2.1 mS.2.2.2.2.2.2.2.1 mS.2.2.2.2.2.2.2.2.1 mS.2.2.2.2.2.2.2.2.2.1 d_kind d_figure d_sort d_size d_held d_el)) hx hb hml hown hts hK hN hA hP hD hS hl (c_City_has l D cI cM cS cJ aN aK s.heap.size x2 nS.1 nS.2.1 nS.2.2.1 nS.2.2.2.1 nS.2.2.2.2.1 nS.2.2.2.2.2.1 nS.2.2.2.2.2.2.1 rfl) gX11_whatIs_X2_has rfl kdV_X2_has 0 2 rfl rfl rfl [2] ⟨rfl, rfl⟩ ⟨Nat.le_of_ble_eq_true rfl, Nat.le_of_ble_eq_true rfl⟩ ⟨Nat.zero_le _, Nat.zero_le _⟩ rfl rfl (by decide +kernel) (k_rp rfl (by decide +kernel)) rfl rfl (Nat.le_of_ble_eq_true rfl) dX11_whatIs_5 rfl (fun H locs hP hD hS => ?_)
  refine lv_if_eq (tgt := 20) hx hb dX11_whatIs_8 (by decide) (fun c8 => ?_) (fun c8 => ?_)
  · have h := k_pos c8 h
    refine lv_iconst (v := (-1)) hx hb dX11_whatIs_20 (by decide) ?_
    have h := Option.some.inj h; subst h
    exact hret _ _ _ _ hP hS dX11_whatIs_21
  · have h := k_neg c8 h
    refine lv_iload_n hx hb dX11_whatIs_11 rfl (lv_at hl 3 rfl) ?_
    refine lv_iconst (v := 0) hx hb dX11_whatIs_12 (by decide) ?_
    refine lv_iconst (v := 1) hx hb dX11_whatIs_13 (by decide) ?_
    refine k_callS (As := [.int x3, .int 0, .int 1]) (rest := []) (st1 := [.int (S_PL_isIn x3 0 1)]) (ws2 := (Wd32 cI cM cS aV aN aS aT aW aM aK aH dn v_hasImage nS.1 nS.2.1 nS.2.2.1 nS.2.2.2.1 nS.2.2.2.2.1 nS.2.2.2.2.2.1 nS.2.2.2.2.2.2.1 nS.2.2.2.2.2.2.2.1 nS.2.2.2.2.2.2.2.2.1 nS.2.2.2.2.2.2.2.2.2.1 mS.1 mS.2.1 mS.2.2.1 mS.2.2.2.1 mS.2.2.2.2.1 mS.2.2.2.2.2.1 mS.2.2.2.2.2.2.1 mS.2.2.2.2.2.2.2.1 mS.2.2.2.2.2.2.2.2.1 mS.2.2.2.2.2.2.2.2.2.1 d_kind d_figure d_sort d_size d_held d_el)) hx hb hml hown hts hK hN hA hP hD hS hl (c_PL_isIn l D cI cM cS cJ H.size x3 0 1 rfl) gX11_whatIs_X11_isIn rfl kdS_X11_isIn [] ⟨rfl, rfl⟩ ⟨Nat.le_of_ble_eq_true rfl, Nat.le_of_ble_eq_true rfl⟩ ⟨Nat.zero_le _, Nat.zero_le _⟩ rfl rfl (by decide +kernel) (k_rp rfl (by decide +kernel)) rfl rfl (Nat.le_of_ble_eq_true rfl) dX11_whatIs_14 rfl (fun H locs hP hD hS => ?_)
    refine lv_if_ne (tgt := 22) hx hb dX11_whatIs_17 (by decide) (fun c17 => ?_) (fun c17 => ?_)
    · have h := k_neg c17 h
      refine lv_aload_n hx hb dX11_whatIs_22 rfl (lv_at hl 0 rfl) ?_
      refine lv_iload_n hx hb dX11_whatIs_23 rfl (lv_at hl 1 rfl) ?_
      obtain ⟨r24, g24, h⟩ := k_bind h
      refine k_callV (As := [.int x1]) (rest := []) (st1 := [.int r24]) (ws2 := (Wd32 cI cM cS aV aN aS aT aW aM aK aH dn v_hasImage nS.1 nS.2.1 nS.2.2.1 nS.2.2.2.1 nS.2.2.2.2.1 nS.2.2.2.2.2.1 nS.2.2.2.2.2.2.1 nS.2.2.2.2.2.2.2.1 nS.2.2.2.2.2.2.2.2.1 nS.2.2.2.2.2.2.2.2.2.1 mS.1 mS.2.1 mS.2.2.1 mS.2.2.2.1 mS.2.2.2.2.1 mS.2.2.2.2.2.1 mS.2.2.2.2.2.2.1 mS.2.2.2.2.2.2.2.1 mS.2.2.2.2.2.2.2.2.1 mS.2.2.2.2.2.2.2.2.2.1 d_kind d_figure d_sort d_size d_held d_el)) hx hb hml hown hts hK hN hA hP hD hS hl (c_PL_refusalOfRow l D cI cM cS cJ aV aN aS aT aW aK aH dn H.size x1 v_hasImage d_kind d_figure d_sort d_size d_held hdn g24) gX11_whatIs_X11_refusalOfRow rfl kdV_X11_refusalOfRow 0 11 rfl rfl rfl [0, 1, 11] ⟨rfl, rfl⟩ ⟨Nat.le_of_ble_eq_true rfl, Nat.le_of_ble_eq_true rfl⟩ ⟨Nat.zero_le _, Nat.zero_le _⟩ rfl rfl (by decide +kernel) (k_rp rfl (by decide +kernel)) rfl rfl (Nat.le_of_ble_eq_true rfl) dX11_whatIs_24 rfl (fun H locs hP hD hS => ?_)
      refine lv_istore (lv' := [(4, .int r24), (0, .ref (aV 0)), (1, .int x1), (2, .int x2), (3, .int x3)]) hx hb dX11_whatIs_27 hl (by decide) rfl (fun ls hl => ?_)
      refine lv_iload hx hb dX11_whatIs_29 (lv_at hl 0 rfl) ?_
      refine lv_if_eq (tgt := 37) hx hb dX11_whatIs_31 (by decide) (fun c31 => ?_) (fun c31 => ?_)
      · have h := k_pos c31 h
        refine lv_iload_n hx hb dX11_whatIs_37 rfl (lv_at hl 4 rfl) ?_
        refine lv_if_ne (tgt := 58) hx hb dX11_whatIs_38 (by decide) (fun c38 => ?_) (fun c38 => ?_)
        · have h := k_neg c38 h
          refine lv_aload_n hx hb dX11_whatIs_58 rfl (lv_at hl 1 rfl) ?_
          refine va_get (D := D) (ci := 11) (v := .ref (aW 0)) (C := RX11) (T := TX11) (N := 6) hx hb hts hiX11 hown hK hP 0 rfl rfl 3 (by decide) hf53 (fun _ z => z) rfl dX11_whatIs_59 ?_
          refine lv_iload_n hx hb dX11_whatIs_62 rfl (lv_at hl 3 rfl) ?_
          refine lv_aload_n hx hb dX11_whatIs_63 rfl (lv_at hl 1 rfl) ?_
          refine va_get (D := D) (ci := 11) (v := .ref (aV 1)) (C := RX11) (T := TX11) (N := 6) hx hb hts hiX11 hown hK hP 0 rfl rfl 4 (by decide) hf59 (fun _ z => z) rfl dX11_whatIs_64 ?_
          refine lv_iload_n hx hb dX11_whatIs_67 rfl (lv_at hl 2 rfl) ?_
          obtain ⟨g68, h⟩ := k_guard h
          refine k_aldR (f := fun k => aH k 0) hx hb hK hP 1 2 rfl rfl g68 dX11_whatIs_68 ?_
          rw [show x1.toNatClampNeg = dn from hdn g68]
          obtain ⟨r69, g69, h⟩ := k_bind h
          refine k_callV (As := [.int x2, .ref ((aH dn) 0)]) (rest := []) (st1 := [.int r69.1]) (ws2 := (Wd32 cI cM cS aV aN aS aT aW aM aK aH dn v_hasImage nS.1 nS.2.1 nS.2.2.1 nS.2.2.2.1 nS.2.2.2.2.1 nS.2.2.2.2.2.1 nS.2.2.2.2.2.2.1 nS.2.2.2.2.2.2.2.1 nS.2.2.2.2.2.2.2.2.1 nS.2.2.2.2.2.2.2.2.2.1 r69.2.1 r69.2.2.1 r69.2.2.2.1 r69.2.2.2.2.1 r69.2.2.2.2.2.1 r69.2.2.2.2.2.2.1 r69.2.2.2.2.2.2.2.1 r69.2.2.2.2.2.2.2.2.1 r69.2.2.2.2.2.2.2.2.2.1 r69.2.2.2.2.2.2.2.2.2.2.1 d_kind d_figure d_sort d_size d_held d_el)) hx hb hml hown hts hK hN hA hP hD hS hl (c_Mind_figuresThatDid l D cI cM cS cJ (aH dn) aN aW aM aK H.size x2 nS mS d_kind d_figure d_sort d_size d_held d_el g69) gX11_whatIs_X5_figuresThatDid rfl kdV_X5_figuresThatDid 0 5 rfl rfl rfl [6, 2, 3, 4, 5, 7, 8, 9, 10, 11, 12, 13, 14, 15, 16, 17, 18, 19, 20, 21] ⟨rfl, rfl⟩ ⟨Nat.le_of_ble_eq_true rfl, Nat.le_of_ble_eq_true rfl⟩ ⟨Nat.zero_le _, Nat.zero_le _⟩ rfl rfl (by decide +kernel) (k_rp rfl (by decide +kernel)) rfl rfl (Nat.le_of_ble_eq_true rfl) dX11_whatIs_69 rfl (fun H locs hP hD hS => ?_)
          have h := Option.some.inj h; subst h
          exact hret _ _ _ _ hP hS dX11_whatIs_72
        · have h := k_pos c38 h
          refine lv_aload_n hx hb dX11_whatIs_41 rfl (lv_at hl 1 rfl) ?_
          refine va_get (D := D) (ci := 11) (v := .ref (aW 0)) (C := RX11) (T := TX11) (N := 6) hx hb hts hiX11 hown hK hP 0 rfl rfl 3 (by decide) hf53 (fun _ z => z) rfl dX11_whatIs_42 ?_
          refine lv_iload_n hx hb dX11_whatIs_45 rfl (lv_at hl 3 rfl) ?_
          refine lv_aload_n hx hb dX11_whatIs_46 rfl (lv_at hl 1 rfl) ?_
          refine va_get (D := D) (ci := 11) (v := .ref (aV 1)) (C := RX11) (T := TX11) (N := 6) hx hb hts hiX11 hown hK hP 0 rfl rfl 4 (by decide) hf59 (fun _ z => z) rfl dX11_whatIs_47 ?_
          refine lv_iload_n hx hb dX11_whatIs_50 rfl (lv_at hl 2 rfl) ?_
          obtain ⟨g51, h⟩ := k_guard h
          refine k_aldR (f := fun k => aH k 0) hx hb hK hP 1 2 rfl rfl g51 dX11_whatIs_51 ?_
          rw [show x1.toNatClampNeg = dn from hdn g51]
          obtain ⟨r52, g52, h⟩ := k_bind h
          refine k_callV (As := [.int x2, .ref ((aH dn) 0)]) (rest := []) (st1 := [.int r52.1]) (ws2 := (Wd32 cI cM cS aV aN aS aT aW aM aK aH dn v_hasImage nS.1 nS.2.1 nS.2.2.1 nS.2.2.2.1 nS.2.2.2.2.1 nS.2.2.2.2.2.1 nS.2.2.2.2.2.2.1 nS.2.2.2.2.2.2.2.1 nS.2.2.2.2.2.2.2.2.1 nS.2.2.2.2.2.2.2.2.2.1 r52.2.1 r52.2.2.1 r52.2.2.2.1 r52.2.2.2.2.1 r52.2.2.2.2.2.1 r52.2.2.2.2.2.2.1 r52.2.2.2.2.2.2.2.1 r52.2.2.2.2.2.2.2.2.1 r52.2.2.2.2.2.2.2.2.2.1 r52.2.2.2.2.2.2.2.2.2.2.1 d_kind d_figure d_sort d_size d_held d_el)) hx hb hml hown hts hK hN hA hP hD hS hl (c_Mind_kindsThatDid l D cI cM cS cJ (aH dn) aN aW aM aK H.size x2 nS mS d_kind d_figure d_sort d_size d_held d_el g52) gX11_whatIs_X5_kindsThatDid rfl kdV_X5_kindsThatDid 0 5 rfl rfl rfl [6, 2, 3, 4, 5, 7, 8, 9, 10, 11, 12, 13, 14, 15, 16, 17, 18, 19, 20, 21] ⟨rfl, rfl⟩ ⟨Nat.le_of_ble_eq_true rfl, Nat.le_of_ble_eq_true rfl⟩ ⟨Nat.zero_le _, Nat.zero_le _⟩ rfl rfl (by decide +kernel) (k_rp rfl (by decide +kernel)) rfl rfl (Nat.le_of_ble_eq_true rfl) dX11_whatIs_52 rfl (fun H locs hP hD hS => ?_)
          refine lv_goto (tgt := 72) hx hb dX11_whatIs_55 (by decide) ?_
          have h := Option.some.inj h; subst h
          exact hret _ _ _ _ hP hS dX11_whatIs_72
      · have h := k_neg c31 h
        refine lv_iload hx hb dX11_whatIs_34 (lv_at hl 0 rfl) ?_
        have h := Option.some.inj h; subst h
        exact hret _ _ _ _ hP hS dX11_whatIs_36
    · have h := k_pos c17 h
      refine lv_iconst (v := (-1)) hx hb dX11_whatIs_20 (by decide) ?_
      have h := Option.some.inj h; subst h
      exact hret _ _ _ _ hP hS dX11_whatIs_21
theorem kdV_X5_hangings : yX5_hangings.cls = RX5 ∧ yX5_hangings.cls ≠ "java/lang/invoke/MethodHandle" ∧ yX5_hangings.cls ≠ "java/lang/invoke/VarHandle" ∧ (parseMethodDescriptor yX5_hangings.desc).map (fun d => d.parameters.length) = some 2 := by decide +kernel
abbrev rm_X11_whereHung : Room := { frames := 6, cells := 0, slots := 0, locals := 156 }
set_option maxHeartbeats 4000000 in
set_option maxRecDepth 100000 in
theorem c_PL_whereHung (l : Launch) (D : va_G) (cI cM cS cJ : ClassId) (aV : Nat → Nat) (aN : Nat → Nat) (aS : Nat → Nat) (aT : Nat → Nat) (aW : Nat → Nat) (aM : Nat → Nat) (aK : Nat → Nat) (aH : Nat → Nat → Nat) (dn : Nat) (sz : Nat) (x1 : Int32) (x2 : Int32) (v_hasImage : Int32) (nS : CS) (mS : CS) (d_kind : Int32) (d_figure : Int32) (d_sort : Int32) (d_size : Int32) (d_held : Int32) (d_el : Nat → Int32) (hdn : ¬ (x1 < 0 ∨ 8 ≤ x1.toNatClampNeg) → x1.toNatClampNeg = dn) {o : (Int32) × (CS)} (hsem : S_PL_whereHung x1 x2 nS mS d_sort d_size d_held d_el = some o) : kMet l yX11_whereHung wsX11_whereHung rm_X11_whereHung [.ref (aV 0), .int x1, .int x2] D (kT cI cM cS cJ) (Wd32 cI cM cS aV aN aS aT aW aM aK aH dn v_hasImage nS.1 nS.2.1 nS.2.2.1 nS.2.2.2.1 nS.2.2.2.2.1 nS.2.2.2.2.2.1 nS.2.2.2.2.2.2.1 nS.2.2.2.2.2.2.2.1 nS.2.2.2.2.2.2.2.2.1 nS.2.2.2.2.2.2.2.2.2.1 mS.1 mS.2.1 mS.2.2.1 mS.2.2.2.1 mS.2.2.2.2.1 mS.2.2.2.2.2.1 mS.2.2.2.2.2.2.1 mS.2.2.2.2.2.2.2.1 mS.2.2.2.2.2.2.2.2.1 mS.2.2.2.2.2.2.2.2.2.1 d_kind d_figure d_sort d_size d_held d_el) sz (some (.int o.1)) (Wd32 cI cM cS aV aN aS aT aW aM aK aH dn v_hasImage nS.1 nS.2.1 nS.2.2.1 nS.2.2.2.1 nS.2.2.2.2.1 nS.2.2.2.2.2.1 nS.2.2.2.2.2.2.1 nS.2.2.2.2.2.2.2.1 nS.2.2.2.2.2.2.2.2.1 nS.2.2.2.2.2.2.2.2.2.1 o.2.1 o.2.2.1 o.2.2.2.1 o.2.2.2.2.1 o.2.2.2.2.2.1 o.2.2.2.2.2.2.1 o.2.2.2.2.2.2.2.1 o.2.2.2.2.2.2.2.2.1 o.2.2.2.2.2.2.2.2.2.1 o.2.2.2.2.2.2.2.2.2.2.1 d_kind d_figure d_sort d_size d_held d_el) := by
  refine k_metI (by decide) rfl rfl (Nat.le_of_ble_eq_true rfl) ?_
  intro p e s m below meth c ls Q A hx hb hml hts hown hK hN hA hP hD hS hl hsz hnm hret
  have hown : s.vm.findClass RX11 = some m.cls := hown
  have hf53 := hts (.fieldLink RX11 53 "PlumbLine" "mind" "LPlumbLine$Mind;") (List.mem_of_getElem? (i := 1) rfl)
  have hf59 := hts (.fieldLink RX11 59 "PlumbLine" "shelves" "[LPlumbLine$Shelf;") (List.mem_of_getElem? (i := 2) rfl)
  have hiX11 : ∀ w ∈ u_ws RX11 TX11 6, w ∈ wsX11_whereHung := fun w h => List.mem_cons_of_mem _ (List.mem_append_left _ (List.mem_append_left _ (List.mem_append_left _ (List.mem_append_right _ h))))
  replace hl : lv_has ls 4 [(0, .ref (aV 0)), (1, .int x1), (2, .int x2)] := hl
  have h := hsem
  clear hsem
  rw [S_PL_whereHung] at h
  refine lv_iload_n hx hb dX11_whereHung_0 rfl (lv_at hl 2 rfl) ?_
  refine lv_iconst (v := 0) hx hb dX11_whereHung_1 (by decide) ?_
  refine lv_iconst (v := 2) hx hb dX11_whereHung_2 (by decide) ?_
  refine k_callS (As := [.int x2, .int 0, .int 2]) (rest := []) (st1 := [.int (S_PL_isIn x2 0 2)]) (ws2 := (Wd32 cI cM cS aV aN aS aT aW aM aK aH dn v_hasImage nS.1 nS.2.1 nS.2.2.1 nS.2.2.2.1 nS.2.2.2.2.1 nS.2.2.2.2.2.1 nS.2.2.2.2.2.2.1 nS.2.2.2.2.2.2.2.1 nS.2.2.2.2.2.2.2.2.1 nS.2.2.2.2.2.2.2.2.2.1 mS.1 mS.2.1 mS.2.2.1 mS.2.2.2.1 mS.2.2.2.2.1 mS.2.2.2.2.2.1 mS.2.2.2.2.2.2.1 mS.2.2.2.2.2.2.2.1 mS.2.2.2.2.2.2.2.2.1 mS.2.2.2.2.2.2.2.2.2.1 d_kind d_figure d_sort d_size d_held d_el)) hx hb hml hown hts hK hN hA hP hD hS hl (c_PL_isIn l D cI cM cS cJ s.heap.size x2 0 2 rfl) gX11_whereHung_X11_isIn rfl kdS_X11_isIn [] ⟨rfl, rfl⟩ ⟨Nat.le_of_ble_eq_true rfl, Nat.le_of_ble_eq_true rfl⟩ ⟨Nat.zero_le _, Nat.zero_le _⟩ rfl rfl (by decide +kernel) (k_rp rfl (by decide +kernel)) rfl rfl (Nat.le_of_ble_eq_true rfl) dX11_whereHung_3 rfl (fun H locs hP hD hS => ?_)
  refine lv_if_ne (tgt := 11) hx hb dX11_whereHung_6 (by decide) (fun c6 => ?_) (fun c6 => ?_)
  · have h := k_neg c6 h
    refine lv_aload_n hx hb dX11_whereHung_11 rfl (lv_at hl 0 rfl) ?_
    refine lv_iload_n hx hb dX11_whereHung_12 rfl (lv_at hl 1 rfl) ?_
    obtain ⟨r13, g13, h⟩ := k_bind h
    refine k_callV (As := [.int x1]) (rest := []) (st1 := [.int r13]) (ws2 := (Wd32 cI cM cS aV aN aS aT aW aM aK aH dn v_hasImage nS.1 nS.2.1 nS.2.2.1 nS.2.2.2.1 nS.2.2.2.2.1 nS.2.2.2.2.2.1 nS.2.2.2.2.2.2.1 nS.2.2.2.2.2.2.2.1 nS.2.2.2.2.2.2.2.2.1 nS.2.2.2.2.2.2.2.2.2.1 mS.1 mS.2.1 mS.2.2.1 mS.2.2.2.1 mS.2.2.2.2.1 mS.2.2.2.2.2.1 mS.2.2.2.2.2.2.1 mS.2.2.2.2.2.2.2.1 mS.2.2.2.2.2.2.2.2.1 mS.2.2.2.2.2.2.2.2.2.1 d_kind d_figure d_sort d_size d_held d_el)) hx hb hml hown hts hK hN hA hP hD hS hl (c_PL_refusalOfRow l D cI cM cS cJ aV aN aS aT aW aK aH dn H.size x1 v_hasImage d_kind d_figure d_sort d_size d_held hdn g13) gX11_whereHung_X11_refusalOfRow rfl kdV_X11_refusalOfRow 0 11 rfl rfl rfl [0, 1, 11] ⟨rfl, rfl⟩ ⟨Nat.le_of_ble_eq_true rfl, Nat.le_of_ble_eq_true rfl⟩ ⟨Nat.zero_le _, Nat.zero_le _⟩ rfl rfl (by decide +kernel) (k_rp rfl (by decide +kernel)) rfl rfl (Nat.le_of_ble_eq_true rfl) dX11_whereHung_13 rfl (fun H locs hP hD hS => ?_)
    refine lv_istore_n (lv' := [(3, .int r13), (0, .ref (aV 0)), (1, .int x1), (2, .int x2)]) hx hb dX11_whereHung_16 rfl hl (by decide) rfl (fun ls hl => ?_)
    refine lv_iload_n hx hb dX11_whereHung_17 rfl (lv_at hl 0 rfl) ?_
    refine lv_if_eq (tgt := 25) hx hb dX11_whereHung_18 (by decide) (fun c18 => ?_) (fun c18 => ?_)
    · have h := k_pos c18 h
      refine lv_aload_n hx hb dX11_whereHung_25 rfl (lv_at hl 1 rfl) ?_
      refine va_get (D := D) (ci := 11) (v := .ref (aW 0)) (C := RX11) (T := TX11) (N := 6) hx hb hts hiX11 hown hK hP 0 rfl rfl 3 (by decide) hf53 (fun _ z => z) rfl dX11_whereHung_26 ?_
      refine lv_aload_n hx hb dX11_whereHung_29 rfl (lv_at hl 1 rfl) ?_
      refine va_get (D := D) (ci := 11) (v := .ref (aV 1)) (C := RX11) (T := TX11) (N := 6) hx hb hts hiX11 hown hK hP 0 rfl rfl 4 (by decide) hf59 (fun _ z => z) rfl dX11_whereHung_30 ?_
      refine lv_iload_n hx hb dX11_whereHung_33 rfl (lv_at hl 2 rfl) ?_
      obtain ⟨g34, h⟩ := k_guard h
      refine k_aldR (f := fun k => aH k 0) hx hb hK hP 1 2 rfl rfl g34 dX11_whereHung_34 ?_
      rw [show x1.toNatClampNeg = dn from hdn g34]
      refine lv_iload_n hx hb dX11_whereHung_35 rfl (lv_at hl 3 rfl) ?_
      obtain ⟨r36, g36, h⟩ := k_bind h
      refine k_callV (As := [.ref ((aH dn) 0), .int x2]) (rest := []) (st1 := [.int r36.1]) (ws2 := (Wd32 cI cM cS aV aN aS aT aW aM aK aH dn v_hasImage nS.1 nS.2.1 nS.2.2.1 nS.2.2.2.1 nS.2.2.2.2.1 nS.2.2.2.2.2.1 nS.2.2.2.2.2.2.1 nS.2.2.2.2.2.2.2.1 nS.2.2.2.2.2.2.2.2.1 nS.2.2.2.2.2.2.2.2.2.1 r36.2.1 r36.2.2.1 r36.2.2.2.1 r36.2.2.2.2.1 r36.2.2.2.2.2.1 r36.2.2.2.2.2.2.1 r36.2.2.2.2.2.2.2.1 r36.2.2.2.2.2.2.2.2.1 r36.2.2.2.2.2.2.2.2.2.1 r36.2.2.2.2.2.2.2.2.2.2.1 d_kind d_figure d_sort d_size d_held d_el)) hx hb hml hown hts hK hN hA hP hD hS hl (c_Mind_hangings l D cI cM cS cJ (aH dn) aN aW aM aK H.size x2 nS mS d_kind d_figure d_sort d_size d_held d_el g36) gX11_whereHung_X5_hangings rfl kdV_X5_hangings 0 5 rfl rfl rfl [6, 2, 3, 4, 5, 7, 8, 9, 10, 11, 12, 13, 14, 15, 16, 17, 18, 19, 20, 21] ⟨rfl, rfl⟩ ⟨Nat.le_of_ble_eq_true rfl, Nat.le_of_ble_eq_true rfl⟩ ⟨Nat.zero_le _, Nat.zero_le _⟩ rfl rfl (by decide +kernel) (k_rp rfl (by decide +kernel)) rfl rfl (Nat.le_of_ble_eq_true rfl) dX11_whereHung_36 rfl (fun H locs hP hD hS => ?_)
      have h := Option.some.inj h; subst h
      exact hret _ _ _ _ hP hS dX11_whereHung_39
    · have h := k_neg c18 h
      refine lv_iload_n hx hb dX11_whereHung_21 rfl (lv_at hl 0 rfl) ?_
      refine lv_goto (tgt := 39) hx hb dX11_whereHung_22 (by decide) ?_
      have h := Option.some.inj h; subst h
      exact hret _ _ _ _ hP hS dX11_whereHung_39
  · have h := k_pos c6 h
    refine lv_iconst (v := (-1)) hx hb dX11_whereHung_9 (by decide) ?_
    have h := Option.some.inj h; subst h
    exact hret _ _ _ _ hP hS dX11_whereHung_10
abbrev Wd33 (cI : ClassId) (cM : ClassId) (aV : Nat → Nat) (aN : Nat → Nat) (aS : Nat → Nat) (aT : Nat → Nat) (aW : Nat → Nat) (aM : Nat → Nat) (aK : Nat → Nat) (v_hasImage : Int32) (n_men : Int32) (n_propped : Int32) (n_place : Int32) (n_swings : Int32) (n_crashes : Int32) (n_day : Int32) (n_crashedToday : Int32) (n_kind : Nat → Int32) (n_figure : Nat → Int32) (n_lean : Nat → Int32) (w_gains : Nat → Int32) (w_othersGains : Nat → Int32) (m_men : Int32) (m_propped : Int32) (m_place : Int32) (m_swings : Int32) (m_crashes : Int32) (m_day : Int32) (m_crashedToday : Int32) (m_kind : Nat → Int32) (m_figure : Nat → Int32) (m_lean : Nat → Int32) : va_W := [((aV 0), .inr (11, [.ref (aN 0), .ref (aS 0), .ref (aT 0), .ref (aW 0), .ref (aV 1), .int v_hasImage])), ((aN 0), .inr (2, [.ref (aN 1), .ref (aN 2), .ref (aN 3), .int n_men, .int n_propped, .int n_place, .int n_swings, .int n_crashes, .int n_day, .int n_crashedToday, .ref (aK 8), .ref (aN 4)])), ((aN 1), .inl (cI, 8, .inl n_kind)), ((aN 2), .inl (cI, 8, .inl n_figure)), ((aN 3), .inl (cI, 8, .inl n_lean)), ((aW 0), .inr (5, [.ref (aN 0), .ref (aM 0), .ref (aW 1), .ref (aW 2), .ref (aW 3)])), ((aW 1), .inl (cI, 4, .inl w_gains)), ((aW 2), .inl (cI, 4, .inl w_othersGains)), ((aM 0), .inr (2, [.ref (aM 1), .ref (aM 2), .ref (aM 3), .int m_men, .int m_propped, .int m_place, .int m_swings, .int m_crashes, .int m_day, .int m_crashedToday, .ref (aK 8), .ref (aM 4)])), ((aM 1), .inl (cI, 8, .inl m_kind)), ((aM 2), .inl (cI, 8, .inl m_figure)), ((aM 3), .inl (cI, 8, .inl m_lean)), ((aK 8), .inl (cM, 8, .inr (.inr (.inr (.inr (fun k => some (aK k))))))), ((aK 0), .inr (4, [])), ((aK 1), .inr (0, [])), ((aK 2), .inr (7, [])), ((aK 3), .inr (3, [])), ((aK 4), .inr (1, [])), ((aK 5), .inr (8, [])), ((aK 6), .inr (10, [])), ((aK 7), .inr (6, []))]
theorem kdV_X5_settledPair : yX5_settledPair.cls = RX5 ∧ yX5_settledPair.cls ≠ "java/lang/invoke/MethodHandle" ∧ yX5_settledPair.cls ≠ "java/lang/invoke/VarHandle" ∧ (parseMethodDescriptor yX5_settledPair.desc).map (fun d => d.parameters.length) = some 3 := by decide +kernel
abbrev rm_X11_two : Room := { frames := 6, cells := 0, slots := 0, locals := 154 }
set_option maxHeartbeats 4000000 in
set_option maxRecDepth 100000 in
theorem c_PL_two (l : Launch) (D : va_G) (cI cM cS cJ : ClassId) (aV : Nat → Nat) (aN : Nat → Nat) (aS : Nat → Nat) (aT : Nat → Nat) (aW : Nat → Nat) (aM : Nat → Nat) (aK : Nat → Nat) (sz : Nat) (x1 : Int32) (x2 : Int32) (x3 : Int32) (v_hasImage : Int32) (nS : CS) (w_gains : Nat → Int32) (w_othersGains : Nat → Int32) (mS : CS) {o : (Int32) × (Nat → Int32) × (Nat → Int32) × (CS)} (hsem : S_PL_two x1 x2 x3 nS w_gains w_othersGains mS = some o) : kMet l yX11_two wsX11_two rm_X11_two [.ref (aV 0), .int x1, .int x2, .int x3] D (kT cI cM cS cJ) (Wd33 cI cM aV aN aS aT aW aM aK v_hasImage nS.1 nS.2.1 nS.2.2.1 nS.2.2.2.1 nS.2.2.2.2.1 nS.2.2.2.2.2.1 nS.2.2.2.2.2.2.1 nS.2.2.2.2.2.2.2.1 nS.2.2.2.2.2.2.2.2.1 nS.2.2.2.2.2.2.2.2.2.1 w_gains w_othersGains mS.1 mS.2.1 mS.2.2.1 mS.2.2.2.1 mS.2.2.2.2.1 mS.2.2.2.2.2.1 mS.2.2.2.2.2.2.1 mS.2.2.2.2.2.2.2.1 mS.2.2.2.2.2.2.2.2.1 mS.2.2.2.2.2.2.2.2.2.1) sz (some (.int o.1)) (Wd33 cI cM aV aN aS aT aW aM aK v_hasImage nS.1 nS.2.1 nS.2.2.1 nS.2.2.2.1 nS.2.2.2.2.1 nS.2.2.2.2.2.1 nS.2.2.2.2.2.2.1 nS.2.2.2.2.2.2.2.1 nS.2.2.2.2.2.2.2.2.1 nS.2.2.2.2.2.2.2.2.2.1 o.2.1 o.2.2.1 o.2.2.2.1 o.2.2.2.2.1 o.2.2.2.2.2.1 o.2.2.2.2.2.2.1 o.2.2.2.2.2.2.2.1 o.2.2.2.2.2.2.2.2.1 o.2.2.2.2.2.2.2.2.2.1 o.2.2.2.2.2.2.2.2.2.2.1 o.2.2.2.2.2.2.2.2.2.2.2.1 o.2.2.2.2.2.2.2.2.2.2.2.2.1) := by
  refine k_metI (by decide) rfl rfl (Nat.le_of_ble_eq_true rfl) ?_
  intro p e s m below meth c ls Q A hx hb hml hts hown hK hN hA hP hD hS hl hsz hnm hret
  have hown : s.vm.findClass RX11 = some m.cls := hown
  have hf36 := hts (.fieldLink RX11 36 "PlumbLine" "now" "LPlumbLine$City;") (List.mem_of_getElem? (i := 1) rfl)
  have hf53 := hts (.fieldLink RX11 53 "PlumbLine" "mind" "LPlumbLine$Mind;") (List.mem_of_getElem? (i := 2) rfl)
  have hiX11 : ∀ w ∈ u_ws RX11 TX11 6, w ∈ wsX11_two := fun w h => List.mem_cons_of_mem _ (List.mem_append_left _ (List.mem_append_left _ (List.mem_append_right _ h)))
  replace hl : lv_has ls 4 [(0, .ref (aV 0)), (1, .int x1), (2, .int x2), (3, .int x3)] := hl
  have h := hsem
  clear hsem
  rw [S_PL_two] at h
  refine lv_aload_n hx hb dX11_two_0 rfl (lv_at hl 0 rfl) ?_
  refine va_get (D := D) (ci := 11) (v := .ref (aN 0)) (C := RX11) (T := TX11) (N := 6) hx hb hts hiX11 hown hK hP 0 rfl rfl 0 (by decide) hf36 (fun _ z => z) rfl dX11_two_1 ?_
  refine lv_iload_n hx hb dX11_two_4 rfl (lv_at hl 1 rfl) ?_
  refine k_callV (As := [.int x1]) (rest := []) (st1 := [.int (S_City_has x1 nS.1)]) (ws2 := (Wd33 cI cM aV aN aS aT aW aM aK v_hasImage nS.1 nS.2.1 nS.2.2.1 nS.2.2.2.1 nS.2.2.2.2.1 nS.2.2.2.2.2.1 nS.2.2.2.2.2.2.1 nS.2.2.2.2.2.2.2.1 nS.2.2.2.2.2.2.2.2.1 nS.2.2.2.2.2.2.2.2.2.1 w_gains w_othersGains mS.1 mS.2.1 mS.2.2.1 mS.2.2.2.1 mS.2.2.2.2.1 mS.2.2.2.2.2.1 mS.2.2.2.2.2.2.1 mS.2.2.2.2.2.2.2.1 mS.2.2.2.2.2.2.2.2.1 mS.2.2.2.2.2.2.2.2.2.1)) hx hb hml hown hts hK hN hA hP hD hS hl (c_City_has l D cI cM cS cJ aN aK s.heap.size x1 nS.1 nS.2.1 nS.2.2.1 nS.2.2.2.1 nS.2.2.2.2.1 nS.2.2.2.2.2.1 nS.2.2.2.2.2.2.1 rfl) gX11_two_X2_has rfl kdV_X2_has 0 2 rfl rfl rfl [1] ⟨rfl, rfl⟩ ⟨Nat.le_of_ble_eq_true rfl, Nat.le_of_ble_eq_true rfl⟩ ⟨Nat.zero_le _, Nat.zero_le _⟩ rfl rfl (by decide +kernel) (k_rp rfl (by decide +kernel)) rfl rfl (Nat.le_of_ble_eq_true rfl) dX11_two_5 rfl (fun H locs hP hD hS => ?_)
  refine lv_if_eq (tgt := 37) hx hb dX11_two_8 (by decide) (fun c8 => ?_) (fun c8 => ?_)
  · have h := k_pos c8 h
    refine lv_iconst (v := (-1)) hx hb dX11_two_37 (by decide) ?_
    have h := Option.some.inj h; subst h
    exact hret _ _ _ _ hP hS dX11_two_38
  · have h := k_neg c8 h
    refine lv_aload_n hx hb dX11_two_11 rfl (lv_at hl 0 rfl) ?_
    refine va_get (D := D) (ci := 11) (v := .ref (aN 0)) (C := RX11) (T := TX11) (N := 6) hx hb hts hiX11 hown hK hP 0 rfl rfl 0 (by decide) hf36 (fun _ z => z) rfl dX11_two_12 ?_
    refine lv_iload_n hx hb dX11_two_15 rfl (lv_at hl 2 rfl) ?_
    refine k_callV (As := [.int x2]) (rest := []) (st1 := [.int (S_City_has x2 nS.1)]) (ws2 := (Wd33 cI cM aV aN aS aT aW aM aK v_hasImage nS.1 nS.2.1 nS.2.2.1 nS.2.2.2.1 nS.2.2.2.2.1 nS.2.2.2.2.2.1 nS.2.2.2.2.2.2.1 nS.2.2.2.2.2.2.2.1 nS.2.2.2.2.2.2.2.2.1 nS.2.2.2.2.2.2.2.2.2.1 w_gains w_othersGains mS.1 mS.2.1 mS.2.2.1 mS.2.2.2.1 mS.2.2.2.2.1 mS.2.2.2.2.2.1 mS.2.2.2.2.2.2.1 mS.2.2.2.2.2.2.2.1 mS.2.2.2.2.2.2.2.2.1 mS.2.2.2.2.2.2.2.2.2.1)) hx hb hml hown hts hK hN hA hP hD hS hl (c_City_has l D cI cM cS cJ aN aK H.size x2 nS.1 nS.2.1 nS.2.2.1 nS.2.2.2.1 nS.2.2.2.2.1 nS.2.2.2.2.2.1 nS.2.2.2.2.2.2.1 rfl) gX11_two_X2_has rfl kdV_X2_has 0 2 rfl rfl rfl [1] ⟨rfl, rfl⟩ ⟨Nat.le_of_ble_eq_true rfl, Nat.le_of_ble_eq_true rfl⟩ ⟨Nat.zero_le _, Nat.zero_le _⟩ rfl rfl (by decide +kernel) (k_rp rfl (by decide +kernel)) rfl rfl (Nat.le_of_ble_eq_true rfl) dX11_two_16 rfl (fun H locs hP hD hS => ?_)
    refine lv_if_eq (tgt := 37) hx hb dX11_two_19 (by decide) (fun c19 => ?_) (fun c19 => ?_)
    · have h := k_pos c19 h
      refine lv_iconst (v := (-1)) hx hb dX11_two_37 (by decide) ?_
      have h := Option.some.inj h; subst h
      exact hret _ _ _ _ hP hS dX11_two_38
    · have h := k_neg c19 h
      refine lv_iload_n hx hb dX11_two_22 rfl (lv_at hl 1 rfl) ?_
      refine lv_iload_n hx hb dX11_two_23 rfl (lv_at hl 2 rfl) ?_
      refine lv_icmp_eq (tgt := 37) hx hb dX11_two_24 (by decide) (fun c24 => ?_) (fun c24 => ?_)
      · have h := k_pos c24 h
        refine lv_iconst (v := (-1)) hx hb dX11_two_37 (by decide) ?_
        have h := Option.some.inj h; subst h
        exact hret _ _ _ _ hP hS dX11_two_38
      · have h := k_neg c24 h
        refine lv_iload_n hx hb dX11_two_27 rfl (lv_at hl 3 rfl) ?_
        refine lv_iconst (v := 1) hx hb dX11_two_28 (by decide) ?_
        refine lv_bipush (v := 30) hx hb dX11_two_29 (by decide) ?_
        refine k_callS (As := [.int x3, .int 1, .int 30]) (rest := []) (st1 := [.int (S_PL_isIn x3 1 30)]) (ws2 := (Wd33 cI cM aV aN aS aT aW aM aK v_hasImage nS.1 nS.2.1 nS.2.2.1 nS.2.2.2.1 nS.2.2.2.2.1 nS.2.2.2.2.2.1 nS.2.2.2.2.2.2.1 nS.2.2.2.2.2.2.2.1 nS.2.2.2.2.2.2.2.2.1 nS.2.2.2.2.2.2.2.2.2.1 w_gains w_othersGains mS.1 mS.2.1 mS.2.2.1 mS.2.2.2.1 mS.2.2.2.2.1 mS.2.2.2.2.2.1 mS.2.2.2.2.2.2.1 mS.2.2.2.2.2.2.2.1 mS.2.2.2.2.2.2.2.2.1 mS.2.2.2.2.2.2.2.2.2.1)) hx hb hml hown hts hK hN hA hP hD hS hl (c_PL_isIn l D cI cM cS cJ H.size x3 1 30 rfl) gX11_two_X11_isIn rfl kdS_X11_isIn [] ⟨rfl, rfl⟩ ⟨Nat.le_of_ble_eq_true rfl, Nat.le_of_ble_eq_true rfl⟩ ⟨Nat.zero_le _, Nat.zero_le _⟩ rfl rfl (by decide +kernel) (k_rp rfl (by decide +kernel)) rfl rfl (Nat.le_of_ble_eq_true rfl) dX11_two_31 rfl (fun H locs hP hD hS => ?_)
        refine lv_if_ne (tgt := 39) hx hb dX11_two_34 (by decide) (fun c34 => ?_) (fun c34 => ?_)
        · have h := k_neg c34 h
          refine lv_aload_n hx hb dX11_two_39 rfl (lv_at hl 0 rfl) ?_
          refine va_get (D := D) (ci := 11) (v := .ref (aW 0)) (C := RX11) (T := TX11) (N := 6) hx hb hts hiX11 hown hK hP 0 rfl rfl 3 (by decide) hf53 (fun _ z => z) rfl dX11_two_40 ?_
          refine lv_iload_n hx hb dX11_two_43 rfl (lv_at hl 1 rfl) ?_
          refine lv_iload_n hx hb dX11_two_44 rfl (lv_at hl 2 rfl) ?_
          refine lv_iload_n hx hb dX11_two_45 rfl (lv_at hl 3 rfl) ?_
          obtain ⟨r46, g46, h⟩ := k_bind h
          refine k_callV (As := [.int x1, .int x2, .int x3]) (rest := []) (st1 := [.int r46.1]) (ws2 := (Wd33 cI cM aV aN aS aT aW aM aK v_hasImage nS.1 nS.2.1 nS.2.2.1 nS.2.2.2.1 nS.2.2.2.2.1 nS.2.2.2.2.2.1 nS.2.2.2.2.2.2.1 nS.2.2.2.2.2.2.2.1 nS.2.2.2.2.2.2.2.2.1 nS.2.2.2.2.2.2.2.2.2.1 r46.2.1 r46.2.2.1 r46.2.2.2.1 r46.2.2.2.2.1 r46.2.2.2.2.2.1 r46.2.2.2.2.2.2.1 r46.2.2.2.2.2.2.2.1 r46.2.2.2.2.2.2.2.2.1 r46.2.2.2.2.2.2.2.2.2.1 r46.2.2.2.2.2.2.2.2.2.2.1 r46.2.2.2.2.2.2.2.2.2.2.2.1 r46.2.2.2.2.2.2.2.2.2.2.2.2.1)) hx hb hml hown hts hK hN hA hP hD hS hl (c_Mind_settledPair l D cI cM cS cJ aN aW aM aK H.size x1 x2 x3 w_gains w_othersGains nS mS g46) gX11_two_X5_settledPair rfl kdV_X5_settledPair 0 5 rfl rfl rfl [5, 6, 7, 1, 2, 3, 4, 8, 9, 10, 11, 12, 13, 14, 15, 16, 17, 18, 19, 20] ⟨rfl, rfl⟩ ⟨Nat.le_of_ble_eq_true rfl, Nat.le_of_ble_eq_true rfl⟩ ⟨Nat.zero_le _, Nat.zero_le _⟩ rfl rfl (by decide +kernel) (k_rp rfl (by decide +kernel)) rfl rfl (Nat.le_of_ble_eq_true rfl) dX11_two_46 rfl (fun H locs hP hD hS => ?_)
          have h := Option.some.inj h; subst h
          exact hret _ _ _ _ hP hS dX11_two_49
        · have h := k_pos c34 h
          refine lv_iconst (v := (-1)) hx hb dX11_two_37 (by decide) ?_
          have h := Option.some.inj h; subst h
          exact hret _ _ _ _ hP hS dX11_two_38
abbrev rm_X11_commonDivisor : Room := { frames := 0, cells := 0, slots := 0, locals := 0 }
set_option maxHeartbeats 4000000 in
set_option maxRecDepth 100000 in
theorem c_PL_commonDivisor (l : Launch) (D : va_G) (cI cM cS cJ : ClassId) (sz : Nat) (x0 : Int64) (x2 : Int64) {o : (Int64)} (hsem : S_PL_commonDivisor x0 x2 = some o) : kMet l yX11_commonDivisor wsX11_commonDivisor rm_X11_commonDivisor [.long x0, .long x2] D (kT cI cM cS cJ) (Wd0) sz (some (.long o)) (Wd0) := by
  refine k_metJ (by decide) rfl rfl (Nat.le_of_ble_eq_true rfl) ?_
  intro p e s m below meth c ls Q A hx hb hml hts hown hK hN hA hP hD hS hl hsz hnm hret
  have hown : s.vm.findClass RX11 = some m.cls := hown
  replace hl : lv_has ls 11 [(0, .long x0), (2, .long x2)] := hl
  have h := hsem
  clear hsem
  rw [S_PL_commonDivisor] at h
  refine lv_lload_n hx hb dX11_commonDivisor_0 rfl (lv_at hl 0 rfl) ?_
  refine lv_lstore (lv' := [(4, .long x0), (0, .long x0), (2, .long x2)]) hx hb dX11_commonDivisor_1 hl (by decide) rfl (fun ls hl => ?_)
  refine lv_lload_n hx hb dX11_commonDivisor_3 rfl (lv_at hl 2 rfl) ?_
  refine lv_lstore (lv' := [(6, .long x2), (4, .long x0), (0, .long x0), (2, .long x2)]) hx hb dX11_commonDivisor_4 hl (by decide) rfl (fun ls hl => ?_)
  refine lv_iconst (v := 0) hx hb dX11_commonDivisor_6 (by decide) ?_
  have B9 : ∀ (n9 : Nat) (y4 : Int64) (y6 : Int64) (y8 : Int32) (H : Heap) (locs : List Loc) (ls : Array Slot), va_P D vwCl (Wd0) H → va_D A (Wd0) → va_S A s.heap H locs → lv_has ls 11 [(4, .long y4), (6, .long y6), (8, .int y8)] → S_PL_commonDivisor_L9 n9 y4 y6 y8 = some o → W p l e rm_X11_commonDivisor s m ([.long x0, .long x2] : List Value).toArray below meth c H locs 0 0 Q (F0 m 9 ls []) := by
    intro n9
    induction n9 with
    | zero => intro y4 y6 y8 H locs ls hP hD hS hl h; exact absurd h (by simp [S_PL_commonDivisor_L9])
    | succ n9 ih9 =>
      intro y4 y6 y8 H locs ls hP hD hS hl h
      rw [S_PL_commonDivisor_L9] at h
      refine lv_iload hx hb dX11_commonDivisor_9 (lv_at hl 2 rfl) ?_
      refine lv_sipush (v := 1000) hx hb dX11_commonDivisor_11 (by decide) ?_
      refine lv_icmp_ge (tgt := 45) hx hb dX11_commonDivisor_14 (by decide) (fun c14 => ?_) (fun c14 => ?_)
      · have h := k_pos c14 h
        refine lv_lload hx hb dX11_commonDivisor_45 (lv_at hl 0 rfl) ?_
        have h := Option.some.inj h; subst h
        exact hret _ _ _ _ hP hS dX11_commonDivisor_47
      · have h := k_neg c14 h
        refine lv_lload hx hb dX11_commonDivisor_17 (lv_at hl 1 rfl) ?_
        refine lv_lconst (v := 0) hx hb dX11_commonDivisor_19 (by decide) ?_
        refine W.lcmp hx hb dX11_commonDivisor_20 ?_
        refine lv_if_eq (tgt := 45) hx hb dX11_commonDivisor_21 (by decide) (fun c21 => ?_) (fun c21 => ?_)
        · have h := k_pos c21 h
          refine lv_lload hx hb dX11_commonDivisor_45 (lv_at hl 0 rfl) ?_
          have h := Option.some.inj h; subst h
          exact hret _ _ _ _ hP hS dX11_commonDivisor_47
        · have h := k_neg c21 h
          refine lv_lload hx hb dX11_commonDivisor_24 (lv_at hl 0 rfl) ?_
          refine lv_lload hx hb dX11_commonDivisor_26 (lv_at hl 1 rfl) ?_
          obtain ⟨g28, h⟩ := k_guard h
          refine lv_lrem hx hb dX11_commonDivisor_28 g28 ?_
          refine lv_lstore (lv' := [(9, .long (y4 - y4 / y6 * y6)), (4, .long y4), (6, .long y6), (8, .int y8)]) hx hb dX11_commonDivisor_29 hl (by decide) rfl (fun ls hl => ?_)
          refine lv_lload hx hb dX11_commonDivisor_31 (lv_at hl 2 rfl) ?_
          refine lv_lstore (lv' := [(4, .long y6), (9, .long (y4 - y4 / y6 * y6)), (6, .long y6), (8, .int y8)]) hx hb dX11_commonDivisor_33 hl (by decide) rfl (fun ls hl => ?_)
          refine lv_lload hx hb dX11_commonDivisor_35 (lv_at hl 1 rfl) ?_
          refine lv_lstore (lv' := [(6, .long (y4 - y4 / y6 * y6)), (4, .long y6), (9, .long (y4 - y4 / y6 * y6)), (8, .int y8)]) hx hb dX11_commonDivisor_37 hl (by decide) rfl (fun ls hl => ?_)
          refine lv_iinc (v := (y8 + 1)) (lv' := [(8, .int (y8 + 1)), (6, .long (y4 - y4 / y6 * y6)), (4, .long y6), (9, .long (y4 - y4 / y6 * y6))]) hx hb dX11_commonDivisor_39 hl (k := 3) rfl (by first | rfl | decide) (by decide) rfl (fun ls hl => ?_)
          refine lv_goto (tgt := 9) hx hb dX11_commonDivisor_42 (by decide) ?_
          exact ih9 y6 (y4 - y4 / y6 * y6) (y8 + 1) H locs ls hP hD hS (lv_sub hl [2, 1, 0] rfl) h
  refine lv_istore (lv' := [(8, .int 0), (6, .long x2), (4, .long x0), (0, .long x0), (2, .long x2)]) hx hb dX11_commonDivisor_7 hl (by decide) rfl (fun ls hl => ?_)
  exact B9 lfu x0 x2 0 s.heap [] ls hP hD hS (lv_sub hl [2, 1, 0] rfl) h
