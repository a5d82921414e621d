theorem kdS_X11_commonDivisor : yX11_commonDivisor.cls ≠ "java/lang/invoke/MethodHandle" ∧ yX11_commonDivisor.cls ≠ "java/lang/invoke/VarHandle" ∧ (parseMethodDescriptor yX11_commonDivisor.desc).map (fun d => d.parameters.length) = some 2 := by decide +kernel
abbrev rm_X11_leastTerm : Room := { frames := 1, cells := 0, slots := 0, locals := 30 }
set_option maxHeartbeats 4000000 in
set_option maxRecDepth 100000 in
theorem c_PL_leastTerm (l : Launch) (D : va_G) (cI cM cS cJ : ClassId) (sz : Nat) (x0 : Int64) (x2 : Int64) (x4 : Int32) {o : (Int64)} (hsem : S_PL_leastTerm x0 x2 x4 = some o) : kMet l yX11_leastTerm wsX11_leastTerm rm_X11_leastTerm [.long x0, .long x2, .int x4] D (kT cI cM cS cJ) (Wd0) sz (some (.long o)) (Wd0) := by
  refine k_metJ (by decide) rfl rfl (Nat.le_of_ble_eq_true rfl) ?_
  intro p e s m below meth c ls Q A hx hb hml hts hown hK hN hA hP hD hS hl hsz hnm hret
  have hown : s.vm.findClass RX11 = some m.cls := hown
  replace hl : lv_has ls 7 [(0, .long x0), (2, .long x2), (4, .int x4)] := hl
  have h := hsem
  clear hsem
  rw [S_PL_leastTerm] at h
  refine lv_lload_n hx hb dX11_leastTerm_0 rfl (lv_at hl 0 rfl) ?_
  refine lv_lload_n hx hb dX11_leastTerm_1 rfl (lv_at hl 1 rfl) ?_
  obtain ⟨r2, g2, h⟩ := k_bind h
  refine k_callS (As := [.long x0, .long x2]) (rest := []) (st1 := [.long r2]) (ws2 := (Wd0)) hx hb hml hown hts hK hN hA hP hD hS hl (c_PL_commonDivisor l D cI cM cS cJ s.heap.size x0 x2 g2) gX11_leastTerm_X11_commonDivisor rfl kdS_X11_commonDivisor [] ⟨rfl, rfl⟩ ⟨Nat.le_of_ble_eq_true rfl, Nat.le_of_ble_eq_true rfl⟩ ⟨Nat.zero_le _, Nat.zero_le _⟩ rfl rfl (by decide +kernel) (k_rp rfl (by decide +kernel)) rfl rfl (Nat.le_of_ble_eq_true rfl) dX11_leastTerm_2 rfl (fun H locs hP hD hS => ?_)
  refine lv_lstore (lv' := [(5, .long r2), (0, .long x0), (2, .long x2), (4, .int x4)]) hx hb dX11_leastTerm_5 hl (by decide) rfl (fun ls hl => ?_)
  refine lv_lload hx hb dX11_leastTerm_7 (lv_at hl 0 rfl) ?_
  refine lv_lconst (v := 0) hx hb dX11_leastTerm_9 (by decide) ?_
  refine W.lcmp hx hb dX11_leastTerm_10 ?_
  refine lv_if_ne (tgt := 18) hx hb dX11_leastTerm_11 (by decide) (fun c11 => ?_) (fun c11 => ?_)
  · have h := k_neg c11 h
    refine lv_iload hx hb dX11_leastTerm_18 (lv_at hl 3 rfl) ?_
    refine lv_if_ne (tgt := 30) hx hb dX11_leastTerm_20 (by decide) (fun c20 => ?_) (fun c20 => ?_)
    · have h := k_neg c20 h
      refine lv_lload_n hx hb dX11_leastTerm_30 rfl (lv_at hl 2 rfl) ?_
      refine lv_lload hx hb dX11_leastTerm_31 (lv_at hl 0 rfl) ?_
      obtain ⟨g33, h⟩ := k_guard h
      refine lv_ldiv hx hb dX11_leastTerm_33 g33 ?_
      have h := Option.some.inj h; subst h
      exact hret _ _ _ _ hP hS dX11_leastTerm_34
    · have h := k_pos c20 h
      refine lv_lload_n hx hb dX11_leastTerm_23 rfl (lv_at hl 1 rfl) ?_
      refine lv_lload hx hb dX11_leastTerm_24 (lv_at hl 0 rfl) ?_
      obtain ⟨g26, h⟩ := k_guard h
      refine lv_ldiv hx hb dX11_leastTerm_26 g26 ?_
      refine lv_goto (tgt := 34) hx hb dX11_leastTerm_27 (by decide) ?_
      have h := Option.some.inj h; subst h
      exact hret _ _ _ _ hP hS dX11_leastTerm_34
  · have h := k_pos c11 h
    refine lv_iload hx hb dX11_leastTerm_14 (lv_at hl 3 rfl) ?_
    refine lv_i2l (v := (x4 : Int32).toInt64) hx hb dX11_leastTerm_16 rfl ?_
    have h := Option.some.inj h; subst h
    exact hret _ _ _ _ hP hS dX11_leastTerm_17
theorem kdV_X5_shockedUpright : yX5_shockedUpright.cls = RX5 ∧ yX5_shockedUpright.cls ≠ "java/lang/invoke/MethodHandle" ∧ yX5_shockedUpright.cls ≠ "java/lang/invoke/VarHandle" ∧ (parseMethodDescriptor yX5_shockedUpright.desc).map (fun d => d.parameters.length) = some 3 := by decide +kernel
theorem kdS_X11_leastTerm : yX11_leastTerm.cls ≠ "java/lang/invoke/MethodHandle" ∧ yX11_leastTerm.cls ≠ "java/lang/invoke/VarHandle" ∧ (parseMethodDescriptor yX11_leastTerm.desc).map (fun d => d.parameters.length) = some 3 := by decide +kernel
abbrev rm_X11_shocks : Room := { frames := 5, cells := 0, slots := 0, locals := 132 }
set_option maxHeartbeats 4000000 in
set_option maxRecDepth 100000 in
theorem c_PL_shocks (l : Launch) (D : va_G) (cI cM cS cJ : ClassId) (aV : Nat → Nat) (aN : Nat → Nat) (aS : Nat → Nat) (aT : Nat → Nat) (aW : Nat → Nat) (aM : Nat → Nat) (aK : Nat → Nat) (sz : Nat) (x1 : Int32) (x2 : Int32) (x3 : Int32) (x4 : Int32) (v_hasImage : Int32) (nS : CS) (mS : CS) {o : (Int64) × (CS)} (hsem : S_PL_shocks x1 x2 x3 x4 nS mS = some o) : kMet l yX11_shocks wsX11_shocks rm_X11_shocks [.ref (aV 0), .int x1, .int x2, .int x3, .int x4] D (kT cI cM cS cJ) (Wd29 cI cM aV aN aS aT aW aM aK v_hasImage nS.1 nS.2.1 nS.2.2.1 nS.2.2.2.1 nS.2.2.2.2.1 nS.2.2.2.2.2.1 nS.2.2.2.2.2.2.1 nS.2.2.2.2.2.2.2.1 nS.2.2.2.2.2.2.2.2.1 nS.2.2.2.2.2.2.2.2.2.1 mS.1 mS.2.1 mS.2.2.1 mS.2.2.2.1 mS.2.2.2.2.1 mS.2.2.2.2.2.1 mS.2.2.2.2.2.2.1 mS.2.2.2.2.2.2.2.1 mS.2.2.2.2.2.2.2.2.1 mS.2.2.2.2.2.2.2.2.2.1) sz (some (.long o.1)) (Wd29 cI cM aV aN aS aT aW aM aK v_hasImage nS.1 nS.2.1 nS.2.2.1 nS.2.2.2.1 nS.2.2.2.2.1 nS.2.2.2.2.2.1 nS.2.2.2.2.2.2.1 nS.2.2.2.2.2.2.2.1 nS.2.2.2.2.2.2.2.2.1 nS.2.2.2.2.2.2.2.2.2.1 o.2.1 o.2.2.1 o.2.2.2.1 o.2.2.2.2.1 o.2.2.2.2.2.1 o.2.2.2.2.2.2.1 o.2.2.2.2.2.2.2.1 o.2.2.2.2.2.2.2.2.1 o.2.2.2.2.2.2.2.2.2.1 o.2.2.2.2.2.2.2.2.2.2.1) := by
  refine k_metJ (by decide) rfl rfl (Nat.le_of_ble_eq_true rfl) ?_
  intro p e s m below meth c ls Q A hx hb hml hts hown hK hN hA hP hD hS hl hsz hnm hret
  have hown : s.vm.findClass RX11 = some m.cls := hown
  have hf36 := hts (.fieldLink RX11 36 "PlumbLine" "now" "LPlumbLine$City;") (List.mem_of_getElem? (i := 1) rfl)
  have hf53 := hts (.fieldLink RX11 53 "PlumbLine" "mind" "LPlumbLine$Mind;") (List.mem_of_getElem? (i := 3) rfl)
  have hiX11 : ∀ w ∈ u_ws RX11 TX11 6, w ∈ wsX11_shocks := fun w h => List.mem_cons_of_mem _ (List.mem_append_left _ (List.mem_append_left _ (List.mem_append_right _ h)))
  replace hl : lv_has ls 5 [(0, .ref (aV 0)), (1, .int x1), (2, .int x2), (3, .int x3), (4, .int x4)] := hl
  have h := hsem
  clear hsem
  rw [S_PL_shocks] at h
  refine lv_aload_n hx hb dX11_shocks_0 rfl (lv_at hl 0 rfl) ?_
  refine va_get (D := D) (ci := 11) (v := .ref (aN 0)) (C := RX11) (T := TX11) (N := 6) hx hb hts hiX11 hown hK hP 0 rfl rfl 0 (by decide) hf36 (fun _ z => z) rfl dX11_shocks_1 ?_
  refine lv_iload_n hx hb dX11_shocks_4 rfl (lv_at hl 1 rfl) ?_
  refine k_callV (As := [.int x1]) (rest := []) (st1 := [.int (S_City_has x1 nS.1)]) (ws2 := (Wd29 cI cM aV aN aS aT aW aM aK v_hasImage nS.1 nS.2.1 nS.2.2.1 nS.2.2.2.1 nS.2.2.2.2.1 nS.2.2.2.2.2.1 nS.2.2.2.2.2.2.1 nS.2.2.2.2.2.2.2.1 nS.2.2.2.2.2.2.2.2.1 nS.2.2.2.2.2.2.2.2.2.1 mS.1 mS.2.1 mS.2.2.1 mS.2.2.2.1 mS.2.2.2.2.1 mS.2.2.2.2.2.1 mS.2.2.2.2.2.2.1 mS.2.2.2.2.2.2.2.1 mS.2.2.2.2.2.2.2.2.1 mS.2.2.2.2.2.2.2.2.2.1)) hx hb hml hown hts hK hN hA hP hD hS hl (c_City_has l D cI cM cS cJ aN aK s.heap.size x1 nS.1 nS.2.1 nS.2.2.1 nS.2.2.2.1 nS.2.2.2.2.1 nS.2.2.2.2.2.1 nS.2.2.2.2.2.2.1 rfl) gX11_shocks_X2_has rfl kdV_X2_has 0 2 rfl rfl rfl [1] ⟨rfl, rfl⟩ ⟨Nat.le_of_ble_eq_true rfl, Nat.le_of_ble_eq_true rfl⟩ ⟨Nat.zero_le _, Nat.zero_le _⟩ rfl rfl (by decide +kernel) (k_rp rfl (by decide +kernel)) rfl rfl (Nat.le_of_ble_eq_true rfl) dX11_shocks_5 rfl (fun H locs hP hD hS => ?_)
  refine lv_if_eq (tgt := 41) hx hb dX11_shocks_8 (by decide) (fun c8 => ?_) (fun c8 => ?_)
  · have h := k_pos c8 h
    refine lv_ldc2 (v := 1000000001) hx hb hown (hts (.constantLong RX11 229 1000000001) (List.mem_of_getElem? (i := 2) rfl)) dX11_shocks_41 ?_
    have h := Option.some.inj h; subst h
    exact hret _ _ _ _ hP hS dX11_shocks_44
  · have h := k_neg c8 h
    refine lv_iload_n hx hb dX11_shocks_11 rfl (lv_at hl 2 rfl) ?_
    refine lv_iconst (v := 0) hx hb dX11_shocks_12 (by decide) ?_
    refine lv_bipush (v := 7) hx hb dX11_shocks_13 (by decide) ?_
    refine k_callS (As := [.int x2, .int 0, .int 7]) (rest := []) (st1 := [.int (S_PL_isIn x2 0 7)]) (ws2 := (Wd29 cI cM aV aN aS aT aW aM aK v_hasImage nS.1 nS.2.1 nS.2.2.1 nS.2.2.2.1 nS.2.2.2.2.1 nS.2.2.2.2.2.1 nS.2.2.2.2.2.2.1 nS.2.2.2.2.2.2.2.1 nS.2.2.2.2.2.2.2.2.1 nS.2.2.2.2.2.2.2.2.2.1 mS.1 mS.2.1 mS.2.2.1 mS.2.2.2.1 mS.2.2.2.2.1 mS.2.2.2.2.2.1 mS.2.2.2.2.2.2.1 mS.2.2.2.2.2.2.2.1 mS.2.2.2.2.2.2.2.2.1 mS.2.2.2.2.2.2.2.2.2.1)) hx hb hml hown hts hK hN hA hP hD hS hl (c_PL_isIn l D cI cM cS cJ H.size x2 0 7 rfl) gX11_shocks_X11_isIn rfl kdS_X11_isIn [] ⟨rfl, rfl⟩ ⟨Nat.le_of_ble_eq_true rfl, Nat.le_of_ble_eq_true rfl⟩ ⟨Nat.zero_le _, Nat.zero_le _⟩ rfl rfl (by decide +kernel) (k_rp rfl (by decide +kernel)) rfl rfl (Nat.le_of_ble_eq_true rfl) dX11_shocks_15 rfl (fun H locs hP hD hS => ?_)
    refine lv_if_eq (tgt := 41) hx hb dX11_shocks_18 (by decide) (fun c18 => ?_) (fun c18 => ?_)
    · have h := k_pos c18 h
      refine lv_ldc2 (v := 1000000001) hx hb hown (hts (.constantLong RX11 229 1000000001) (List.mem_of_getElem? (i := 2) rfl)) dX11_shocks_41 ?_
      have h := Option.some.inj h; subst h
      exact hret _ _ _ _ hP hS dX11_shocks_44
    · have h := k_neg c18 h
      refine lv_iload_n hx hb dX11_shocks_21 rfl (lv_at hl 3 rfl) ?_
      refine lv_iconst (v := 2) hx hb dX11_shocks_22 (by decide) ?_
      refine lv_bipush (v := 20) hx hb dX11_shocks_23 (by decide) ?_
      refine k_callS (As := [.int x3, .int 2, .int 20]) (rest := []) (st1 := [.int (S_PL_isIn x3 2 20)]) (ws2 := (Wd29 cI cM aV aN aS aT aW aM aK v_hasImage nS.1 nS.2.1 nS.2.2.1 nS.2.2.2.1 nS.2.2.2.2.1 nS.2.2.2.2.2.1 nS.2.2.2.2.2.2.1 nS.2.2.2.2.2.2.2.1 nS.2.2.2.2.2.2.2.2.1 nS.2.2.2.2.2.2.2.2.2.1 mS.1 mS.2.1 mS.2.2.1 mS.2.2.2.1 mS.2.2.2.2.1 mS.2.2.2.2.2.1 mS.2.2.2.2.2.2.1 mS.2.2.2.2.2.2.2.1 mS.2.2.2.2.2.2.2.2.1 mS.2.2.2.2.2.2.2.2.2.1)) hx hb hml hown hts hK hN hA hP hD hS hl (c_PL_isIn l D cI cM cS cJ H.size x3 2 20 rfl) gX11_shocks_X11_isIn rfl kdS_X11_isIn [] ⟨rfl, rfl⟩ ⟨Nat.le_of_ble_eq_true rfl, Nat.le_of_ble_eq_true rfl⟩ ⟨Nat.zero_le _, Nat.zero_le _⟩ rfl rfl (by decide +kernel) (k_rp rfl (by decide +kernel)) rfl rfl (Nat.le_of_ble_eq_true rfl) dX11_shocks_25 rfl (fun H locs hP hD hS => ?_)
      refine lv_if_eq (tgt := 41) hx hb dX11_shocks_28 (by decide) (fun c28 => ?_) (fun c28 => ?_)
      · have h := k_pos c28 h
        refine lv_ldc2 (v := 1000000001) hx hb hown (hts (.constantLong RX11 229 1000000001) (List.mem_of_getElem? (i := 2) rfl)) dX11_shocks_41 ?_
        have h := Option.some.inj h; subst h
        exact hret _ _ _ _ hP hS dX11_shocks_44
      · have h := k_neg c28 h
        refine lv_iload hx hb dX11_shocks_31 (lv_at hl 4 rfl) ?_
        refine lv_iconst (v := 0) hx hb dX11_shocks_33 (by decide) ?_
        refine lv_iconst (v := 1) hx hb dX11_shocks_34 (by decide) ?_
        refine k_callS (As := [.int x4, .int 0, .int 1]) (rest := []) (st1 := [.int (S_PL_isIn x4 0 1)]) (ws2 := (Wd29 cI cM aV aN aS aT aW aM aK v_hasImage nS.1 nS.2.1 nS.2.2.1 nS.2.2.2.1 nS.2.2.2.2.1 nS.2.2.2.2.2.1 nS.2.2.2.2.2.2.1 nS.2.2.2.2.2.2.2.1 nS.2.2.2.2.2.2.2.2.1 nS.2.2.2.2.2.2.2.2.2.1 mS.1 mS.2.1 mS.2.2.1 mS.2.2.2.1 mS.2.2.2.2.1 mS.2.2.2.2.2.1 mS.2.2.2.2.2.2.1 mS.2.2.2.2.2.2.2.1 mS.2.2.2.2.2.2.2.2.1 mS.2.2.2.2.2.2.2.2.2.1)) hx hb hml hown hts hK hN hA hP hD hS hl (c_PL_isIn l D cI cM cS cJ H.size x4 0 1 rfl) gX11_shocks_X11_isIn rfl kdS_X11_isIn [] ⟨rfl, rfl⟩ ⟨Nat.le_of_ble_eq_true rfl, Nat.le_of_ble_eq_true rfl⟩ ⟨Nat.zero_le _, Nat.zero_le _⟩ rfl rfl (by decide +kernel) (k_rp rfl (by decide +kernel)) rfl rfl (Nat.le_of_ble_eq_true rfl) dX11_shocks_35 rfl (fun H locs hP hD hS => ?_)
        refine lv_if_ne (tgt := 45) hx hb dX11_shocks_38 (by decide) (fun c38 => ?_) (fun c38 => ?_)
        · have h := k_neg c38 h
          refine lv_aload_n hx hb dX11_shocks_45 rfl (lv_at hl 0 rfl) ?_
          refine va_get (D := D) (ci := 11) (v := .ref (aW 0)) (C := RX11) (T := TX11) (N := 6) hx hb hts hiX11 hown hK hP 0 rfl rfl 3 (by decide) hf53 (fun _ z => z) rfl dX11_shocks_46 ?_
          refine lv_iload_n hx hb dX11_shocks_49 rfl (lv_at hl 1 rfl) ?_
          refine lv_iload_n hx hb dX11_shocks_50 rfl (lv_at hl 2 rfl) ?_
          refine lv_iload_n hx hb dX11_shocks_51 rfl (lv_at hl 3 rfl) ?_
          obtain ⟨r52, g52, h⟩ := k_bind h
          refine k_callV (As := [.int x1, .int x2, .int x3]) (rest := []) (st1 := [.long r52.1]) (ws2 := (Wd29 cI cM aV aN aS aT aW aM aK v_hasImage nS.1 nS.2.1 nS.2.2.1 nS.2.2.2.1 nS.2.2.2.2.1 nS.2.2.2.2.2.1 nS.2.2.2.2.2.2.1 nS.2.2.2.2.2.2.2.1 nS.2.2.2.2.2.2.2.2.1 nS.2.2.2.2.2.2.2.2.2.1 r52.2.1 r52.2.2.1 r52.2.2.2.1 r52.2.2.2.2.1 r52.2.2.2.2.2.1 r52.2.2.2.2.2.2.1 r52.2.2.2.2.2.2.2.1 r52.2.2.2.2.2.2.2.2.1 r52.2.2.2.2.2.2.2.2.2.1 r52.2.2.2.2.2.2.2.2.2.2.1)) hx hb hml hown hts hK hN hA hP hD hS hl (c_Mind_shockedUpright l D cI cM cS cJ aN aW aM aK H.size x1 x2 x3 nS mS g52) gX11_shocks_X5_shockedUpright rfl kdV_X5_shockedUpright 0 5 rfl rfl rfl [5, 1, 2, 3, 4, 6, 7, 8, 9, 10, 11, 12, 13, 14, 15, 16, 17, 18] ⟨rfl, rfl⟩ ⟨Nat.le_of_ble_eq_true rfl, Nat.le_of_ble_eq_true rfl⟩ ⟨Nat.zero_le _, Nat.zero_le _⟩ rfl rfl (by decide +kernel) (k_rp rfl (by decide +kernel)) rfl rfl (Nat.le_of_ble_eq_true rfl) dX11_shocks_52 rfl (fun H locs hP hD hS => ?_)
          refine lv_iload_n hx hb dX11_shocks_55 rfl (lv_at hl 3 rfl) ?_
          refine lv_iload_n hx hb dX11_shocks_56 rfl (lv_at hl 2 rfl) ?_
          obtain ⟨r57, g57, h⟩ := k_bind h
          refine k_callS (As := [.int x3, .int x2]) (rest := [.long r52.1]) (st1 := [.long r57, .long r52.1]) (ws2 := (Wd29 cI cM aV aN aS aT aW aM aK v_hasImage nS.1 nS.2.1 nS.2.2.1 nS.2.2.2.1 nS.2.2.2.2.1 nS.2.2.2.2.2.1 nS.2.2.2.2.2.2.1 nS.2.2.2.2.2.2.2.1 nS.2.2.2.2.2.2.2.2.1 nS.2.2.2.2.2.2.2.2.2.1 r52.2.1 r52.2.2.1 r52.2.2.2.1 r52.2.2.2.2.1 r52.2.2.2.2.2.1 r52.2.2.2.2.2.2.1 r52.2.2.2.2.2.2.2.1 r52.2.2.2.2.2.2.2.2.1 r52.2.2.2.2.2.2.2.2.2.1 r52.2.2.2.2.2.2.2.2.2.2.1)) hx hb hml hown hts hK hN hA hP hD hS hl (c_PL_power l D cI cM cS cJ H.size x3 x2 g57) gX11_shocks_X11_power rfl kdS_X11_power [] ⟨rfl, rfl⟩ ⟨Nat.le_of_ble_eq_true rfl, Nat.le_of_ble_eq_true rfl⟩ ⟨Nat.zero_le _, Nat.zero_le _⟩ rfl rfl (by decide +kernel) (k_rp rfl (by decide +kernel)) rfl rfl (Nat.le_of_ble_eq_true rfl) dX11_shocks_57 rfl (fun H locs hP hD hS => ?_)
          refine lv_iload hx hb dX11_shocks_60 (lv_at hl 4 rfl) ?_
          obtain ⟨r62, g62, h⟩ := k_bind h
          refine k_callS (As := [.long r52.1, .long r57, .int x4]) (rest := []) (st1 := [.long r62]) (ws2 := (Wd29 cI cM aV aN aS aT aW aM aK v_hasImage nS.1 nS.2.1 nS.2.2.1 nS.2.2.2.1 nS.2.2.2.2.1 nS.2.2.2.2.2.1 nS.2.2.2.2.2.2.1 nS.2.2.2.2.2.2.2.1 nS.2.2.2.2.2.2.2.2.1 nS.2.2.2.2.2.2.2.2.2.1 r52.2.1 r52.2.2.1 r52.2.2.2.1 r52.2.2.2.2.1 r52.2.2.2.2.2.1 r52.2.2.2.2.2.2.1 r52.2.2.2.2.2.2.2.1 r52.2.2.2.2.2.2.2.2.1 r52.2.2.2.2.2.2.2.2.2.1 r52.2.2.2.2.2.2.2.2.2.2.1)) hx hb hml hown hts hK hN hA hP hD hS hl (c_PL_leastTerm l D cI cM cS cJ H.size r52.1 r57 x4 g62) gX11_shocks_X11_leastTerm rfl kdS_X11_leastTerm [] ⟨rfl, rfl⟩ ⟨Nat.le_of_ble_eq_true rfl, Nat.le_of_ble_eq_true rfl⟩ ⟨Nat.zero_le _, Nat.zero_le _⟩ rfl rfl (by decide +kernel) (k_rp rfl (by decide +kernel)) rfl rfl (Nat.le_of_ble_eq_true rfl) dX11_shocks_62 rfl (fun H locs hP hD hS => ?_)
          have h := Option.some.inj h; subst h
          exact hret _ _ _ _ hP hS dX11_shocks_65
        · have h := k_pos c38 h
          refine lv_ldc2 (v := 1000000001) hx hb hown (hts (.constantLong RX11 229 1000000001) (List.mem_of_getElem? (i := 2) rfl)) dX11_shocks_41 ?_
          have h := Option.some.inj h; subst h
          exact hret _ _ _ _ hP hS dX11_shocks_44
abbrev rm_X11_mean : Room := { frames := 2, cells := 0, slots := 0, locals := 56 }
set_option maxHeartbeats 4000000 in
set_option maxRecDepth 100000 in
theorem c_PL_mean (l : Launch) (D : va_G) (cI cM cS cJ : ClassId) (aV : Nat → Nat) (aN : Nat → Nat) (aS : Nat → Nat) (aT : Nat → Nat) (aW : Nat → Nat) (aK : Nat → Nat) (sz : Nat) (x1 : Int32) (v_hasImage : Int32) (nS : CS) {o : (Int64)} (hsem : S_PL_mean x1 nS = some o) : kMet l yX11_mean wsX11_mean rm_X11_mean [.ref (aV 0), .int x1] D (kT cI cM cS cJ) (Wd25 cI aV aN aS aT aW aK v_hasImage nS.1 nS.2.1 nS.2.2.1 nS.2.2.2.1 nS.2.2.2.2.1 nS.2.2.2.2.2.1 nS.2.2.2.2.2.2.1 nS.2.2.2.2.2.2.2.2.2.1) sz (some (.long o)) (Wd25 cI aV aN aS aT aW aK v_hasImage nS.1 nS.2.1 nS.2.2.1 nS.2.2.2.1 nS.2.2.2.2.1 nS.2.2.2.2.2.1 nS.2.2.2.2.2.2.1 nS.2.2.2.2.2.2.2.2.2.1) := by
  refine k_metJ (by decide) rfl rfl (Nat.le_of_ble_eq_true rfl) ?_
  intro p e s m below meth c ls Q A hx hb hml hts hown hK hN hA hP hD hS hl hsz hnm hret
  have hown : s.vm.findClass RX11 = some m.cls := hown
  have hf36 := hts (.fieldLink RX11 36 "PlumbLine" "now" "LPlumbLine$City;") (List.mem_of_getElem? (i := 2) rfl)
  have hf135 := hts (.fieldLink RX11 135 "PlumbLine$City" "men" "I") (List.mem_of_getElem? (i := 3) rfl)
  have hiX11 : ∀ w ∈ u_ws RX11 TX11 6, w ∈ wsX11_mean := fun w h => List.mem_cons_of_mem _ (List.mem_append_left _ (List.mem_append_right _ h))
  have hiX2 : ∀ w ∈ u_ws RX2 TX2 12, w ∈ wsX11_mean := fun w h => List.mem_cons_of_mem _ (List.mem_append_right _ h)
  replace hl : lv_has ls 2 [(0, .ref (aV 0)), (1, .int x1)] := hl
  have h := hsem
  clear hsem
  rw [S_PL_mean] at h
  refine lv_iload_n hx hb dX11_mean_0 rfl (lv_at hl 1 rfl) ?_
  refine lv_iconst (v := 0) hx hb dX11_mean_1 (by decide) ?_
  refine lv_iconst (v := 1) hx hb dX11_mean_2 (by decide) ?_
  refine k_callS (As := [.int x1, .int 0, .int 1]) (rest := []) (st1 := [.int (S_PL_isIn x1 0 1)]) (ws2 := (Wd25 cI aV aN aS aT aW aK v_hasImage nS.1 nS.2.1 nS.2.2.1 nS.2.2.2.1 nS.2.2.2.2.1 nS.2.2.2.2.2.1 nS.2.2.2.2.2.2.1 nS.2.2.2.2.2.2.2.2.2.1)) hx hb hml hown hts hK hN hA hP hD hS hl (c_PL_isIn l D cI cM cS cJ s.heap.size x1 0 1 rfl) gX11_mean_X11_isIn rfl kdS_X11_isIn [] ⟨rfl, rfl⟩ ⟨Nat.le_of_ble_eq_true rfl, Nat.le_of_ble_eq_true rfl⟩ ⟨Nat.zero_le _, Nat.zero_le _⟩ rfl rfl (by decide +kernel) (k_rp rfl (by decide +kernel)) rfl rfl (Nat.le_of_ble_eq_true rfl) dX11_mean_3 rfl (fun H locs hP hD hS => ?_)
  refine lv_if_ne (tgt := 13) hx hb dX11_mean_6 (by decide) (fun c6 => ?_) (fun c6 => ?_)
  · have h := k_neg c6 h
    refine lv_aload_n hx hb dX11_mean_13 rfl (lv_at hl 0 rfl) ?_
    refine va_get (D := D) (ci := 11) (v := .ref (aN 0)) (C := RX11) (T := TX11) (N := 6) hx hb hts hiX11 hown hK hP 0 rfl rfl 0 (by decide) hf36 (fun _ z => z) rfl dX11_mean_14 ?_
    refine va_get (D := D) (ci := 2) (v := .int nS.1) (C := RX2) (T := TX2) (N := 12) hx hb hts hiX2 hown hK hP 1 rfl rfl 3 (by decide) hf135 (fun _ z => z) rfl dX11_mean_17 ?_
    refine lv_if_ne (tgt := 26) hx hb dX11_mean_20 (by decide) (fun c20 => ?_) (fun c20 => ?_)
    · have h := k_neg c20 h
      refine lv_aload_n hx hb dX11_mean_26 rfl (lv_at hl 0 rfl) ?_
      refine va_get (D := D) (ci := 11) (v := .ref (aN 0)) (C := RX11) (T := TX11) (N := 6) hx hb hts hiX11 hown hK hP 0 rfl rfl 0 (by decide) hf36 (fun _ z => z) rfl dX11_mean_27 ?_
      obtain ⟨r30, g30, h⟩ := k_bind h
      refine k_callV (As := []) (rest := []) (st1 := [.int r30]) (ws2 := (Wd25 cI aV aN aS aT aW aK v_hasImage nS.1 nS.2.1 nS.2.2.1 nS.2.2.2.1 nS.2.2.2.2.1 nS.2.2.2.2.2.1 nS.2.2.2.2.2.2.1 nS.2.2.2.2.2.2.2.2.2.1)) hx hb hml hown hts hK hN hA hP hD hS hl (c_City_sumOfLeans l D cI cM cS cJ aN aK H.size nS.1 nS.2.1 nS.2.2.1 nS.2.2.2.1 nS.2.2.2.2.1 nS.2.2.2.2.2.1 nS.2.2.2.2.2.2.1 nS.2.2.2.2.2.2.2.2.2.1 g30) gX11_mean_X2_sumOfLeans rfl kdV_X2_sumOfLeans 0 2 rfl rfl rfl [1, 2] ⟨rfl, rfl⟩ ⟨Nat.le_of_ble_eq_true rfl, Nat.le_of_ble_eq_true rfl⟩ ⟨Nat.zero_le _, Nat.zero_le _⟩ rfl rfl (by decide +kernel) (k_rp rfl (by decide +kernel)) rfl rfl (Nat.le_of_ble_eq_true rfl) dX11_mean_30 rfl (fun H locs hP hD hS => ?_)
      refine lv_bipush (v := 45) hx hb dX11_mean_33 (by decide) ?_
      refine lv_aload_n hx hb dX11_mean_35 rfl (lv_at hl 0 rfl) ?_
      refine va_get (D := D) (ci := 11) (v := .ref (aN 0)) (C := RX11) (T := TX11) (N := 6) hx hb hts hiX11 hown hK hP 0 rfl rfl 0 (by decide) hf36 (fun _ z => z) rfl dX11_mean_36 ?_
      refine va_get (D := D) (ci := 2) (v := .int nS.1) (C := RX2) (T := TX2) (N := 12) hx hb hts hiX2 hown hK hP 1 rfl rfl 3 (by decide) hf135 (fun _ z => z) rfl dX11_mean_39 ?_
      refine lv_imul hx hb dX11_mean_42 ?_
      refine lv_iadd hx hb dX11_mean_43 ?_
      refine lv_i2l (v := ((r30 + ((45 : Int32) * nS.1)) : Int32).toInt64) hx hb dX11_mean_44 rfl ?_
      refine lv_aload_n hx hb dX11_mean_45 rfl (lv_at hl 0 rfl) ?_
      refine va_get (D := D) (ci := 11) (v := .ref (aN 0)) (C := RX11) (T := TX11) (N := 6) hx hb hts hiX11 hown hK hP 0 rfl rfl 0 (by decide) hf36 (fun _ z => z) rfl dX11_mean_46 ?_
      refine va_get (D := D) (ci := 2) (v := .int nS.1) (C := RX2) (T := TX2) (N := 12) hx hb hts hiX2 hown hK hP 1 rfl rfl 3 (by decide) hf135 (fun _ z => z) rfl dX11_mean_49 ?_
      refine lv_i2l (v := (nS.1 : Int32).toInt64) hx hb dX11_mean_52 rfl ?_
      refine lv_iload_n hx hb dX11_mean_53 rfl (lv_at hl 1 rfl) ?_
      obtain ⟨r54, g54, h⟩ := k_bind h
      refine k_callS (As := [.long ((r30 + ((45 : Int32) * nS.1)) : Int32).toInt64, .long (nS.1 : Int32).toInt64, .int x1]) (rest := []) (st1 := [.long r54]) (ws2 := (Wd25 cI aV aN aS aT aW aK v_hasImage nS.1 nS.2.1 nS.2.2.1 nS.2.2.2.1 nS.2.2.2.2.1 nS.2.2.2.2.2.1 nS.2.2.2.2.2.2.1 nS.2.2.2.2.2.2.2.2.2.1)) hx hb hml hown hts hK hN hA hP hD hS hl (c_PL_leastTerm l D cI cM cS cJ H.size (((r30 + ((45 : Int32) * nS.1)) : Int32).toInt64) ((nS.1 : Int32).toInt64) x1 g54) gX11_mean_X11_leastTerm rfl kdS_X11_leastTerm [] ⟨rfl, rfl⟩ ⟨Nat.le_of_ble_eq_true rfl, Nat.le_of_ble_eq_true rfl⟩ ⟨Nat.zero_le _, Nat.zero_le _⟩ rfl rfl (by decide +kernel) (k_rp rfl (by decide +kernel)) rfl rfl (Nat.le_of_ble_eq_true rfl) dX11_mean_54 rfl (fun H locs hP hD hS => ?_)
      have h := Option.some.inj h; subst h
      exact hret _ _ _ _ hP hS dX11_mean_57
    · have h := k_pos c20 h
      refine lv_iload_n hx hb dX11_mean_23 rfl (lv_at hl 1 rfl) ?_
      refine lv_i2l (v := (x1 : Int32).toInt64) hx hb dX11_mean_24 rfl ?_
      have h := Option.some.inj h; subst h
      exact hret _ _ _ _ hP hS dX11_mean_25
  · have h := k_pos c6 h
    refine lv_ldc2 (v := 1000000001) hx hb hown (hts (.constantLong RX11 229 1000000001) (List.mem_of_getElem? (i := 1) rfl)) dX11_mean_9 ?_
    have h := Option.some.inj h; subst h
    exact hret _ _ _ _ hP hS dX11_mean_12
abbrev Wd34 (cI : ClassId) (aD : Nat → Nat) (aV : Nat → Nat) (aN : Nat → Nat) (aS : Nat → Nat) (aT : Nat → Nat) (aW : Nat → Nat) (aK : Nat → Nat) (v_hasImage : Int32) (n_men : Int32) (n_propped : Int32) (n_place : Int32) (n_swings : Int32) (n_crashes : Int32) (n_day : Int32) (n_crashedToday : Int32) (n_lean : Nat → Int32) (d_kind : Int32) (d_figure : Int32) (d_sort : Int32) (d_size : Int32) (d_held : Int32) (d_el : Nat → Int32) : va_W := [((aV 0), .inr (11, [.ref (aN 0), .ref (aS 0), .ref (aT 0), .ref (aW 0), .ref (aV 1), .int v_hasImage])), ((aN 0), .inr (2, [.ref (aN 1), .ref (aN 2), .ref (aN 3), .int n_men, .int n_propped, .int n_place, .int n_swings, .int n_crashes, .int n_day, .int n_crashedToday, .ref (aK 8), .ref (aN 4)])), ((aN 3), .inl (cI, 8, .inl n_lean)), ((aD 0), .inr (9, [.ref (aD 1), .int d_kind, .int d_figure, .int d_sort, .int d_size, .int d_held, .ref (aK 8)])), ((aD 1), .inl (cI, 100, .inl d_el))]
abbrev rm_X11_firstForged : Room := { frames := 1, cells := 0, slots := 0, locals := 21 }
set_option maxHeartbeats 4000000 in
set_option maxRecDepth 100000 in
theorem c_PL_firstForged (l : Launch) (D : va_G) (cI cM cS cJ : ClassId) (aD : Nat → Nat) (aV : Nat → Nat) (aN : Nat → Nat) (aS : Nat → Nat) (aT : Nat → Nat) (aW : Nat → Nat) (aK : Nat → Nat) (sz : Nat) (v_hasImage : Int32) (nS : CS) (d_kind : Int32) (d_figure : Int32) (d_sort : Int32) (d_size : Int32) (d_held : Int32) (d_el : Nat → Int32) {o : (Int32)} (hsem : S_PL_firstForged nS d_size d_el = some o) : kMet l yX11_firstForged wsX11_firstForged rm_X11_firstForged [.ref (aV 0), .ref (aD 0)] D (kT cI cM cS cJ) (Wd34 cI aD aV aN aS aT aW aK v_hasImage nS.1 nS.2.1 nS.2.2.1 nS.2.2.2.1 nS.2.2.2.2.1 nS.2.2.2.2.2.1 nS.2.2.2.2.2.2.1 nS.2.2.2.2.2.2.2.2.2.1 d_kind d_figure d_sort d_size d_held d_el) sz (some (.int o)) (Wd34 cI aD aV aN aS aT aW aK v_hasImage nS.1 nS.2.1 nS.2.2.1 nS.2.2.2.1 nS.2.2.2.2.1 nS.2.2.2.2.2.1 nS.2.2.2.2.2.2.1 nS.2.2.2.2.2.2.2.2.2.1 d_kind d_figure d_sort d_size d_held d_el) := by
  refine k_metI (by decide) rfl rfl (Nat.le_of_ble_eq_true rfl) ?_
  intro p e s m below meth c ls Q A hx hb hml hts hown hK hN hA hP hD hS hl hsz hnm hret
  have hown : s.vm.findClass RX11 = some m.cls := hown
  have hf80 := hts (.fieldLink RX11 80 "PlumbLine$Shelf" "size" "I") (List.mem_of_getElem? (i := 1) rfl)
  have hf36 := hts (.fieldLink RX11 36 "PlumbLine" "now" "LPlumbLine$City;") (List.mem_of_getElem? (i := 2) rfl)
  have hf88 := hts (.fieldLink RX11 88 "PlumbLine$Shelf" "elements" "[I") (List.mem_of_getElem? (i := 3) rfl)
  have hf99 := hts (.fieldLink RX11 99 "PlumbLine$City" "lean" "[I") (List.mem_of_getElem? (i := 4) rfl)
  have hiX11 : ∀ w ∈ u_ws RX11 TX11 6, w ∈ wsX11_firstForged := fun w h => List.mem_cons_of_mem _ (List.mem_append_left _ (List.mem_append_right _ h))
  have hiX2 : ∀ w ∈ u_ws RX2 TX2 12, w ∈ wsX11_firstForged := fun w h => List.mem_cons_of_mem _ (List.mem_append_right _ h)
  have hiX9 : ∀ w ∈ u_ws RX9 TX9 7, w ∈ wsX11_firstForged := fun w h => List.mem_cons_of_mem _ (List.mem_append_left _ (List.mem_append_left _ (List.mem_append_right _ h)))
  replace hl : lv_has ls 3 [(0, .ref (aV 0)), (1, .ref (aD 0))] := hl
  have h := hsem
  clear hsem
  rw [S_PL_firstForged] at h
  refine lv_iconst (v := 0) hx hb dX11_firstForged_0 (by decide) ?_
  have B2 : ∀ (n2 : Nat) (y2 : Int32) (H : Heap) (locs : List Loc) (ls : Array Slot), va_P D vwCl (Wd34 cI aD aV aN aS aT aW aK v_hasImage nS.1 nS.2.1 nS.2.2.1 nS.2.2.2.1 nS.2.2.2.2.1 nS.2.2.2.2.2.1 nS.2.2.2.2.2.2.1 nS.2.2.2.2.2.2.2.2.2.1 d_kind d_figure d_sort d_size d_held d_el) H → va_D A (Wd34 cI aD aV aN aS aT aW aK v_hasImage nS.1 nS.2.1 nS.2.2.1 nS.2.2.2.1 nS.2.2.2.2.1 nS.2.2.2.2.2.1 nS.2.2.2.2.2.2.1 nS.2.2.2.2.2.2.2.2.2.1 d_kind d_figure d_sort d_size d_held d_el) → va_S A s.heap H locs → lv_has ls 3 [(0, .ref (aV 0)), (1, .ref (aD 0)), (2, .int y2)] → S_PL_firstForged_L2 nS d_size d_el n2 y2 = some o → W p l e rm_X11_firstForged s m ([.ref (aV 0), .ref (aD 0)] : List Value).toArray below meth c H locs 0 0 Q (F0 m 2 ls []) := by
    intro n2
    induction n2 with
    | zero => intro y2 H locs ls hP hD hS hl h; exact absurd h (by simp [S_PL_firstForged_L2])
    | succ n2 ih2 =>
      intro y2 H locs ls hP hD hS hl h
      rw [S_PL_firstForged_L2] at h
      refine lv_iload_n hx hb dX11_firstForged_2 rfl (lv_at hl 2 rfl) ?_
      refine lv_aload_n hx hb dX11_firstForged_3 rfl (lv_at hl 1 rfl) ?_
      refine va_get (D := D) (ci := 9) (v := .int d_size) (C := RX9) (T := TX9) (N := 7) hx hb hts hiX9 hown hK hP 3 rfl rfl 4 (by decide) hf80 (fun _ z => z) rfl dX11_firstForged_4 ?_
      refine lv_icmp_ge (tgt := 47) hx hb dX11_firstForged_7 (by decide) (fun c7 => ?_) (fun c7 => ?_)
      · have h := k_pos c7 h
        refine lv_bipush (v := (-4)) hx hb dX11_firstForged_47 (by decide) ?_
        have h := Option.some.inj h; subst h
        exact hret _ _ _ _ hP hS dX11_firstForged_49
      · have h := k_neg c7 h
        refine lv_aload_n hx hb dX11_firstForged_10 rfl (lv_at hl 0 rfl) ?_
        refine va_get (D := D) (ci := 11) (v := .ref (aN 0)) (C := RX11) (T := TX11) (N := 6) hx hb hts hiX11 hown hK hP 0 rfl rfl 0 (by decide) hf36 (fun _ z => z) rfl dX11_firstForged_11 ?_
        refine lv_iload_n hx hb dX11_firstForged_14 rfl (lv_at hl 2 rfl) ?_
        refine k_callV (As := [.int y2]) (rest := []) (st1 := [.int (S_City_has y2 nS.1)]) (ws2 := (Wd34 cI aD aV aN aS aT aW aK v_hasImage nS.1 nS.2.1 nS.2.2.1 nS.2.2.2.1 nS.2.2.2.2.1 nS.2.2.2.2.2.1 nS.2.2.2.2.2.2.1 nS.2.2.2.2.2.2.2.2.2.1 d_kind d_figure d_sort d_size d_held d_el)) hx hb hml hown hts hK hN hA hP hD hS hl (c_City_has l D cI cM cS cJ aN aK H.size y2 nS.1 nS.2.1 nS.2.2.1 nS.2.2.2.1 nS.2.2.2.2.1 nS.2.2.2.2.2.1 nS.2.2.2.2.2.2.1 rfl) gX11_firstForged_X2_has rfl kdV_X2_has 0 2 rfl rfl rfl [1] ⟨rfl, rfl⟩ ⟨Nat.le_of_ble_eq_true rfl, Nat.le_of_ble_eq_true rfl⟩ ⟨Nat.zero_le _, Nat.zero_le _⟩ rfl rfl (by decide +kernel) (k_rp rfl (by decide +kernel)) rfl rfl (Nat.le_of_ble_eq_true rfl) dX11_firstForged_15 rfl (fun H locs hP hD hS => ?_)
        refine lv_if_eq (tgt := 39) hx hb dX11_firstForged_18 (by decide) (fun c18 => ?_) (fun c18 => ?_)
        · have h := k_pos c18 h
          refine lv_iload_n hx hb dX11_firstForged_39 rfl (lv_at hl 2 rfl) ?_
          have h := Option.some.inj h; subst h
          exact hret _ _ _ _ hP hS dX11_firstForged_40
        · have h := k_neg c18 h
          refine lv_aload_n hx hb dX11_firstForged_21 rfl (lv_at hl 1 rfl) ?_
          refine va_get (D := D) (ci := 9) (v := .ref (aD 1)) (C := RX9) (T := TX9) (N := 7) hx hb hts hiX9 hown hK hP 3 rfl rfl 0 (by decide) hf88 (fun _ z => z) rfl dX11_firstForged_22 ?_
          refine lv_iload_n hx hb dX11_firstForged_25 rfl (lv_at hl 2 rfl) ?_
          obtain ⟨g26, h⟩ := k_guard h
          refine va_iald hx hb hK hP 4 0 rfl rfl g26 dX11_firstForged_26 ?_
          refine lv_aload_n hx hb dX11_firstForged_27 rfl (lv_at hl 0 rfl) ?_
          refine va_get (D := D) (ci := 11) (v := .ref (aN 0)) (C := RX11) (T := TX11) (N := 6) hx hb hts hiX11 hown hK hP 0 rfl rfl 0 (by decide) hf36 (fun _ z => z) rfl dX11_firstForged_28 ?_
          refine va_get (D := D) (ci := 2) (v := .ref (aN 3)) (C := RX2) (T := TX2) (N := 12) hx hb hts hiX2 hown hK hP 1 rfl rfl 2 (by decide) hf99 (fun _ z => z) rfl dX11_firstForged_31 ?_
          refine lv_iload_n hx hb dX11_firstForged_34 rfl (lv_at hl 2 rfl) ?_
          obtain ⟨g35, h⟩ := k_guard h
          refine va_iald hx hb hK hP 2 0 rfl rfl g35 dX11_firstForged_35 ?_
          refine lv_icmp_eq (tgt := 41) hx hb dX11_firstForged_36 (by decide) (fun c36 => ?_) (fun c36 => ?_)
          · have h := k_pos c36 h
            refine lv_iinc (v := (y2 + 1)) (lv' := [(2, .int (y2 + 1)), (0, .ref (aV 0)), (1, .ref (aD 0))]) hx hb dX11_firstForged_41 hl (k := 2) rfl (by first | rfl | decide) (by decide) rfl (fun ls hl => ?_)
            refine lv_goto (tgt := 2) hx hb dX11_firstForged_44 (by decide) ?_
            exact ih2 (y2 + 1) H locs ls hP hD hS (lv_sub hl [1, 2, 0] rfl) h
          · have h := k_neg c36 h
            refine lv_iload_n hx hb dX11_firstForged_39 rfl (lv_at hl 2 rfl) ?_
            have h := Option.some.inj h; subst h
            exact hret _ _ _ _ hP hS dX11_firstForged_40
  refine lv_istore_n (lv' := [(2, .int 0), (0, .ref (aV 0)), (1, .ref (aD 0))]) hx hb dX11_firstForged_1 rfl hl (by decide) rfl (fun ls hl => ?_)
  exact B2 lfu 0 s.heap [] ls hP hD hS (lv_sub hl [1, 2, 0] rfl) h
abbrev Wd35 (cI : ClassId) (cS : ClassId) (aV : Nat → Nat) (aN : Nat → Nat) (aS : Nat → Nat) (aT : Nat → Nat) (aW : Nat → Nat) (aK : Nat → Nat) (aH : Nat → Nat → Nat) (dn : Nat) (v_hasImage : Int32) (n_men : Int32) (n_propped : Int32) (n_place : Int32) (n_swings : Int32) (n_crashes : Int32) (n_day : Int32) (n_crashedToday : Int32) (n_lean : Nat → Int32) (d_kind : Int32) (d_figure : Int32) (d_sort : Int32) (d_size : Int32) (d_held : Int32) (d_el : Nat → Int32) : va_W := [((aV 0), .inr (11, [.ref (aN 0), .ref (aS 0), .ref (aT 0), .ref (aW 0), .ref (aV 1), .int v_hasImage])), ((aV 1), .inl (cS, 8, .inr (.inr (.inr (.inr (fun k => some (aH k 0))))))), ((aN 0), .inr (2, [.ref (aN 1), .ref (aN 2), .ref (aN 3), .int n_men, .int n_propped, .int n_place, .int n_swings, .int n_crashes, .int n_day, .int n_crashedToday, .ref (aK 8), .ref (aN 4)])), ((aN 3), .inl (cI, 8, .inl n_lean)), (((aH dn) 0), .inr (9, [.ref ((aH dn) 1), .int d_kind, .int d_figure, .int d_sort, .int d_size, .int d_held, .ref (aK 8)])), (((aH dn) 1), .inl (cI, 100, .inl d_el))]
theorem kdV_X11_firstForged : yX11_firstForged.cls = RX11 ∧ yX11_firstForged.cls ≠ "java/lang/invoke/MethodHandle" ∧ yX11_firstForged.cls ≠ "java/lang/invoke/VarHandle" ∧ (parseMethodDescriptor yX11_firstForged.desc).map (fun d => d.parameters.length) = some 1 := by decide +kernel
abbrev rm_X11_forged : Room := { frames := 3, cells := 0, slots := 0, locals := 63 }
set_option maxHeartbeats 4000000 in
set_option maxRecDepth 100000 in
theorem c_PL_forged (l : Launch) (D : va_G) (cI cM cS cJ : ClassId) (aV : Nat → Nat) (aN : Nat → Nat) (aS : Nat → Nat) (aT : Nat → Nat) (aW : Nat → Nat) (aK : Nat → Nat) (aH : Nat → Nat → Nat) (dn : Nat) (sz : Nat) (x1 : Int32) (v_hasImage : Int32) (nS : CS) (d_kind : Int32) (d_figure : Int32) (d_sort : Int32) (d_size : Int32) (d_held : Int32) (d_el : Nat → Int32) (hdn : ¬ (x1 < 0 ∨ 8 ≤ x1.toNatClampNeg) → x1.toNatClampNeg = dn) {o : (Int32)} (hsem : S_PL_forged x1 nS d_size d_held d_el = some o) : kMet l yX11_forged wsX11_forged rm_X11_forged [.ref (aV 0), .int x1] D (kT cI cM cS cJ) (Wd35 cI cS aV aN aS aT aW aK aH dn v_hasImage nS.1 nS.2.1 nS.2.2.1 nS.2.2.2.1 nS.2.2.2.2.1 nS.2.2.2.2.2.1 nS.2.2.2.2.2.2.1 nS.2.2.2.2.2.2.2.2.2.1 d_kind d_figure d_sort d_size d_held d_el) sz (some (.int o)) (Wd35 cI cS aV aN aS aT aW aK aH dn v_hasImage nS.1 nS.2.1 nS.2.2.1 nS.2.2.2.1 nS.2.2.2.2.1 nS.2.2.2.2.2.1 nS.2.2.2.2.2.2.1 nS.2.2.2.2.2.2.2.2.2.1 d_kind d_figure d_sort d_size d_held d_el) := by
  refine k_metI (by decide) rfl rfl (Nat.le_of_ble_eq_true rfl) ?_
  intro p e s m below meth c ls Q A hx hb hml hts hown hK hN hA hP hD hS hl hsz hnm hret
  have hown : s.vm.findClass RX11 = some m.cls := hown
  have hf59 := hts (.fieldLink RX11 59 "PlumbLine" "shelves" "[LPlumbLine$Shelf;") (List.mem_of_getElem? (i := 1) rfl)
  have hiX11 : ∀ w ∈ u_ws RX11 TX11 6, w ∈ wsX11_forged := fun w h => List.mem_cons_of_mem _ (List.mem_append_left _ (List.mem_append_left _ (List.mem_append_right _ h)))
  replace hl : lv_has ls 3 [(0, .ref (aV 0)), (1, .int x1)] := hl
  have h := hsem
  clear hsem
  rw [S_PL_forged] at h
  refine lv_aload_n hx hb dX11_forged_0 rfl (lv_at hl 0 rfl) ?_
  refine lv_iload_n hx hb dX11_forged_1 rfl (lv_at hl 1 rfl) ?_
  obtain ⟨r2, g2, h⟩ := k_bind h
  refine k_callV (As := [.int x1]) (rest := []) (st1 := [.int r2]) (ws2 := (Wd35 cI cS aV aN aS aT aW aK aH dn v_hasImage nS.1 nS.2.1 nS.2.2.1 nS.2.2.2.1 nS.2.2.2.2.1 nS.2.2.2.2.2.1 nS.2.2.2.2.2.2.1 nS.2.2.2.2.2.2.2.2.2.1 d_kind d_figure d_sort d_size d_held d_el)) hx hb hml hown hts hK hN hA hP hD hS hl (c_PL_refusalOfRow l D cI cM cS cJ aV aN aS aT aW aK aH dn s.heap.size x1 v_hasImage d_kind d_figure d_sort d_size d_held hdn g2) gX11_forged_X11_refusalOfRow rfl kdV_X11_refusalOfRow 0 11 rfl rfl rfl [0, 1, 4] ⟨rfl, rfl⟩ ⟨Nat.le_of_ble_eq_true rfl, Nat.le_of_ble_eq_true rfl⟩ ⟨Nat.zero_le _, Nat.zero_le _⟩ rfl rfl (by decide +kernel) (k_rp rfl (by decide +kernel)) rfl rfl (Nat.le_of_ble_eq_true rfl) dX11_forged_2 rfl (fun H locs hP hD hS => ?_)
  refine lv_istore_n (lv' := [(2, .int r2), (0, .ref (aV 0)), (1, .int x1)]) hx hb dX11_forged_5 rfl hl (by decide) rfl (fun ls hl => ?_)
  refine lv_iload_n hx hb dX11_forged_6 rfl (lv_at hl 0 rfl) ?_
  refine lv_if_eq (tgt := 14) hx hb dX11_forged_7 (by decide) (fun c7 => ?_) (fun c7 => ?_)
  · have h := k_pos c7 h
    refine lv_aload_n hx hb dX11_forged_14 rfl (lv_at hl 1 rfl) ?_
    refine lv_aload_n hx hb dX11_forged_15 rfl (lv_at hl 1 rfl) ?_
    refine va_get (D := D) (ci := 11) (v := .ref (aV 1)) (C := RX11) (T := TX11) (N := 6) hx hb hts hiX11 hown hK hP 0 rfl rfl 4 (by decide) hf59 (fun _ z => z) rfl dX11_forged_16 ?_
    refine lv_iload_n hx hb dX11_forged_19 rfl (lv_at hl 2 rfl) ?_
    obtain ⟨g20, h⟩ := k_guard h
    refine k_aldR (f := fun k => aH k 0) hx hb hK hP 1 2 rfl rfl g20 dX11_forged_20 ?_
    rw [show x1.toNatClampNeg = dn from hdn g20]
    obtain ⟨r21, g21, h⟩ := k_bind h
    refine k_callV (As := [.ref ((aH dn) 0)]) (rest := []) (st1 := [.int r21]) (ws2 := (Wd35 cI cS aV aN aS aT aW aK aH dn v_hasImage nS.1 nS.2.1 nS.2.2.1 nS.2.2.2.1 nS.2.2.2.2.1 nS.2.2.2.2.2.1 nS.2.2.2.2.2.2.1 nS.2.2.2.2.2.2.2.2.2.1 d_kind d_figure d_sort d_size d_held d_el)) hx hb hml hown hts hK hN hA hP hD hS hl (c_PL_firstForged l D cI cM cS cJ (aH dn) aV aN aS aT aW aK H.size v_hasImage nS d_kind d_figure d_sort d_size d_held d_el g21) gX11_forged_X11_firstForged rfl kdV_X11_firstForged 0 11 rfl rfl rfl [0, 2, 3, 4, 5] ⟨rfl, rfl⟩ ⟨Nat.le_of_ble_eq_true rfl, Nat.le_of_ble_eq_true rfl⟩ ⟨Nat.zero_le _, Nat.zero_le _⟩ rfl rfl (by decide +kernel) (k_rp rfl (by decide +kernel)) rfl rfl (Nat.le_of_ble_eq_true rfl) dX11_forged_21 rfl (fun H locs hP hD hS => ?_)
    have h := Option.some.inj h; subst h
    exact hret _ _ _ _ hP hS dX11_forged_24
  · have h := k_neg c7 h
    refine lv_iload_n hx hb dX11_forged_10 rfl (lv_at hl 0 rfl) ?_
    refine lv_goto (tgt := 24) hx hb dX11_forged_11 (by decide) ?_
    have h := Option.some.inj h; subst h
    exact hret _ _ _ _ hP hS dX11_forged_24
theorem kdV_X5_firstMisjudged : yX5_firstMisjudged.cls = RX5 ∧ yX5_firstMisjudged.cls ≠ "java/lang/invoke/MethodHandle" ∧ yX5_firstMisjudged.cls ≠ "java/lang/invoke/VarHandle" ∧ (parseMethodDescriptor yX5_firstMisjudged.desc).map (fun d => d.parameters.length) = some 1 := by decide +kernel
abbrev rm_X11_judge : Room := { frames := 5, cells := 0, slots := 0, locals := 127 }
set_option maxHeartbeats 4000000 in
set_option maxRecDepth 100000 in
theorem c_PL_judge (l : Launch) (D : va_G) (cI cM cS cJ : ClassId) (aV : Nat → Nat) (aN : Nat → Nat) (aS : Nat → Nat) (aT : Nat → Nat) (aW : Nat → Nat) (aM : Nat → Nat) (aK : Nat → Nat) (aH : Nat → Nat → Nat) (dn : Nat) (sz : Nat) (x1 : Int32) (v_hasImage : Int32) (nS : CS) (mS : CS) (d_kind : Int32) (d_figure : Int32) (d_sort : Int32) (d_size : Int32) (d_held : Int32) (d_el : Nat → Int32) (hdn : ¬ (x1 < 0 ∨ 8 ≤ x1.toNatClampNeg) → x1.toNatClampNeg = dn) {o : (Int32) × (CS)} (hsem : S_PL_judge x1 nS mS d_sort d_size d_held d_el = some o) : kMet l yX11_judge wsX11_judge rm_X11_judge [.ref (aV 0), .int x1] D (kT cI cM cS cJ) (Wd32 cI cM cS aV aN aS aT aW aM aK aH dn v_hasImage nS.1 nS.2.1 nS.2.2.1 nS.2.2.2.1 nS.2.2.2.2.1 nS.2.2.2.2.2.1 nS.2.2.2.2.2.2.1 nS.2.2.2.2.2.2.2.1 nS.2.2.2.2.2.2.2.2.1 nS.2.2.2.2.2.2.2.2.2.1 mS.1 mS.2.1 mS.2.2.1 mS.2.2.2.1 mS.2.2.2.2.1 mS.2.2.2.2.2.1 mS.2.2.2.2.2.2.1 mS.2.2.2.2.2.2.2.1 mS.2.2.2.2.2.2.2.2.1 mS.2.2.2.2.2.2.2.2.2.1 d_kind d_figure d_sort d_size d_held d_el) sz (some (.int o.1)) (Wd32 cI cM cS aV aN aS aT aW aM aK aH dn v_hasImage nS.1 nS.2.1 nS.2.2.1 nS.2.2.2.1 nS.2.2.2.2.1 nS.2.2.2.2.2.1 nS.2.2.2.2.2.2.1 nS.2.2.2.2.2.2.2.1 nS.2.2.2.2.2.2.2.2.1 nS.2.2.2.2.2.2.2.2.2.1 o.2.1 o.2.2.1 o.2.2.2.1 o.2.2.2.2.1 o.2.2.2.2.2.1 o.2.2.2.2.2.2.1 o.2.2.2.2.2.2.2.1 o.2.2.2.2.2.2.2.2.1 o.2.2.2.2.2.2.2.2.2.1 o.2.2.2.2.2.2.2.2.2.2.1 d_kind d_figure d_sort d_size d_held d_el) := by
  refine k_metI (by decide) rfl rfl (Nat.le_of_ble_eq_true rfl) ?_
  intro p e s m below meth c ls Q A hx hb hml hts hown hK hN hA hP hD hS hl hsz hnm hret
  have hown : s.vm.findClass RX11 = some m.cls := hown
  have hf53 := hts (.fieldLink RX11 53 "PlumbLine" "mind" "LPlumbLine$Mind;") (List.mem_of_getElem? (i := 1) rfl)
  have hf59 := hts (.fieldLink RX11 59 "PlumbLine" "shelves" "[LPlumbLine$Shelf;") (List.mem_of_getElem? (i := 2) rfl)
  have hiX11 : ∀ w ∈ u_ws RX11 TX11 6, w ∈ wsX11_judge := fun w h => List.mem_cons_of_mem _ (List.mem_append_left _ (List.mem_append_left _ (List.mem_append_left _ (List.mem_append_right _ h))))
  replace hl : lv_has ls 3 [(0, .ref (aV 0)), (1, .int x1)] := hl
  have h := hsem
  clear hsem
  rw [S_PL_judge] at h
  refine lv_aload_n hx hb dX11_judge_0 rfl (lv_at hl 0 rfl) ?_
  refine lv_iload_n hx hb dX11_judge_1 rfl (lv_at hl 1 rfl) ?_
  obtain ⟨r2, g2, h⟩ := k_bind h
  refine k_callV (As := [.int x1]) (rest := []) (st1 := [.int r2]) (ws2 := (Wd32 cI cM cS aV aN aS aT aW aM aK aH dn v_hasImage nS.1 nS.2.1 nS.2.2.1 nS.2.2.2.1 nS.2.2.2.2.1 nS.2.2.2.2.2.1 nS.2.2.2.2.2.2.1 nS.2.2.2.2.2.2.2.1 nS.2.2.2.2.2.2.2.2.1 nS.2.2.2.2.2.2.2.2.2.1 mS.1 mS.2.1 mS.2.2.1 mS.2.2.2.1 mS.2.2.2.2.1 mS.2.2.2.2.2.1 mS.2.2.2.2.2.2.1 mS.2.2.2.2.2.2.2.1 mS.2.2.2.2.2.2.2.2.1 mS.2.2.2.2.2.2.2.2.2.1 d_kind d_figure d_sort d_size d_held d_el)) hx hb hml hown hts hK hN hA hP hD hS hl (c_PL_refusalOfRow l D cI cM cS cJ aV aN aS aT aW aK aH dn s.heap.size x1 v_hasImage d_kind d_figure d_sort d_size d_held hdn g2) gX11_judge_X11_refusalOfRow rfl kdV_X11_refusalOfRow 0 11 rfl rfl rfl [0, 1, 11] ⟨rfl, rfl⟩ ⟨Nat.le_of_ble_eq_true rfl, Nat.le_of_ble_eq_true rfl⟩ ⟨Nat.zero_le _, Nat.zero_le _⟩ rfl rfl (by decide +kernel) (k_rp rfl (by decide +kernel)) rfl rfl (Nat.le_of_ble_eq_true rfl) dX11_judge_2 rfl (fun H locs hP hD hS => ?_)
  refine lv_istore_n (lv' := [(2, .int r2), (0, .ref (aV 0)), (1, .int x1)]) hx hb dX11_judge_5 rfl hl (by decide) rfl (fun ls hl => ?_)
  refine lv_iload_n hx hb dX11_judge_6 rfl (lv_at hl 0 rfl) ?_
  refine lv_if_eq (tgt := 14) hx hb dX11_judge_7 (by decide) (fun c7 => ?_) (fun c7 => ?_)
  · have h := k_pos c7 h
    refine lv_aload_n hx hb dX11_judge_14 rfl (lv_at hl 1 rfl) ?_
    refine va_get (D := D) (ci := 11) (v := .ref (aW 0)) (C := RX11) (T := TX11) (N := 6) hx hb hts hiX11 hown hK hP 0 rfl rfl 3 (by decide) hf53 (fun _ z => z) rfl dX11_judge_15 ?_
    refine lv_aload_n hx hb dX11_judge_18 rfl (lv_at hl 1 rfl) ?_
    refine va_get (D := D) (ci := 11) (v := .ref (aV 1)) (C := RX11) (T := TX11) (N := 6) hx hb hts hiX11 hown hK hP 0 rfl rfl 4 (by decide) hf59 (fun _ z => z) rfl dX11_judge_19 ?_
    refine lv_iload_n hx hb dX11_judge_22 rfl (lv_at hl 2 rfl) ?_
    obtain ⟨g23, h⟩ := k_guard h
    refine k_aldR (f := fun k => aH k 0) hx hb hK hP 1 2 rfl rfl g23 dX11_judge_23 ?_
    rw [show x1.toNatClampNeg = dn from hdn g23]
    obtain ⟨r24, g24, h⟩ := k_bind h
    refine k_callV (As := [.ref ((aH dn) 0)]) (rest := []) (st1 := [.int r24.1]) (ws2 := (Wd32 cI cM cS aV aN aS aT aW aM aK aH dn v_hasImage nS.1 nS.2.1 nS.2.2.1 nS.2.2.2.1 nS.2.2.2.2.1 nS.2.2.2.2.2.1 nS.2.2.2.2.2.2.1 nS.2.2.2.2.2.2.2.1 nS.2.2.2.2.2.2.2.2.1 nS.2.2.2.2.2.2.2.2.2.1 r24.2.1 r24.2.2.1 r24.2.2.2.1 r24.2.2.2.2.1 r24.2.2.2.2.2.1 r24.2.2.2.2.2.2.1 r24.2.2.2.2.2.2.2.1 r24.2.2.2.2.2.2.2.2.1 r24.2.2.2.2.2.2.2.2.2.1 r24.2.2.2.2.2.2.2.2.2.2.1 d_kind d_figure d_sort d_size d_held d_el)) hx hb hml hown hts hK hN hA hP hD hS hl (c_Mind_firstMisjudged l D cI cM cS cJ (aH dn) aN aW aM aK H.size nS mS d_kind d_figure d_sort d_size d_held d_el g24) gX11_judge_X5_firstMisjudged rfl kdV_X5_firstMisjudged 0 5 rfl rfl rfl [6, 2, 3, 4, 5, 7, 8, 9, 10, 11, 12, 13, 14, 15, 16, 17, 18, 19, 20, 21] ⟨rfl, rfl⟩ ⟨Nat.le_of_ble_eq_true rfl, Nat.le_of_ble_eq_true rfl⟩ ⟨Nat.zero_le _, Nat.zero_le _⟩ rfl rfl (by decide +kernel) (k_rp rfl (by decide +kernel)) rfl rfl (Nat.le_of_ble_eq_true rfl) dX11_judge_24 rfl (fun H locs hP hD hS => ?_)
    have h := Option.some.inj h; subst h
    exact hret _ _ _ _ hP hS dX11_judge_27
  · have h := k_neg c7 h
    refine lv_iload_n hx hb dX11_judge_10 rfl (lv_at hl 0 rfl) ?_
    refine lv_goto (tgt := 27) hx hb dX11_judge_11 (by decide) ?_
    have h := Option.some.inj h; subst h
    exact hret _ _ _ _ hP hS dX11_judge_27
