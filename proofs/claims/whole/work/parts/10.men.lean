abbrev Wd0 : va_W := []
abbrev rm_J6_bitCount_0f7a4 : Room := { frames := 0, cells := 0, slots := 0, locals := 0 }
set_option maxHeartbeats 4000000 in
set_option maxRecDepth 100000 in
theorem c_J_bitCount (l : Launch) (D : va_G) (cI cM cS cJ : ClassId) (sz : Nat) (x0 : Int32) {o : (Int32)} (hsem : S_J_bitCount x0 = o) : kMet l yJ6_bitCount_0f7a4 wsJ6_bitCount_0f7a4 rm_J6_bitCount_0f7a4 [.int x0] D (kT cI cM cS cJ) (Wd0) sz (some (.int o)) (Wd0) := by
  refine k_metI (by decide) rfl rfl (Nat.le_of_ble_eq_true rfl) ?_
  intro p e s m below meth c ls Q A hx hb hml hts hown hK hN hA hP hD hS hl hsz hnm hret
  have hown : s.vm.findClass RJ6 = some m.cls := hown
  replace hl : lv_has ls 1 [(0, .int x0)] := hl
  have h := hsem
  clear hsem
  rw [S_J_bitCount] at h
  refine lv_iload_n hx hb dJ6_bitCount_0f7a4_0 rfl (lv_at hl 0 rfl) ?_
  refine lv_iload_n hx hb dJ6_bitCount_0f7a4_1 rfl (lv_at hl 0 rfl) ?_
  refine lv_iconst (v := 1) hx hb dJ6_bitCount_0f7a4_2 (by decide) ?_
  refine lv_iushr (v := (x0.toUInt32 >>> (((1 : Int32)).toUInt32 &&& Int32.toUInt32 31)).toInt32) hx hb dJ6_bitCount_0f7a4_3 rfl ?_
  refine lv_ldcw (v := 1431655765) hx hb hown (hts (.constant RJ6 265 1431655765) (List.mem_of_getElem? (i := 1) rfl)) dJ6_bitCount_0f7a4_4 ?_
  refine lv_iand hx hb dJ6_bitCount_0f7a4_7 ?_
  refine lv_isub hx hb dJ6_bitCount_0f7a4_8 ?_
  have B10 : ∀ (y0 : Int32) (H : Heap) (locs : List Loc) (ls : Array Slot), va_P D vwCl (Wd0) H → va_D A (Wd0) → va_S A s.heap H locs → lv_has ls 1 [(0, .int y0)] → S_J_bitCount_J10 y0 = o → W p l e rm_J6_bitCount_0f7a4 s m ([.int x0] : List Value).toArray below meth c H locs 0 0 Q (F0 m 10 ls []) := by
    intro y0 H locs ls hP hD hS hl h
    rw [S_J_bitCount_J10] at h
    refine lv_iload_n hx hb dJ6_bitCount_0f7a4_10 rfl (lv_at hl 0 rfl) ?_
    refine lv_ldcw (v := 858993459) hx hb hown (hts (.constant RJ6 266 858993459) (List.mem_of_getElem? (i := 2) rfl)) dJ6_bitCount_0f7a4_11 ?_
    refine lv_iand hx hb dJ6_bitCount_0f7a4_14 ?_
    refine lv_iload_n hx hb dJ6_bitCount_0f7a4_15 rfl (lv_at hl 0 rfl) ?_
    refine lv_iconst (v := 2) hx hb dJ6_bitCount_0f7a4_16 (by decide) ?_
    refine lv_iushr (v := (y0.toUInt32 >>> (((2 : Int32)).toUInt32 &&& Int32.toUInt32 31)).toInt32) hx hb dJ6_bitCount_0f7a4_17 rfl ?_
    refine lv_ldcw (v := 858993459) hx hb hown (hts (.constant RJ6 266 858993459) (List.mem_of_getElem? (i := 2) rfl)) dJ6_bitCount_0f7a4_18 ?_
    refine lv_iand hx hb dJ6_bitCount_0f7a4_21 ?_
    refine lv_iadd hx hb dJ6_bitCount_0f7a4_22 ?_
    have B24 : ∀ (y0 : Int32) (H : Heap) (locs : List Loc) (ls : Array Slot), va_P D vwCl (Wd0) H → va_D A (Wd0) → va_S A s.heap H locs → lv_has ls 1 [(0, .int y0)] → S_J_bitCount_J24 y0 = o → W p l e rm_J6_bitCount_0f7a4 s m ([.int x0] : List Value).toArray below meth c H locs 0 0 Q (F0 m 24 ls []) := by
      intro y0 H locs ls hP hD hS hl h
      rw [S_J_bitCount_J24] at h
      refine lv_iload_n hx hb dJ6_bitCount_0f7a4_24 rfl (lv_at hl 0 rfl) ?_
      refine lv_iload_n hx hb dJ6_bitCount_0f7a4_25 rfl (lv_at hl 0 rfl) ?_
      refine lv_iconst (v := 4) hx hb dJ6_bitCount_0f7a4_26 (by decide) ?_
      refine lv_iushr (v := (y0.toUInt32 >>> (((4 : Int32)).toUInt32 &&& Int32.toUInt32 31)).toInt32) hx hb dJ6_bitCount_0f7a4_27 rfl ?_
      refine lv_iadd hx hb dJ6_bitCount_0f7a4_28 ?_
      refine lv_ldcw (v := 252645135) hx hb hown (hts (.constant RJ6 267 252645135) (List.mem_of_getElem? (i := 3) rfl)) dJ6_bitCount_0f7a4_29 ?_
      refine lv_iand hx hb dJ6_bitCount_0f7a4_32 ?_
      have B34 : ∀ (y0 : Int32) (H : Heap) (locs : List Loc) (ls : Array Slot), va_P D vwCl (Wd0) H → va_D A (Wd0) → va_S A s.heap H locs → lv_has ls 1 [(0, .int y0)] → S_J_bitCount_J34 y0 = o → W p l e rm_J6_bitCount_0f7a4 s m ([.int x0] : List Value).toArray below meth c H locs 0 0 Q (F0 m 34 ls []) := by
        intro y0 H locs ls hP hD hS hl h
        rw [S_J_bitCount_J34] at h
        refine lv_iload_n hx hb dJ6_bitCount_0f7a4_34 rfl (lv_at hl 0 rfl) ?_
        refine lv_iload_n hx hb dJ6_bitCount_0f7a4_35 rfl (lv_at hl 0 rfl) ?_
        refine lv_bipush (v := 8) hx hb dJ6_bitCount_0f7a4_36 (by decide) ?_
        refine lv_iushr (v := (y0.toUInt32 >>> (((8 : Int32)).toUInt32 &&& Int32.toUInt32 31)).toInt32) hx hb dJ6_bitCount_0f7a4_38 rfl ?_
        refine lv_iadd hx hb dJ6_bitCount_0f7a4_39 ?_
        have B41 : ∀ (y0 : Int32) (H : Heap) (locs : List Loc) (ls : Array Slot), va_P D vwCl (Wd0) H → va_D A (Wd0) → va_S A s.heap H locs → lv_has ls 1 [(0, .int y0)] → S_J_bitCount_J41 y0 = o → W p l e rm_J6_bitCount_0f7a4 s m ([.int x0] : List Value).toArray below meth c H locs 0 0 Q (F0 m 41 ls []) := by
          intro y0 H locs ls hP hD hS hl h
          rw [S_J_bitCount_J41] at h
          refine lv_iload_n hx hb dJ6_bitCount_0f7a4_41 rfl (lv_at hl 0 rfl) ?_
          refine lv_iload_n hx hb dJ6_bitCount_0f7a4_42 rfl (lv_at hl 0 rfl) ?_
          refine lv_bipush (v := 16) hx hb dJ6_bitCount_0f7a4_43 (by decide) ?_
          refine lv_iushr (v := (y0.toUInt32 >>> (((16 : Int32)).toUInt32 &&& Int32.toUInt32 31)).toInt32) hx hb dJ6_bitCount_0f7a4_45 rfl ?_
          refine lv_iadd hx hb dJ6_bitCount_0f7a4_46 ?_
          have B48 : ∀ (y0 : Int32) (H : Heap) (locs : List Loc) (ls : Array Slot), va_P D vwCl (Wd0) H → va_D A (Wd0) → va_S A s.heap H locs → lv_has ls 1 [(0, .int y0)] → S_J_bitCount_J48 y0 = o → W p l e rm_J6_bitCount_0f7a4 s m ([.int x0] : List Value).toArray below meth c H locs 0 0 Q (F0 m 48 ls []) := by
            intro y0 H locs ls hP hD hS hl h
            rw [S_J_bitCount_J48] at h
            refine lv_iload_n hx hb dJ6_bitCount_0f7a4_48 rfl (lv_at hl 0 rfl) ?_
            refine lv_bipush (v := 63) hx hb dJ6_bitCount_0f7a4_49 (by decide) ?_
            refine lv_iand hx hb dJ6_bitCount_0f7a4_51 ?_
            cases h
            exact hret _ _ _ _ hP hS dJ6_bitCount_0f7a4_52
          refine lv_istore_n (lv' := [(0, .int (y0 + (y0.toUInt32 >>> (((16 : Int32)).toUInt32 &&& Int32.toUInt32 31)).toInt32))]) hx hb dJ6_bitCount_0f7a4_47 rfl hl (by decide) rfl (fun ls hl => ?_)
          exact B48 (y0 + (y0.toUInt32 >>> (((16 : Int32)).toUInt32 &&& Int32.toUInt32 31)).toInt32) H locs ls hP hD hS hl h
        refine lv_istore_n (lv' := [(0, .int (y0 + (y0.toUInt32 >>> (((8 : Int32)).toUInt32 &&& Int32.toUInt32 31)).toInt32))]) hx hb dJ6_bitCount_0f7a4_40 rfl hl (by decide) rfl (fun ls hl => ?_)
        exact B41 (y0 + (y0.toUInt32 >>> (((8 : Int32)).toUInt32 &&& Int32.toUInt32 31)).toInt32) H locs ls hP hD hS hl h
      refine lv_istore_n (lv' := [(0, .int ((y0 + (y0.toUInt32 >>> (((4 : Int32)).toUInt32 &&& Int32.toUInt32 31)).toInt32) &&& 252645135))]) hx hb dJ6_bitCount_0f7a4_33 rfl hl (by decide) rfl (fun ls hl => ?_)
      exact B34 ((y0 + (y0.toUInt32 >>> (((4 : Int32)).toUInt32 &&& Int32.toUInt32 31)).toInt32) &&& 252645135) H locs ls hP hD hS hl h
    refine lv_istore_n (lv' := [(0, .int ((y0 &&& 858993459) + ((y0.toUInt32 >>> (((2 : Int32)).toUInt32 &&& Int32.toUInt32 31)).toInt32 &&& 858993459)))]) hx hb dJ6_bitCount_0f7a4_23 rfl hl (by decide) rfl (fun ls hl => ?_)
    exact B24 ((y0 &&& 858993459) + ((y0.toUInt32 >>> (((2 : Int32)).toUInt32 &&& Int32.toUInt32 31)).toInt32 &&& 858993459)) H locs ls hP hD hS hl h
  refine lv_istore_n (lv' := [(0, .int (x0 - ((x0.toUInt32 >>> (((1 : Int32)).toUInt32 &&& Int32.toUInt32 31)).toInt32 &&& 1431655765)))]) hx hb dJ6_bitCount_0f7a4_9 rfl hl (by decide) rfl (fun ls hl => ?_)
  exact B10 (x0 - ((x0.toUInt32 >>> (((1 : Int32)).toUInt32 &&& Int32.toUInt32 31)).toInt32 &&& 1431655765)) s.heap [] ls hP hD hS hl h
abbrev rm_X11_isIn : Room := { frames := 0, cells := 0, slots := 0, locals := 0 }
set_option maxHeartbeats 4000000 in
set_option maxRecDepth 100000 in
theorem c_PL_isIn (l : Launch) (D : va_G) (cI cM cS cJ : ClassId) (sz : Nat) (x0 : Int32) (x1 : Int32) (x2 : Int32) {o : (Int32)} (hsem : S_PL_isIn x0 x1 x2 = o) : kMet l yX11_isIn wsX11_isIn rm_X11_isIn [.int x0, .int x1, .int x2] D (kT cI cM cS cJ) (Wd0) sz (some (.int o)) (Wd0) := by
  refine k_metZ (by decide) rfl rfl (Nat.le_of_ble_eq_true rfl) ?_
  intro p e s m below meth c ls Q A hx hb hml hts hown hK hN hA hP hD hS hl hsz hnm hret
  have hown : s.vm.findClass RX11 = some m.cls := hown
  replace hl : lv_has ls 3 [(0, .int x0), (1, .int x1), (2, .int x2)] := hl
  have h := hsem
  clear hsem
  rw [S_PL_isIn] at h
  refine lv_iload_n hx hb dX11_isIn_0 rfl (lv_at hl 0 rfl) ?_
  refine lv_iload_n hx hb dX11_isIn_1 rfl (lv_at hl 1 rfl) ?_
  refine lv_icmp_lt (tgt := 14) hx hb dX11_isIn_2 (by decide) (fun c2 => ?_) (fun c2 => ?_)
  · have h := k_pos c2 h
    refine lv_iconst (v := 0) hx hb dX11_isIn_14 (by decide) ?_
    subst h
    exact hret _ _ _ _ rfl hP hS dX11_isIn_15
  · have h := k_neg c2 h
    refine lv_iload_n hx hb dX11_isIn_5 rfl (lv_at hl 0 rfl) ?_
    refine lv_iload_n hx hb dX11_isIn_6 rfl (lv_at hl 2 rfl) ?_
    refine lv_icmp_gt (tgt := 14) hx hb dX11_isIn_7 (by decide) (fun c7 => ?_) (fun c7 => ?_)
    · have h := k_pos c7 h
      refine lv_iconst (v := 0) hx hb dX11_isIn_14 (by decide) ?_
      subst h
      exact hret _ _ _ _ rfl hP hS dX11_isIn_15
    · have h := k_neg c7 h
      refine lv_iconst (v := 1) hx hb dX11_isIn_10 (by decide) ?_
      refine lv_goto (tgt := 15) hx hb dX11_isIn_11 (by decide) ?_
      subst h
      exact hret _ _ _ _ rfl hP hS dX11_isIn_15
theorem kdS_X11_isIn : yX11_isIn.cls ≠ "java/lang/invoke/MethodHandle" ∧ yX11_isIn.cls ≠ "java/lang/invoke/VarHandle" ∧ (parseMethodDescriptor yX11_isIn.desc).map (fun d => d.parameters.length) = some 3 := by decide +kernel
abbrev rm_X11_isShelf : Room := { frames := 1, cells := 0, slots := 0, locals := 22 }
set_option maxHeartbeats 4000000 in
set_option maxRecDepth 100000 in
theorem c_PL_isShelf (l : Launch) (D : va_G) (cI cM cS cJ : ClassId) (sz : Nat) (x0 : Int32) {o : (Int32)} (hsem : S_PL_isShelf x0 = some o) : kMet l yX11_isShelf wsX11_isShelf rm_X11_isShelf [.int x0] D (kT cI cM cS cJ) (Wd0) sz (some (.int o)) (Wd0) := by
  refine k_metZ (by decide) rfl rfl (Nat.le_of_ble_eq_true rfl) ?_
  intro p e s m below meth c ls Q A hx hb hml hts hown hK hN hA hP hD hS hl hsz hnm hret
  have hown : s.vm.findClass RX11 = some m.cls := hown
  replace hl : lv_has ls 1 [(0, .int x0)] := hl
  have h := hsem
  clear hsem
  rw [S_PL_isShelf] at h
  refine lv_iload_n hx hb dX11_isShelf_0 rfl (lv_at hl 0 rfl) ?_
  refine lv_iconst (v := 0) hx hb dX11_isShelf_1 (by decide) ?_
  refine lv_bipush (v := 7) hx hb dX11_isShelf_2 (by decide) ?_
  refine k_callS (As := [.int x0, .int 0, .int 7]) (rest := []) (st1 := [.int (S_PL_isIn x0 0 7)]) (ws2 := (Wd0)) hx hb hml hown hts hK hN hA hP hD hS hl (c_PL_isIn l D cI cM cS cJ s.heap.size x0 0 7 rfl) gX11_isShelf_X11_isIn rfl kdS_X11_isIn [] ⟨rfl, rfl⟩ ⟨Nat.le_of_ble_eq_true rfl, Nat.le_of_ble_eq_true rfl⟩ ⟨Nat.zero_le _, Nat.zero_le _⟩ rfl rfl (by decide +kernel) rfl rfl rfl (Nat.le_of_ble_eq_true rfl) dX11_isShelf_4 rfl (fun H locs hP hD hS => ?_)
  obtain ⟨g7, h⟩ := k_guard h
  have h := Option.some.inj h; subst h
  exact hret _ _ _ _ (k_z01 g7) hP hS dX11_isShelf_7
abbrev rm_X4_stepTowards : Room := { frames := 0, cells := 0, slots := 0, locals := 0 }
set_option maxHeartbeats 4000000 in
set_option maxRecDepth 100000 in
theorem c_Man_stepTowards (l : Launch) (D : va_G) (cI cM cS cJ : ClassId) (sz : Nat) (x0 : Int32) (x1 : Int32) (x2 : Int32) {o : (Int32)} (hsem : S_Man_stepTowards x0 x1 x2 = o) : kMet l yX4_stepTowards wsX4_stepTowards rm_X4_stepTowards [.int x0, .int x1, .int x2] D (kT cI cM cS cJ) (Wd0) sz (some (.int o)) (Wd0) := by
  refine k_metI (by decide) rfl rfl (Nat.le_of_ble_eq_true rfl) ?_
  intro p e s m below meth c ls Q A hx hb hml hts hown hK hN hA hP hD hS hl hsz hnm hret
  have hown : s.vm.findClass RX4 = some m.cls := hown
  replace hl : lv_has ls 4 [(0, .int x0), (1, .int x1), (2, .int x2)] := hl
  have h := hsem
  clear hsem
  rw [S_Man_stepTowards] at h
  refine lv_iload_n hx hb dX4_stepTowards_0 rfl (lv_at hl 1 rfl) ?_
  refine lv_iload_n hx hb dX4_stepTowards_1 rfl (lv_at hl 0 rfl) ?_
  refine lv_isub hx hb dX4_stepTowards_2 ?_
  refine lv_istore_n (lv' := [(3, .int (x1 - x0)), (0, .int x0), (1, .int x1), (2, .int x2)]) hx hb dX4_stepTowards_3 rfl hl (by decide) rfl (fun ls hl => ?_)
  refine lv_iload_n hx hb dX4_stepTowards_4 rfl (lv_at hl 0 rfl) ?_
  refine lv_iload_n hx hb dX4_stepTowards_5 rfl (lv_at hl 3 rfl) ?_
  refine lv_icmp_le (tgt := 11) hx hb dX4_stepTowards_6 (by decide) (fun c6 => ?_) (fun c6 => ?_)
  · have h := k_pos c6 h
    refine lv_iload_n hx hb dX4_stepTowards_11 rfl (lv_at hl 0 rfl) ?_
    refine lv_iload_n hx hb dX4_stepTowards_12 rfl (lv_at hl 3 rfl) ?_
    refine lv_ineg hx hb dX4_stepTowards_13 ?_
    refine lv_icmp_ge (tgt := 22) hx hb dX4_stepTowards_14 (by decide) (fun c14 => ?_) (fun c14 => ?_)
    · have h := k_pos c14 h
      refine lv_iload_n hx hb dX4_stepTowards_22 rfl (lv_at hl 0 rfl) ?_
      cases h
      exact hret _ _ _ _ hP hS dX4_stepTowards_23
    · have h := k_neg c14 h
      refine lv_iload_n hx hb dX4_stepTowards_17 rfl (lv_at hl 3 rfl) ?_
      refine lv_ineg hx hb dX4_stepTowards_18 ?_
      refine lv_goto (tgt := 23) hx hb dX4_stepTowards_19 (by decide) ?_
      cases h
      exact hret _ _ _ _ hP hS dX4_stepTowards_23
  · have h := k_neg c6 h
    refine lv_iload_n hx hb dX4_stepTowards_9 rfl (lv_at hl 3 rfl) ?_
    cases h
    exact hret _ _ _ _ hP hS dX4_stepTowards_10
abbrev Wd1 (h0 : Nat) (ci : Nat) : va_W := [(h0, .inr (ci, []))]
abbrev rm_X4_discountAt : Room := { frames := 0, cells := 0, slots := 0, locals := 0 }
set_option maxHeartbeats 4000000 in
set_option maxRecDepth 100000 in
theorem c_Man_discountAt (l : Launch) (D : va_G) (cI cM cS cJ : ClassId) (h0 : Nat) (ci : Nat) (sz : Nat) (x1 : Int32) (x2 : Int32) {o : (Int32)} (hsem : S_Man_discountAt x1 x2 = o) : kMet l yX4_discountAt wsX4_discountAt rm_X4_discountAt [.ref h0, .int x1, .int x2] D (kT cI cM cS cJ) (Wd1 h0 ci) sz (some (.int o)) (Wd1 h0 ci) := by
  refine k_metI (by decide) rfl rfl (Nat.le_of_ble_eq_true rfl) ?_
  intro p e s m below meth c ls Q A hx hb hml hts hown hK hN hA hP hD hS hl hsz hnm hret
  have hown : s.vm.findClass RX4 = some m.cls := hown
  replace hl : lv_has ls 3 [(0, .ref h0), (1, .int x1), (2, .int x2)] := hl
  have h := hsem
  clear hsem
  rw [S_Man_discountAt] at h
  refine lv_iload_n hx hb dX4_discountAt_0 rfl (lv_at hl 1 rfl) ?_
  cases h
  exact hret _ _ _ _ hP hS dX4_discountAt_1
abbrev rm_X0_discountAt : Room := { frames := 0, cells := 0, slots := 0, locals := 0 }
set_option maxHeartbeats 4000000 in
set_option maxRecDepth 100000 in
theorem c_Banker_discountAt (l : Launch) (D : va_G) (cI cM cS cJ : ClassId) (h0 : Nat) (ci : Nat) (sz : Nat) (x1 : Int32) (x2 : Int32) {o : (Int32)} (hsem : S_Banker_discountAt x1 x2 = o) : kMet l yX0_discountAt wsX0_discountAt rm_X0_discountAt [.ref h0, .int x1, .int x2] D (kT cI cM cS cJ) (Wd1 h0 ci) sz (some (.int o)) (Wd1 h0 ci) := by
  refine k_metI (by decide) rfl rfl (Nat.le_of_ble_eq_true rfl) ?_
  intro p e s m below meth c ls Q A hx hb hml hts hown hK hN hA hP hD hS hl hsz hnm hret
  have hown : s.vm.findClass RX0 = some m.cls := hown
  replace hl : lv_has ls 3 [(0, .ref h0), (1, .int x1), (2, .int x2)] := hl
  have h := hsem
  clear hsem
  rw [S_Banker_discountAt] at h
  refine lv_iload_n hx hb dX0_discountAt_0 rfl (lv_at hl 1 rfl) ?_
  refine lv_iconst (v := 2) hx hb dX0_discountAt_1 (by decide) ?_
  refine lv_idiv hx hb dX0_discountAt_2 (by decide) ?_
  cases h
  exact hret _ _ _ _ hP hS dX0_discountAt_3
abbrev rm_X7_discountAt : Room := { frames := 0, cells := 0, slots := 0, locals := 0 }
set_option maxHeartbeats 4000000 in
set_option maxRecDepth 100000 in
theorem c_Quaker_discountAt (l : Launch) (D : va_G) (cI cM cS cJ : ClassId) (h0 : Nat) (ci : Nat) (sz : Nat) (x1 : Int32) (x2 : Int32) {o : (Int32)} (hsem : S_Quaker_discountAt x1 x2 = o) : kMet l yX7_discountAt wsX7_discountAt rm_X7_discountAt [.ref h0, .int x1, .int x2] D (kT cI cM cS cJ) (Wd1 h0 ci) sz (some (.int o)) (Wd1 h0 ci) := by
  refine k_metI (by decide) rfl rfl (Nat.le_of_ble_eq_true rfl) ?_
  intro p e s m below meth c ls Q A hx hb hml hts hown hK hN hA hP hD hS hl hsz hnm hret
  have hown : s.vm.findClass RX7 = some m.cls := hown
  replace hl : lv_has ls 3 [(0, .ref h0), (1, .int x1), (2, .int x2)] := hl
  have h := hsem
  clear hsem
  rw [S_Quaker_discountAt] at h
  refine lv_iconst (v := 2) hx hb dX7_discountAt_0 (by decide) ?_
  refine lv_iload_n hx hb dX7_discountAt_1 rfl (lv_at hl 1 rfl) ?_
  refine lv_imul hx hb dX7_discountAt_2 ?_
  cases h
  exact hret _ _ _ _ hP hS dX7_discountAt_3
theorem kdU_X0_discountAt : yX0_discountAt.name ≠ "<init>" ∧ (parseMethodDescriptor yX0_discountAt.desc).map (fun d => d.parameters.length) = some 2 := by decide +kernel
abbrev rm_X1_discountAt : Room := { frames := 1, cells := 0, slots := 0, locals := 22 }
set_option maxHeartbeats 4000000 in
set_option maxRecDepth 100000 in
theorem c_Broker_discountAt (l : Launch) (D : va_G) (cI cM cS cJ : ClassId) (h0 : Nat) (ci : Nat) (sz : Nat) (x1 : Int32) (x2 : Int32) {q : vw_C} (hci : vwCl[ci]? = some q) {o : (Int32)} (hsem : S_Broker_discountAt x1 x2 = o) : kMet l yX1_discountAt wsX1_discountAt rm_X1_discountAt [.ref h0, .int x1, .int x2] D (kT cI cM cS cJ) (Wd1 h0 ci) sz (some (.int o)) (Wd1 h0 ci) := by
  refine k_metI (by decide) rfl rfl (Nat.le_of_ble_eq_true rfl) ?_
  intro p e s m below meth c ls Q A hx hb hml hts hown hK hN hA hP hD hS hl hsz hnm hret
  have hown : s.vm.findClass RX1 = some m.cls := hown
  replace hl : lv_has ls 3 [(0, .ref h0), (1, .int x1), (2, .int x2)] := hl
  have h := hsem
  clear hsem
  rw [S_Broker_discountAt] at h
  refine lv_aload_n hx hb dX1_discountAt_0 rfl (lv_at hl 0 rfl) ?_
  refine lv_iload_n hx hb dX1_discountAt_1 rfl (lv_at hl 1 rfl) ?_
  refine lv_iload_n hx hb dX1_discountAt_2 rfl (lv_at hl 2 rfl) ?_
  refine k_callSU (As := [.int x1, .int x2]) (rest := []) (st1 := [.int (S_Banker_discountAt x1 x2)]) (ws2 := (Wd1 h0 ci)) hx hb hml hown hts hK hN hA hP hD hS hl (c_Banker_discountAt l D cI cM cS cJ h0 ci s.heap.size x1 x2 rfl) gX1_discountAt_X0_discountAt_s11 rfl kdU_X0_discountAt 0 ci rfl hci [0] ⟨rfl, rfl⟩ ⟨Nat.le_of_ble_eq_true rfl, Nat.le_of_ble_eq_true rfl⟩ ⟨Nat.zero_le _, Nat.zero_le _⟩ rfl rfl (by decide +kernel) rfl rfl rfl (Nat.le_of_ble_eq_true rfl) dX1_discountAt_3 rfl (fun H locs hP hD hS => ?_)
  refine lv_iconst (v := 3) hx hb dX1_discountAt_6 (by decide) ?_
  refine lv_iadd hx hb dX1_discountAt_7 ?_
  cases h
  exact hret _ _ _ _ hP hS dX1_discountAt_8
abbrev rm_X8_discountAt : Room := { frames := 0, cells := 0, slots := 0, locals := 0 }
set_option maxHeartbeats 4000000 in
set_option maxRecDepth 100000 in
theorem c_Scrubber_discountAt (l : Launch) (D : va_G) (cI cM cS cJ : ClassId) (h0 : Nat) (ci : Nat) (sz : Nat) (x1 : Int32) (x2 : Int32) {o : (Int32)} (hsem : S_Scrubber_discountAt x1 x2 = o) : kMet l yX8_discountAt wsX8_discountAt rm_X8_discountAt [.ref h0, .int x1, .int x2] D (kT cI cM cS cJ) (Wd1 h0 ci) sz (some (.int o)) (Wd1 h0 ci) := by
  refine k_metI (by decide) rfl rfl (Nat.le_of_ble_eq_true rfl) ?_
  intro p e s m below meth c ls Q A hx hb hml hts hown hK hN hA hP hD hS hl hsz hnm hret
  have hown : s.vm.findClass RX8 = some m.cls := hown
  replace hl : lv_has ls 3 [(0, .ref h0), (1, .int x1), (2, .int x2)] := hl
  have h := hsem
  clear hsem
  rw [S_Scrubber_discountAt] at h
  refine lv_iconst (v := 0) hx hb dX8_discountAt_0 (by decide) ?_
  cases h
  exact hret _ _ _ _ hP hS dX8_discountAt_1
abbrev rm_X6_discountAt : Room := { frames := 1, cells := 0, slots := 0, locals := 22 }
set_option maxHeartbeats 4000000 in
set_option maxRecDepth 100000 in
theorem c_Partner_discountAt (l : Launch) (D : va_G) (cI cM cS cJ : ClassId) (h0 : Nat) (ci : Nat) (sz : Nat) (x1 : Int32) (x2 : Int32) {q : vw_C} (hci : vwCl[ci]? = some q) {o : (Int32)} (hsem : S_Partner_discountAt x1 x2 = o) : kMet l yX6_discountAt wsX6_discountAt rm_X6_discountAt [.ref h0, .int x1, .int x2] D (kT cI cM cS cJ) (Wd1 h0 ci) sz (some (.int o)) (Wd1 h0 ci) := by
  refine k_metI (by decide) rfl rfl (Nat.le_of_ble_eq_true rfl) ?_
  intro p e s m below meth c ls Q A hx hb hml hts hown hK hN hA hP hD hS hl hsz hnm hret
  have hown : s.vm.findClass RX6 = some m.cls := hown
  replace hl : lv_has ls 3 [(0, .ref h0), (1, .int x1), (2, .int x2)] := hl
  have h := hsem
  clear hsem
  rw [S_Partner_discountAt] at h
  refine lv_aload_n hx hb dX6_discountAt_0 rfl (lv_at hl 0 rfl) ?_
  refine lv_iload_n hx hb dX6_discountAt_1 rfl (lv_at hl 1 rfl) ?_
  refine lv_iload_n hx hb dX6_discountAt_2 rfl (lv_at hl 2 rfl) ?_
  refine k_callSUX (n := 2) (owner := RX4) (x := ⟨RX3, "discountAt", "(II)I"⟩) (As := [.int x1, .int x2]) (rest := []) (st1 := [.int (S_Man_discountAt x1 x2)]) (ws2 := (Wd1 h0 ci)) hx hb hml hown hK hN hA hP hD hS hl (c_Man_discountAt l D cI cM cS cJ h0 ci s.heap.size x1 x2 rfl) (List.forall_mem_cons.mpr ⟨(List.mem_of_getElem? (i := 14) rfl), fun _ z => absurd z List.not_mem_nil⟩) rfl (List.mem_of_getElem? (i := 8) rfl) (List.mem_of_getElem? (i := 9) rfl) (List.mem_of_getElem? (i := 12) rfl) (List.mem_of_getElem? (i := 13) rfl) (List.mem_of_getElem? (i := 10) rfl) (List.mem_of_getElem? (i := 11) rfl) (by decide +kernel) 0 ci rfl hci [0] ⟨rfl, rfl⟩ ⟨Nat.le_of_ble_eq_true rfl, Nat.le_of_ble_eq_true rfl⟩ ⟨Nat.zero_le _, Nat.zero_le _⟩ rfl rfl (by decide +kernel) rfl rfl rfl (Nat.le_of_ble_eq_true rfl) dX6_discountAt_3 rfl (fun H locs hP hD hS => ?_)
  refine lv_iload_n hx hb dX6_discountAt_6 rfl (lv_at hl 2 rfl) ?_
  refine lv_iadd hx hb dX6_discountAt_7 ?_
  cases h
  exact hret _ _ _ _ hP hS dX6_discountAt_8
abbrev rm_X10_discountAt : Room := { frames := 0, cells := 0, slots := 0, locals := 0 }
set_option maxHeartbeats 4000000 in
set_option maxRecDepth 100000 in
theorem c_Swindler_discountAt (l : Launch) (D : va_G) (cI cM cS cJ : ClassId) (h0 : Nat) (ci : Nat) (sz : Nat) (x1 : Int32) (x2 : Int32) {o : (Int32)} (hsem : S_Swindler_discountAt x1 x2 = o) : kMet l yX10_discountAt wsX10_discountAt rm_X10_discountAt [.ref h0, .int x1, .int x2] D (kT cI cM cS cJ) (Wd1 h0 ci) sz (some (.int o)) (Wd1 h0 ci) := by
  refine k_metI (by decide) rfl rfl (Nat.le_of_ble_eq_true rfl) ?_
  intro p e s m below meth c ls Q A hx hb hml hts hown hK hN hA hP hD hS hl hsz hnm hret
  have hown : s.vm.findClass RX10 = some m.cls := hown
  replace hl : lv_has ls 3 [(0, .ref h0), (1, .int x1), (2, .int x2)] := hl
  have h := hsem
  clear hsem
  rw [S_Swindler_discountAt] at h
  refine lv_iconst (v := 0) hx hb dX10_discountAt_0 (by decide) ?_
  cases h
  exact hret _ _ _ _ hP hS dX10_discountAt_1
theorem kdS_X4_stepTowards : yX4_stepTowards.cls ≠ "java/lang/invoke/MethodHandle" ∧ yX4_stepTowards.cls ≠ "java/lang/invoke/VarHandle" ∧ (parseMethodDescriptor yX4_stepTowards.desc).map (fun d => d.parameters.length) = some 3 := by decide +kernel
abbrev rm_X4_leansMore : Room := { frames := 1, cells := 0, slots := 0, locals := 23 }
set_option maxHeartbeats 4000000 in
set_option maxRecDepth 100000 in
theorem c_Man_leansMore (l : Launch) (D : va_G) (cI cM cS cJ : ClassId) (h0 : Nat) (ci : Nat) (sz : Nat) (x1 : Int32) (x2 : Int32) (x3 : Int32) (x4 : Int32) {o : (Int32)} (hsem : S_Man_leansMore x1 x2 x3 x4 = o) : kMet l yX4_leansMore wsX4_leansMore rm_X4_leansMore [.ref h0, .int x1, .int x2, .int x3, .int x4] D (kT cI cM cS cJ) (Wd1 h0 ci) sz (some (.int o)) (Wd1 h0 ci) := by
  refine k_metI (by decide) rfl rfl (Nat.le_of_ble_eq_true rfl) ?_
  intro p e s m below meth c ls Q A hx hb hml hts hown hK hN hA hP hD hS hl hsz hnm hret
  have hown : s.vm.findClass RX4 = some m.cls := hown
  replace hl : lv_has ls 5 [(0, .ref h0), (1, .int x1), (2, .int x2), (3, .int x3), (4, .int x4)] := hl
  have h := hsem
  clear hsem
  rw [S_Man_leansMore] at h
  refine lv_iload_n hx hb dX4_leansMore_0 rfl (lv_at hl 1 rfl) ?_
  refine lv_iload_n hx hb dX4_leansMore_1 rfl (lv_at hl 3 rfl) ?_
  refine lv_iconst (v := 1) hx hb dX4_leansMore_2 (by decide) ?_
  refine k_callS (As := [.int x1, .int x3, .int 1]) (rest := []) (st1 := [.int (S_Man_stepTowards x1 x3 1)]) (ws2 := (Wd1 h0 ci)) hx hb hml hown hts hK hN hA hP hD hS hl (c_Man_stepTowards l D cI cM cS cJ s.heap.size x1 x3 1 rfl) gX4_leansMore_X4_stepTowards rfl kdS_X4_stepTowards [] ⟨rfl, rfl⟩ ⟨Nat.le_of_ble_eq_true rfl, Nat.le_of_ble_eq_true rfl⟩ ⟨Nat.zero_le _, Nat.zero_le _⟩ rfl rfl (by decide +kernel) rfl rfl rfl (Nat.le_of_ble_eq_true rfl) dX4_leansMore_3 rfl (fun H locs hP hD hS => ?_)
  cases h
  exact hret _ _ _ _ hP hS dX4_leansMore_6
abbrev rm_X0_leansMore : Room := { frames := 0, cells := 0, slots := 0, locals := 0 }
set_option maxHeartbeats 4000000 in
set_option maxRecDepth 100000 in
theorem c_Banker_leansMore (l : Launch) (D : va_G) (cI cM cS cJ : ClassId) (h0 : Nat) (ci : Nat) (sz : Nat) (x1 : Int32) (x2 : Int32) (x3 : Int32) (x4 : Int32) {o : (Int32)} (hsem : S_Banker_leansMore x1 x2 x3 x4 = o) : kMet l yX0_leansMore wsX0_leansMore rm_X0_leansMore [.ref h0, .int x1, .int x2, .int x3, .int x4] D (kT cI cM cS cJ) (Wd1 h0 ci) sz (some (.int o)) (Wd1 h0 ci) := by
  refine k_metI (by decide) rfl rfl (Nat.le_of_ble_eq_true rfl) ?_
  intro p e s m below meth c ls Q A hx hb hml hts hown hK hN hA hP hD hS hl hsz hnm hret
  have hown : s.vm.findClass RX0 = some m.cls := hown
  replace hl : lv_has ls 5 [(0, .ref h0), (1, .int x1), (2, .int x2), (3, .int x3), (4, .int x4)] := hl
  have h := hsem
  clear hsem
  rw [S_Banker_leansMore] at h
  refine lv_iconst (v := 0) hx hb dX0_leansMore_0 (by decide) ?_
  cases h
  exact hret _ _ _ _ hP hS dX0_leansMore_1
abbrev rm_X7_leansMore : Room := { frames := 1, cells := 0, slots := 0, locals := 23 }
set_option maxHeartbeats 4000000 in
set_option maxRecDepth 100000 in
theorem c_Quaker_leansMore (l : Launch) (D : va_G) (cI cM cS cJ : ClassId) (h0 : Nat) (ci : Nat) (sz : Nat) (x1 : Int32) (x2 : Int32) (x3 : Int32) (x4 : Int32) {o : (Int32)} (hsem : S_Quaker_leansMore x1 x2 x3 x4 = o) : kMet l yX7_leansMore wsX7_leansMore rm_X7_leansMore [.ref h0, .int x1, .int x2, .int x3, .int x4] D (kT cI cM cS cJ) (Wd1 h0 ci) sz (some (.int o)) (Wd1 h0 ci) := by
  refine k_metI (by decide) rfl rfl (Nat.le_of_ble_eq_true rfl) ?_
  intro p e s m below meth c ls Q A hx hb hml hts hown hK hN hA hP hD hS hl hsz hnm hret
  have hown : s.vm.findClass RX7 = some m.cls := hown
  replace hl : lv_has ls 5 [(0, .ref h0), (1, .int x1), (2, .int x2), (3, .int x3), (4, .int x4)] := hl
  have h := hsem
  clear hsem
  rw [S_Quaker_leansMore] at h
  refine lv_iload_n hx hb dX7_leansMore_0 rfl (lv_at hl 1 rfl) ?_
  refine lv_iconst (v := 0) hx hb dX7_leansMore_1 (by decide) ?_
  refine lv_iconst (v := 1) hx hb dX7_leansMore_2 (by decide) ?_
  refine k_callSX (n := 3) (owner := RX4) (x := ⟨RX7, "stepTowards", "(III)I"⟩) (As := [.int x1, .int 0, .int 1]) (rest := []) (st1 := [.int (S_Man_stepTowards x1 0 1)]) (ws2 := (Wd1 h0 ci)) hx hb hml hown hK hN hA hP hD hS hl (c_Man_stepTowards l D cI cM cS cJ s.heap.size x1 0 1 rfl) (List.forall_mem_cons.mpr ⟨(List.mem_of_getElem? (i := 7) rfl), fun _ z => absurd z List.not_mem_nil⟩) rfl (List.mem_of_getElem? (i := 2) rfl) (List.mem_of_getElem? (i := 3) rfl) (List.mem_of_getElem? (i := 6) rfl) (List.mem_of_getElem? (i := 13) rfl) (by decide +kernel) [] ⟨rfl, rfl⟩ ⟨Nat.le_of_ble_eq_true rfl, Nat.le_of_ble_eq_true rfl⟩ ⟨Nat.zero_le _, Nat.zero_le _⟩ rfl rfl (by decide +kernel) rfl rfl rfl (Nat.le_of_ble_eq_true rfl) dX7_leansMore_3 rfl (fun H locs hP hD hS => ?_)
  cases h
  exact hret _ _ _ _ hP hS dX7_leansMore_6
abbrev rm_X3_leansMore : Room := { frames := 1, cells := 0, slots := 0, locals := 23 }
set_option maxHeartbeats 4000000 in
set_option maxRecDepth 100000 in
theorem c_Clerk_leansMore (l : Launch) (D : va_G) (cI cM cS cJ : ClassId) (h0 : Nat) (ci : Nat) (sz : Nat) (x1 : Int32) (x2 : Int32) (x3 : Int32) (x4 : Int32) {o : (Int32)} (hsem : S_Clerk_leansMore x1 x2 x3 x4 = o) : kMet l yX3_leansMore wsX3_leansMore rm_X3_leansMore [.ref h0, .int x1, .int x2, .int x3, .int x4] D (kT cI cM cS cJ) (Wd1 h0 ci) sz (some (.int o)) (Wd1 h0 ci) := by
  refine k_metI (by decide) rfl rfl (Nat.le_of_ble_eq_true rfl) ?_
  intro p e s m below meth c ls Q A hx hb hml hts hown hK hN hA hP hD hS hl hsz hnm hret
  have hown : s.vm.findClass RX3 = some m.cls := hown
  replace hl : lv_has ls 5 [(0, .ref h0), (1, .int x1), (2, .int x2), (3, .int x3), (4, .int x4)] := hl
  have h := hsem
  clear hsem
  rw [S_Clerk_leansMore] at h
  refine lv_iload_n hx hb dX3_leansMore_0 rfl (lv_at hl 1 rfl) ?_
  refine lv_iload_n hx hb dX3_leansMore_1 rfl (lv_at hl 3 rfl) ?_
  refine lv_iconst (v := 2) hx hb dX3_leansMore_2 (by decide) ?_
  refine k_callSX (n := 3) (owner := RX4) (x := ⟨RX3, "stepTowards", "(III)I"⟩) (As := [.int x1, .int x3, .int 2]) (rest := []) (st1 := [.int (S_Man_stepTowards x1 x3 2)]) (ws2 := (Wd1 h0 ci)) hx hb hml hown hK hN hA hP hD hS hl (c_Man_stepTowards l D cI cM cS cJ s.heap.size x1 x3 2 rfl) (List.forall_mem_cons.mpr ⟨(List.mem_of_getElem? (i := 7) rfl), fun _ z => absurd z List.not_mem_nil⟩) rfl (List.mem_of_getElem? (i := 0) rfl) (List.mem_of_getElem? (i := 1) rfl) (List.mem_of_getElem? (i := 6) rfl) (List.mem_of_getElem? (i := 13) rfl) (by decide +kernel) [] ⟨rfl, rfl⟩ ⟨Nat.le_of_ble_eq_true rfl, Nat.le_of_ble_eq_true rfl⟩ ⟨Nat.zero_le _, Nat.zero_le _⟩ rfl rfl (by decide +kernel) rfl rfl rfl (Nat.le_of_ble_eq_true rfl) dX3_leansMore_3 rfl (fun H locs hP hD hS => ?_)
  cases h
  exact hret _ _ _ _ hP hS dX3_leansMore_6
abbrev rm_X1_leansMore : Room := { frames := 0, cells := 0, slots := 0, locals := 0 }
set_option maxHeartbeats 4000000 in
set_option maxRecDepth 100000 in
theorem c_Broker_leansMore (l : Launch) (D : va_G) (cI cM cS cJ : ClassId) (h0 : Nat) (ci : Nat) (sz : Nat) (x1 : Int32) (x2 : Int32) (x3 : Int32) (x4 : Int32) {o : (Int32)} (hsem : S_Broker_leansMore x1 x2 x3 x4 = o) : kMet l yX1_leansMore wsX1_leansMore rm_X1_leansMore [.ref h0, .int x1, .int x2, .int x3, .int x4] D (kT cI cM cS cJ) (Wd1 h0 ci) sz (some (.int o)) (Wd1 h0 ci) := by
  refine k_metI (by decide) rfl rfl (Nat.le_of_ble_eq_true rfl) ?_
  intro p e s m below meth c ls Q A hx hb hml hts hown hK hN hA hP hD hS hl hsz hnm hret
  have hown : s.vm.findClass RX1 = some m.cls := hown
  replace hl : lv_has ls 6 [(0, .ref h0), (1, .int x1), (2, .int x2), (3, .int x3), (4, .int x4)] := hl
  have h := hsem
  clear hsem
  rw [S_Broker_leansMore] at h
  refine lv_iload_n hx hb dX1_leansMore_0 rfl (lv_at hl 2 rfl) ?_
  refine lv_iconst (v := 3) hx hb dX1_leansMore_1 (by decide) ?_
  refine lv_idiv hx hb dX1_leansMore_2 (by decide) ?_
  refine lv_iconst (v := 1) hx hb dX1_leansMore_3 (by decide) ?_
  refine lv_iadd hx hb dX1_leansMore_4 ?_
  refine lv_istore (lv' := [(5, .int ((x2 / 3) + 1)), (0, .ref h0), (1, .int x1), (2, .int x2), (3, .int x3), (4, .int x4)]) hx hb dX1_leansMore_5 hl (by decide) rfl (fun ls hl => ?_)
  refine lv_iload_n hx hb dX1_leansMore_7 rfl (lv_at hl 2 rfl) ?_
  refine lv_if_ge (tgt := 17) hx hb dX1_leansMore_8 (by decide) (fun c8 => ?_) (fun c8 => ?_)
  · have h := k_pos c8 h
    refine lv_iload hx hb dX1_leansMore_17 (lv_at hl 0 rfl) ?_
    cases h
    exact hret _ _ _ _ hP hS dX1_leansMore_19
  · have h := k_neg c8 h
    refine lv_iload hx hb dX1_leansMore_11 (lv_at hl 0 rfl) ?_
    refine lv_ineg hx hb dX1_leansMore_13 ?_
    refine lv_goto (tgt := 19) hx hb dX1_leansMore_14 (by decide) ?_
    cases h
    exact hret _ _ _ _ hP hS dX1_leansMore_19
abbrev rm_X8_leansMore : Room := { frames := 1, cells := 0, slots := 0, locals := 23 }
set_option maxHeartbeats 4000000 in
set_option maxRecDepth 100000 in
theorem c_Scrubber_leansMore (l : Launch) (D : va_G) (cI cM cS cJ : ClassId) (h0 : Nat) (ci : Nat) (sz : Nat) (x1 : Int32) (x2 : Int32) (x3 : Int32) (x4 : Int32) {o : (Int32)} (hsem : S_Scrubber_leansMore x1 x2 x3 x4 = o) : kMet l yX8_leansMore wsX8_leansMore rm_X8_leansMore [.ref h0, .int x1, .int x2, .int x3, .int x4] D (kT cI cM cS cJ) (Wd1 h0 ci) sz (some (.int o)) (Wd1 h0 ci) := by
  refine k_metI (by decide) rfl rfl (Nat.le_of_ble_eq_true rfl) ?_
  intro p e s m below meth c ls Q A hx hb hml hts hown hK hN hA hP hD hS hl hsz hnm hret
  have hown : s.vm.findClass RX8 = some m.cls := hown
  replace hl : lv_has ls 5 [(0, .ref h0), (1, .int x1), (2, .int x2), (3, .int x3), (4, .int x4)] := hl
  have h := hsem
  clear hsem
  rw [S_Scrubber_leansMore] at h
  refine lv_iload_n hx hb dX8_leansMore_0 rfl (lv_at hl 1 rfl) ?_
  refine lv_iconst (v := 0) hx hb dX8_leansMore_1 (by decide) ?_
  refine lv_iconst (v := 5) hx hb dX8_leansMore_2 (by decide) ?_
  refine k_callSX (n := 3) (owner := RX4) (x := ⟨RX8, "stepTowards", "(III)I"⟩) (As := [.int x1, .int 0, .int 5]) (rest := []) (st1 := [.int (S_Man_stepTowards x1 0 5)]) (ws2 := (Wd1 h0 ci)) hx hb hml hown hK hN hA hP hD hS hl (c_Man_stepTowards l D cI cM cS cJ s.heap.size x1 0 5 rfl) (List.forall_mem_cons.mpr ⟨(List.mem_of_getElem? (i := 7) rfl), fun _ z => absurd z List.not_mem_nil⟩) rfl (List.mem_of_getElem? (i := 4) rfl) (List.mem_of_getElem? (i := 5) rfl) (List.mem_of_getElem? (i := 6) rfl) (List.mem_of_getElem? (i := 13) rfl) (by decide +kernel) [] ⟨rfl, rfl⟩ ⟨Nat.le_of_ble_eq_true rfl, Nat.le_of_ble_eq_true rfl⟩ ⟨Nat.zero_le _, Nat.zero_le _⟩ rfl rfl (by decide +kernel) rfl rfl rfl (Nat.le_of_ble_eq_true rfl) dX8_leansMore_3 rfl (fun H locs hP hD hS => ?_)
  cases h
  exact hret _ _ _ _ hP hS dX8_leansMore_6
theorem kdU_X3_leansMore : yX3_leansMore.name ≠ "<init>" ∧ (parseMethodDescriptor yX3_leansMore.desc).map (fun d => d.parameters.length) = some 4 := by decide +kernel
abbrev rm_X6_leansMore : Room := { frames := 2, cells := 0, slots := 0, locals := 47 }
set_option maxHeartbeats 4000000 in
set_option maxRecDepth 100000 in
theorem c_Partner_leansMore (l : Launch) (D : va_G) (cI cM cS cJ : ClassId) (h0 : Nat) (ci : Nat) (sz : Nat) (x1 : Int32) (x2 : Int32) (x3 : Int32) (x4 : Int32) {q : vw_C} (hci : vwCl[ci]? = some q) {o : (Int32)} (hsem : S_Partner_leansMore x1 x2 x3 x4 = o) : kMet l yX6_leansMore wsX6_leansMore rm_X6_leansMore [.ref h0, .int x1, .int x2, .int x3, .int x4] D (kT cI cM cS cJ) (Wd1 h0 ci) sz (some (.int o)) (Wd1 h0 ci) := by
  refine k_metI (by decide) rfl rfl (Nat.le_of_ble_eq_true rfl) ?_
  intro p e s m below meth c ls Q A hx hb hml hts hown hK hN hA hP hD hS hl hsz hnm hret
  have hown : s.vm.findClass RX6 = some m.cls := hown
  replace hl : lv_has ls 5 [(0, .ref h0), (1, .int x1), (2, .int x2), (3, .int x3), (4, .int x4)] := hl
  have h := hsem
  clear hsem
  rw [S_Partner_leansMore] at h
  refine lv_iload hx hb dX6_leansMore_0 (lv_at hl 4 rfl) ?_
  refine lv_iconst (v := 2) hx hb dX6_leansMore_2 (by decide) ?_
  refine lv_irem hx hb dX6_leansMore_3 (by decide) ?_
  refine lv_if_ne (tgt := 19) hx hb dX6_leansMore_4 (by decide) (fun c4 => ?_) (fun c4 => ?_)
  · have h := k_neg c4 h
    refine lv_iconst (v := 0) hx hb dX6_leansMore_19 (by decide) ?_
    cases h
    exact hret _ _ _ _ hP hS dX6_leansMore_20
  · have h := k_pos c4 h
    refine lv_aload_n hx hb dX6_leansMore_7 rfl (lv_at hl 0 rfl) ?_
    refine lv_iload_n hx hb dX6_leansMore_8 rfl (lv_at hl 1 rfl) ?_
    refine lv_iload_n hx hb dX6_leansMore_9 rfl (lv_at hl 2 rfl) ?_
    refine lv_iload_n hx hb dX6_leansMore_10 rfl (lv_at hl 3 rfl) ?_
    refine lv_iload hx hb dX6_leansMore_11 (lv_at hl 4 rfl) ?_
    refine k_callSU (As := [.int x1, .int x2, .int x3, .int x4]) (rest := []) (st1 := [.int (S_Clerk_leansMore x1 x2 x3 x4)]) (ws2 := (Wd1 h0 ci)) hx hb hml hown hts hK hN hA hP hD hS hl (c_Clerk_leansMore l D cI cM cS cJ h0 ci s.heap.size x1 x2 x3 x4 rfl) gX6_leansMore_X3_leansMore_s7 rfl kdU_X3_leansMore 0 ci rfl hci [0] ⟨rfl, rfl⟩ ⟨Nat.le_of_ble_eq_true rfl, Nat.le_of_ble_eq_true rfl⟩ ⟨Nat.zero_le _, Nat.zero_le _⟩ rfl rfl (by decide +kernel) rfl rfl rfl (Nat.le_of_ble_eq_true rfl) dX6_leansMore_13 rfl (fun H locs hP hD hS => ?_)
    refine lv_goto (tgt := 20) hx hb dX6_leansMore_16 (by decide) ?_
    cases h
    exact hret _ _ _ _ hP hS dX6_leansMore_20
theorem kdU_X1_leansMore : yX1_leansMore.name ≠ "<init>" ∧ (parseMethodDescriptor yX1_leansMore.desc).map (fun d => d.parameters.length) = some 4 := by decide +kernel
abbrev rm_X10_leansMore : Room := { frames := 1, cells := 0, slots := 0, locals := 25 }
set_option maxHeartbeats 4000000 in
set_option maxRecDepth 100000 in
theorem c_Swindler_leansMore (l : Launch) (D : va_G) (cI cM cS cJ : ClassId) (h0 : Nat) (ci : Nat) (sz : Nat) (x1 : Int32) (x2 : Int32) (x3 : Int32) (x4 : Int32) {q : vw_C} (hci : vwCl[ci]? = some q) {o : (Int32)} (hsem : S_Swindler_leansMore x1 x2 x3 x4 = o) : kMet l yX10_leansMore wsX10_leansMore rm_X10_leansMore [.ref h0, .int x1, .int x2, .int x3, .int x4] D (kT cI cM cS cJ) (Wd1 h0 ci) sz (some (.int o)) (Wd1 h0 ci) := by
  refine k_metI (by decide) rfl rfl (Nat.le_of_ble_eq_true rfl) ?_
  intro p e s m below meth c ls Q A hx hb hml hts hown hK hN hA hP hD hS hl hsz hnm hret
  have hown : s.vm.findClass RX10 = some m.cls := hown
  replace hl : lv_has ls 5 [(0, .ref h0), (1, .int x1), (2, .int x2), (3, .int x3), (4, .int x4)] := hl
  have h := hsem
  clear hsem
  rw [S_Swindler_leansMore] at h
  refine lv_iconst (v := 2) hx hb dX10_leansMore_0 (by decide) ?_
  refine lv_aload_n hx hb dX10_leansMore_1 rfl (lv_at hl 0 rfl) ?_
  refine lv_iload_n hx hb dX10_leansMore_2 rfl (lv_at hl 1 rfl) ?_
  refine lv_iload_n hx hb dX10_leansMore_3 rfl (lv_at hl 2 rfl) ?_
  refine lv_iload_n hx hb dX10_leansMore_4 rfl (lv_at hl 3 rfl) ?_
  refine lv_iload hx hb dX10_leansMore_5 (lv_at hl 4 rfl) ?_
  refine k_callSU (As := [.int x1, .int x2, .int x3, .int x4]) (rest := [.int 2]) (st1 := [.int (S_Broker_leansMore x1 x2 x3 x4), .int 2]) (ws2 := (Wd1 h0 ci)) hx hb hml hown hts hK hN hA hP hD hS hl (c_Broker_leansMore l D cI cM cS cJ h0 ci s.heap.size x1 x2 x3 x4 rfl) gX10_leansMore_X1_leansMore_s7 rfl kdU_X1_leansMore 0 ci rfl hci [0] ⟨rfl, rfl⟩ ⟨Nat.le_of_ble_eq_true rfl, Nat.le_of_ble_eq_true rfl⟩ ⟨Nat.zero_le _, Nat.zero_le _⟩ rfl rfl (by decide +kernel) rfl rfl rfl (Nat.le_of_ble_eq_true rfl) dX10_leansMore_7 rfl (fun H locs hP hD hS => ?_)
  refine lv_imul hx hb dX10_leansMore_10 ?_
  cases h
  exact hret _ _ _ _ hP hS dX10_leansMore_11
abbrev rm_X4_priceBy : Room := { frames := 0, cells := 0, slots := 0, locals := 0 }
set_option maxHeartbeats 4000000 in
set_option maxRecDepth 100000 in
theorem c_Man_priceBy (l : Launch) (D : va_G) (cI cM cS cJ : ClassId) (h0 : Nat) (ci : Nat) (sz : Nat) (x1 : Int32) {o : (Int32)} (hsem : S_Man_priceBy x1 = o) : kMet l yX4_priceBy wsX4_priceBy rm_X4_priceBy [.ref h0, .int x1] D (kT cI cM cS cJ) (Wd1 h0 ci) sz (some (.int o)) (Wd1 h0 ci) := by
  refine k_metI (by decide) rfl rfl (Nat.le_of_ble_eq_true rfl) ?_
  intro p e s m below meth c ls Q A hx hb hml hts hown hK hN hA hP hD hS hl hsz hnm hret
  have hown : s.vm.findClass RX4 = some m.cls := hown
  replace hl : lv_has ls 2 [(0, .ref h0), (1, .int x1)] := hl
  have h := hsem
  clear hsem
  rw [S_Man_priceBy] at h
  refine lv_iconst (v := 3) hx hb dX4_priceBy_0 (by decide) ?_
  cases h
  exact hret _ _ _ _ hP hS dX4_priceBy_1
theorem kdU_X4_priceBy : yX4_priceBy.name ≠ "<init>" ∧ (parseMethodDescriptor yX4_priceBy.desc).map (fun d => d.parameters.length) = some 1 := by decide +kernel
abbrev rm_X0_priceBy : Room := { frames := 1, cells := 0, slots := 0, locals := 21 }
set_option maxHeartbeats 4000000 in
set_option maxRecDepth 100000 in
theorem c_Banker_priceBy (l : Launch) (D : va_G) (cI cM cS cJ : ClassId) (h0 : Nat) (ci : Nat) (sz : Nat) (x1 : Int32) {q : vw_C} (hci : vwCl[ci]? = some q) {o : (Int32)} (hsem : S_Banker_priceBy x1 = o) : kMet l yX0_priceBy wsX0_priceBy rm_X0_priceBy [.ref h0, .int x1] D (kT cI cM cS cJ) (Wd1 h0 ci) sz (some (.int o)) (Wd1 h0 ci) := by
  refine k_metI (by decide) rfl rfl (Nat.le_of_ble_eq_true rfl) ?_
  intro p e s m below meth c ls Q A hx hb hml hts hown hK hN hA hP hD hS hl hsz hnm hret
  have hown : s.vm.findClass RX0 = some m.cls := hown
  replace hl : lv_has ls 2 [(0, .ref h0), (1, .int x1)] := hl
  have h := hsem
  clear hsem
  rw [S_Banker_priceBy] at h
  refine lv_aload_n hx hb dX0_priceBy_0 rfl (lv_at hl 0 rfl) ?_
  refine lv_iload_n hx hb dX0_priceBy_1 rfl (lv_at hl 1 rfl) ?_
  refine k_callSU (As := [.int x1]) (rest := []) (st1 := [.int (S_Man_priceBy x1)]) (ws2 := (Wd1 h0 ci)) hx hb hml hown hts hK hN hA hP hD hS hl (c_Man_priceBy l D cI cM cS cJ h0 ci s.heap.size x1 rfl) gX0_priceBy_X4_priceBy_s7 rfl kdU_X4_priceBy 0 ci rfl hci [0] ⟨rfl, rfl⟩ ⟨Nat.le_of_ble_eq_true rfl, Nat.le_of_ble_eq_true rfl⟩ ⟨Nat.zero_le _, Nat.zero_le _⟩ rfl rfl (by decide +kernel) rfl rfl rfl (Nat.le_of_ble_eq_true rfl) dX0_priceBy_2 rfl (fun H locs hP hD hS => ?_)
  refine lv_iload_n hx hb dX0_priceBy_5 rfl (lv_at hl 1 rfl) ?_
  refine lv_iadd hx hb dX0_priceBy_6 ?_
  cases h
  exact hret _ _ _ _ hP hS dX0_priceBy_7
abbrev rm_X7_priceBy : Room := { frames := 0, cells := 0, slots := 0, locals := 0 }
set_option maxHeartbeats 4000000 in
set_option maxRecDepth 100000 in
theorem c_Quaker_priceBy (l : Launch) (D : va_G) (cI cM cS cJ : ClassId) (h0 : Nat) (ci : Nat) (sz : Nat) (x1 : Int32) {o : (Int32)} (hsem : S_Quaker_priceBy x1 = o) : kMet l yX7_priceBy wsX7_priceBy rm_X7_priceBy [.ref h0, .int x1] D (kT cI cM cS cJ) (Wd1 h0 ci) sz (some (.int o)) (Wd1 h0 ci) := by
  refine k_metI (by decide) rfl rfl (Nat.le_of_ble_eq_true rfl) ?_
  intro p e s m below meth c ls Q A hx hb hml hts hown hK hN hA hP hD hS hl hsz hnm hret
  have hown : s.vm.findClass RX7 = some m.cls := hown
  replace hl : lv_has ls 2 [(0, .ref h0), (1, .int x1)] := hl
  have h := hsem
  clear hsem
  rw [S_Quaker_priceBy] at h
  refine lv_iconst (v := 1) hx hb dX7_priceBy_0 (by decide) ?_
  cases h
  exact hret _ _ _ _ hP hS dX7_priceBy_1
abbrev rm_X3_priceBy : Room := { frames := 0, cells := 0, slots := 0, locals := 0 }
set_option maxHeartbeats 4000000 in
set_option maxRecDepth 100000 in
theorem c_Clerk_priceBy (l : Launch) (D : va_G) (cI cM cS cJ : ClassId) (h0 : Nat) (ci : Nat) (sz : Nat) (x1 : Int32) {o : (Int32)} (hsem : S_Clerk_priceBy x1 = o) : kMet l yX3_priceBy wsX3_priceBy rm_X3_priceBy [.ref h0, .int x1] D (kT cI cM cS cJ) (Wd1 h0 ci) sz (some (.int o)) (Wd1 h0 ci) := by
  refine k_metI (by decide) rfl rfl (Nat.le_of_ble_eq_true rfl) ?_
  intro p e s m below meth c ls Q A hx hb hml hts hown hK hN hA hP hD hS hl hsz hnm hret
  have hown : s.vm.findClass RX3 = some m.cls := hown
  replace hl : lv_has ls 2 [(0, .ref h0), (1, .int x1)] := hl
  have h := hsem
  clear hsem
  rw [S_Clerk_priceBy] at h
  refine lv_iconst (v := 2) hx hb dX3_priceBy_0 (by decide) ?_
  cases h
  exact hret _ _ _ _ hP hS dX3_priceBy_1
theorem kdU_X0_priceBy : yX0_priceBy.name ≠ "<init>" ∧ (parseMethodDescriptor yX0_priceBy.desc).map (fun d => d.parameters.length) = some 1 := by decide +kernel
abbrev rm_X1_priceBy : Room := { frames := 2, cells := 0, slots := 0, locals := 42 }
set_option maxHeartbeats 4000000 in
set_option maxRecDepth 100000 in
theorem c_Broker_priceBy (l : Launch) (D : va_G) (cI cM cS cJ : ClassId) (h0 : Nat) (ci : Nat) (sz : Nat) (x1 : Int32) {q : vw_C} (hci : vwCl[ci]? = some q) {o : (Int32)} (hsem : S_Broker_priceBy x1 = o) : kMet l yX1_priceBy wsX1_priceBy rm_X1_priceBy [.ref h0, .int x1] D (kT cI cM cS cJ) (Wd1 h0 ci) sz (some (.int o)) (Wd1 h0 ci) := by
  refine k_metI (by decide) rfl rfl (Nat.le_of_ble_eq_true rfl) ?_
  intro p e s m below meth c ls Q A hx hb hml hts hown hK hN hA hP hD hS hl hsz hnm hret
  have hown : s.vm.findClass RX1 = some m.cls := hown
  replace hl : lv_has ls 2 [(0, .ref h0), (1, .int x1)] := hl
  have h := hsem
  clear hsem
  rw [S_Broker_priceBy] at h
  refine lv_iconst (v := 2) hx hb dX1_priceBy_0 (by decide) ?_
  refine lv_aload_n hx hb dX1_priceBy_1 rfl (lv_at hl 0 rfl) ?_
  refine lv_iload_n hx hb dX1_priceBy_2 rfl (lv_at hl 1 rfl) ?_
  refine k_callSU (As := [.int x1]) (rest := [.int 2]) (st1 := [.int (S_Banker_priceBy x1), .int 2]) (ws2 := (Wd1 h0 ci)) hx hb hml hown hts hK hN hA hP hD hS hl (c_Banker_priceBy l D cI cM cS cJ h0 ci s.heap.size x1 hci rfl) gX1_priceBy_X0_priceBy_s15 rfl kdU_X0_priceBy 0 ci rfl hci [0] ⟨rfl, rfl⟩ ⟨Nat.le_of_ble_eq_true rfl, Nat.le_of_ble_eq_true rfl⟩ ⟨Nat.zero_le _, Nat.zero_le _⟩ rfl rfl (by decide +kernel) rfl rfl rfl (Nat.le_of_ble_eq_true rfl) dX1_priceBy_3 rfl (fun H locs hP hD hS => ?_)
  refine lv_imul hx hb dX1_priceBy_6 ?_
  cases h
  exact hret _ _ _ _ hP hS dX1_priceBy_7
abbrev rm_X8_priceBy : Room := { frames := 0, cells := 0, slots := 0, locals := 0 }
set_option maxHeartbeats 4000000 in
set_option maxRecDepth 100000 in
theorem c_Scrubber_priceBy (l : Launch) (D : va_G) (cI cM cS cJ : ClassId) (h0 : Nat) (ci : Nat) (sz : Nat) (x1 : Int32) {o : (Int32)} (hsem : S_Scrubber_priceBy x1 = o) : kMet l yX8_priceBy wsX8_priceBy rm_X8_priceBy [.ref h0, .int x1] D (kT cI cM cS cJ) (Wd1 h0 ci) sz (some (.int o)) (Wd1 h0 ci) := by
  refine k_metI (by decide) rfl rfl (Nat.le_of_ble_eq_true rfl) ?_
  intro p e s m below meth c ls Q A hx hb hml hts hown hK hN hA hP hD hS hl hsz hnm hret
  have hown : s.vm.findClass RX8 = some m.cls := hown
  replace hl : lv_has ls 2 [(0, .ref h0), (1, .int x1)] := hl
  have h := hsem
  clear hsem
  rw [S_Scrubber_priceBy] at h
  refine lv_iconst (v := 0) hx hb dX8_priceBy_0 (by decide) ?_
  cases h
  exact hret _ _ _ _ hP hS dX8_priceBy_1
theorem kdU_X3_priceBy : yX3_priceBy.name ≠ "<init>" ∧ (parseMethodDescriptor yX3_priceBy.desc).map (fun d => d.parameters.length) = some 1 := by decide +kernel
abbrev rm_X6_priceBy : Room := { frames := 1, cells := 0, slots := 0, locals := 21 }
set_option maxHeartbeats 4000000 in
set_option maxRecDepth 100000 in
theorem c_Partner_priceBy (l : Launch) (D : va_G) (cI cM cS cJ : ClassId) (h0 : Nat) (ci : Nat) (sz : Nat) (x1 : Int32) {q : vw_C} (hci : vwCl[ci]? = some q) {o : (Int32)} (hsem : S_Partner_priceBy x1 = o) : kMet l yX6_priceBy wsX6_priceBy rm_X6_priceBy [.ref h0, .int x1] D (kT cI cM cS cJ) (Wd1 h0 ci) sz (some (.int o)) (Wd1 h0 ci) := by
  refine k_metI (by decide) rfl rfl (Nat.le_of_ble_eq_true rfl) ?_
  intro p e s m below meth c ls Q A hx hb hml hts hown hK hN hA hP hD hS hl hsz hnm hret
  have hown : s.vm.findClass RX6 = some m.cls := hown
  replace hl : lv_has ls 2 [(0, .ref h0), (1, .int x1)] := hl
  have h := hsem
  clear hsem
  rw [S_Partner_priceBy] at h
  refine lv_aload_n hx hb dX6_priceBy_0 rfl (lv_at hl 0 rfl) ?_
  refine lv_iload_n hx hb dX6_priceBy_1 rfl (lv_at hl 1 rfl) ?_
  refine k_callSU (As := [.int x1]) (rest := []) (st1 := [.int (S_Clerk_priceBy x1)]) (ws2 := (Wd1 h0 ci)) hx hb hml hown hts hK hN hA hP hD hS hl (c_Clerk_priceBy l D cI cM cS cJ h0 ci s.heap.size x1 rfl) gX6_priceBy_X3_priceBy_s15 rfl kdU_X3_priceBy 0 ci rfl hci [0] ⟨rfl, rfl⟩ ⟨Nat.le_of_ble_eq_true rfl, Nat.le_of_ble_eq_true rfl⟩ ⟨Nat.zero_le _, Nat.zero_le _⟩ rfl rfl (by decide +kernel) rfl rfl rfl (Nat.le_of_ble_eq_true rfl) dX6_priceBy_2 rfl (fun H locs hP hD hS => ?_)
  refine lv_iconst (v := 4) hx hb dX6_priceBy_5 (by decide) ?_
  refine lv_iadd hx hb dX6_priceBy_6 ?_
  cases h
  exact hret _ _ _ _ hP hS dX6_priceBy_7
abbrev rm_X4_uprightWithin : Room := { frames := 0, cells := 0, slots := 0, locals := 0 }
set_option maxHeartbeats 4000000 in
set_option maxRecDepth 100000 in
theorem c_Man_uprightWithin (l : Launch) (D : va_G) (cI cM cS cJ : ClassId) (h0 : Nat) (ci : Nat) (sz : Nat) (x1 : Int32) {o : (Int32)} (hsem : S_Man_uprightWithin x1 = o) : kMet l yX4_uprightWithin wsX4_uprightWithin rm_X4_uprightWithin [.ref h0, .int x1] D (kT cI cM cS cJ) (Wd1 h0 ci) sz (some (.int o)) (Wd1 h0 ci) := by
  refine k_metI (by decide) rfl rfl (Nat.le_of_ble_eq_true rfl) ?_
  intro p e s m below meth c ls Q A hx hb hml hts hown hK hN hA hP hD hS hl hsz hnm hret
  have hown : s.vm.findClass RX4 = some m.cls := hown
  replace hl : lv_has ls 2 [(0, .ref h0), (1, .int x1)] := hl
  have h := hsem
  clear hsem
  rw [S_Man_uprightWithin] at h
  refine lv_iconst (v := 5) hx hb dX4_uprightWithin_0 (by decide) ?_
  cases h
  exact hret _ _ _ _ hP hS dX4_uprightWithin_1
abbrev rm_X0_uprightWithin : Room := { frames := 0, cells := 0, slots := 0, locals := 0 }
set_option maxHeartbeats 4000000 in
set_option maxRecDepth 100000 in
theorem c_Banker_uprightWithin (l : Launch) (D : va_G) (cI cM cS cJ : ClassId) (h0 : Nat) (ci : Nat) (sz : Nat) (x1 : Int32) {o : (Int32)} (hsem : S_Banker_uprightWithin x1 = o) : kMet l yX0_uprightWithin wsX0_uprightWithin rm_X0_uprightWithin [.ref h0, .int x1] D (kT cI cM cS cJ) (Wd1 h0 ci) sz (some (.int o)) (Wd1 h0 ci) := by
  refine k_metI (by decide) rfl rfl (Nat.le_of_ble_eq_true rfl) ?_
  intro p e s m below meth c ls Q A hx hb hml hts hown hK hN hA hP hD hS hl hsz hnm hret
  have hown : s.vm.findClass RX0 = some m.cls := hown
  replace hl : lv_has ls 2 [(0, .ref h0), (1, .int x1)] := hl
  have h := hsem
  clear hsem
  rw [S_Banker_uprightWithin] at h
  refine lv_iload_n hx hb dX0_uprightWithin_0 rfl (lv_at hl 1 rfl) ?_
  cases h
  exact hret _ _ _ _ hP hS dX0_uprightWithin_1
abbrev rm_X7_uprightWithin : Room := { frames := 0, cells := 0, slots := 0, locals := 0 }
set_option maxHeartbeats 4000000 in
set_option maxRecDepth 100000 in
theorem c_Quaker_uprightWithin (l : Launch) (D : va_G) (cI cM cS cJ : ClassId) (h0 : Nat) (ci : Nat) (sz : Nat) (x1 : Int32) {o : (Int32)} (hsem : S_Quaker_uprightWithin x1 = o) : kMet l yX7_uprightWithin wsX7_uprightWithin rm_X7_uprightWithin [.ref h0, .int x1] D (kT cI cM cS cJ) (Wd1 h0 ci) sz (some (.int o)) (Wd1 h0 ci) := by
  refine k_metI (by decide) rfl rfl (Nat.le_of_ble_eq_true rfl) ?_
  intro p e s m below meth c ls Q A hx hb hml hts hown hK hN hA hP hD hS hl hsz hnm hret
  have hown : s.vm.findClass RX7 = some m.cls := hown
  replace hl : lv_has ls 2 [(0, .ref h0), (1, .int x1)] := hl
  have h := hsem
  clear hsem
  rw [S_Quaker_uprightWithin] at h
  refine lv_iconst (v := 0) hx hb dX7_uprightWithin_0 (by decide) ?_
  cases h
  exact hret _ _ _ _ hP hS dX7_uprightWithin_1
theorem kdU_X4_uprightWithin : yX4_uprightWithin.name ≠ "<init>" ∧ (parseMethodDescriptor yX4_uprightWithin.desc).map (fun d => d.parameters.length) = some 1 := by decide +kernel
abbrev rm_X3_uprightWithin : Room := { frames := 1, cells := 0, slots := 0, locals := 21 }
set_option maxHeartbeats 4000000 in
set_option maxRecDepth 100000 in
theorem c_Clerk_uprightWithin (l : Launch) (D : va_G) (cI cM cS cJ : ClassId) (h0 : Nat) (ci : Nat) (sz : Nat) (x1 : Int32) {q : vw_C} (hci : vwCl[ci]? = some q) {o : (Int32)} (hsem : S_Clerk_uprightWithin x1 = o) : kMet l yX3_uprightWithin wsX3_uprightWithin rm_X3_uprightWithin [.ref h0, .int x1] D (kT cI cM cS cJ) (Wd1 h0 ci) sz (some (.int o)) (Wd1 h0 ci) := by
  refine k_metI (by decide) rfl rfl (Nat.le_of_ble_eq_true rfl) ?_
  intro p e s m below meth c ls Q A hx hb hml hts hown hK hN hA hP hD hS hl hsz hnm hret
  have hown : s.vm.findClass RX3 = some m.cls := hown
  replace hl : lv_has ls 2 [(0, .ref h0), (1, .int x1)] := hl
  have h := hsem
  clear hsem
  rw [S_Clerk_uprightWithin] at h
  refine lv_aload_n hx hb dX3_uprightWithin_0 rfl (lv_at hl 0 rfl) ?_
  refine lv_iload_n hx hb dX3_uprightWithin_1 rfl (lv_at hl 1 rfl) ?_
  refine k_callSU (As := [.int x1]) (rest := []) (st1 := [.int (S_Man_uprightWithin x1)]) (ws2 := (Wd1 h0 ci)) hx hb hml hown hts hK hN hA hP hD hS hl (c_Man_uprightWithin l D cI cM cS cJ h0 ci s.heap.size x1 rfl) gX3_uprightWithin_X4_uprightWithin_s13 rfl kdU_X4_uprightWithin 0 ci rfl hci [0] ⟨rfl, rfl⟩ ⟨Nat.le_of_ble_eq_true rfl, Nat.le_of_ble_eq_true rfl⟩ ⟨Nat.zero_le _, Nat.zero_le _⟩ rfl rfl (by decide +kernel) rfl rfl rfl (Nat.le_of_ble_eq_true rfl) dX3_uprightWithin_2 rfl (fun H locs hP hD hS => ?_)
  refine lv_iconst (v := 3) hx hb dX3_uprightWithin_5 (by decide) ?_
  refine lv_iadd hx hb dX3_uprightWithin_6 ?_
  cases h
  exact hret _ _ _ _ hP hS dX3_uprightWithin_7
theorem kdU_X0_uprightWithin : yX0_uprightWithin.name ≠ "<init>" ∧ (parseMethodDescriptor yX0_uprightWithin.desc).map (fun d => d.parameters.length) = some 1 := by decide +kernel
abbrev rm_X1_uprightWithin : Room := { frames := 1, cells := 0, slots := 0, locals := 21 }
set_option maxHeartbeats 4000000 in
set_option maxRecDepth 100000 in
theorem c_Broker_uprightWithin (l : Launch) (D : va_G) (cI cM cS cJ : ClassId) (h0 : Nat) (ci : Nat) (sz : Nat) (x1 : Int32) {q : vw_C} (hci : vwCl[ci]? = some q) {o : (Int32)} (hsem : S_Broker_uprightWithin x1 = o) : kMet l yX1_uprightWithin wsX1_uprightWithin rm_X1_uprightWithin [.ref h0, .int x1] D (kT cI cM cS cJ) (Wd1 h0 ci) sz (some (.int o)) (Wd1 h0 ci) := by
  refine k_metI (by decide) rfl rfl (Nat.le_of_ble_eq_true rfl) ?_
  intro p e s m below meth c ls Q A hx hb hml hts hown hK hN hA hP hD hS hl hsz hnm hret
  have hown : s.vm.findClass RX1 = some m.cls := hown
  replace hl : lv_has ls 2 [(0, .ref h0), (1, .int x1)] := hl
  have h := hsem
  clear hsem
  rw [S_Broker_uprightWithin] at h
  refine lv_iconst (v := 2) hx hb dX1_uprightWithin_0 (by decide) ?_
  refine lv_aload_n hx hb dX1_uprightWithin_1 rfl (lv_at hl 0 rfl) ?_
  refine lv_iload_n hx hb dX1_uprightWithin_2 rfl (lv_at hl 1 rfl) ?_
  refine k_callSU (As := [.int x1]) (rest := [.int 2]) (st1 := [.int (S_Banker_uprightWithin x1), .int 2]) (ws2 := (Wd1 h0 ci)) hx hb hml hown hts hK hN hA hP hD hS hl (c_Banker_uprightWithin l D cI cM cS cJ h0 ci s.heap.size x1 rfl) gX1_uprightWithin_X0_uprightWithin_s7 rfl kdU_X0_uprightWithin 0 ci rfl hci [0] ⟨rfl, rfl⟩ ⟨Nat.le_of_ble_eq_true rfl, Nat.le_of_ble_eq_true rfl⟩ ⟨Nat.zero_le _, Nat.zero_le _⟩ rfl rfl (by decide +kernel) rfl rfl rfl (Nat.le_of_ble_eq_true rfl) dX1_uprightWithin_3 rfl (fun H locs hP hD hS => ?_)
  refine lv_imul hx hb dX1_uprightWithin_6 ?_
  cases h
  exact hret _ _ _ _ hP hS dX1_uprightWithin_7
abbrev rm_X8_uprightWithin : Room := { frames := 0, cells := 0, slots := 0, locals := 0 }
set_option maxHeartbeats 4000000 in
set_option maxRecDepth 100000 in
theorem c_Scrubber_uprightWithin (l : Launch) (D : va_G) (cI cM cS cJ : ClassId) (h0 : Nat) (ci : Nat) (sz : Nat) (x1 : Int32) {o : (Int32)} (hsem : S_Scrubber_uprightWithin x1 = o) : kMet l yX8_uprightWithin wsX8_uprightWithin rm_X8_uprightWithin [.ref h0, .int x1] D (kT cI cM cS cJ) (Wd1 h0 ci) sz (some (.int o)) (Wd1 h0 ci) := by
  refine k_metI (by decide) rfl rfl (Nat.le_of_ble_eq_true rfl) ?_
  intro p e s m below meth c ls Q A hx hb hml hts hown hK hN hA hP hD hS hl hsz hnm hret
  have hown : s.vm.findClass RX8 = some m.cls := hown
  replace hl : lv_has ls 2 [(0, .ref h0), (1, .int x1)] := hl
  have h := hsem
  clear hsem
  rw [S_Scrubber_uprightWithin] at h
  refine lv_bipush (v := 9) hx hb dX8_uprightWithin_0 (by decide) ?_
  cases h
  exact hret _ _ _ _ hP hS dX8_uprightWithin_2
