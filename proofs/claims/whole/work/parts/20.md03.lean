theorem kdS_X12_isUprightBy : yX12_isUprightBy.cls ≠ "java/lang/invoke/MethodHandle" ∧ yX12_isUprightBy.cls ≠ "java/lang/invoke/VarHandle" ∧ (parseMethodDescriptor yX12_isUprightBy.desc).map (fun d => d.parameters.length) = some 3 := by decide +kernel
abbrev rm_X12_upright : Room := { frames := 2, cells := 0, slots := 0, locals := 43 }
set_option maxHeartbeats 4000000 in
set_option maxRecDepth 100000 in
theorem c_MD_upright (l : Launch) (D : va_G) (cI cM cS cJ : ClassId) (a0 : Nat) (sz : Nat) (r0_a : Nat → Int32) {o : (Int32)} (hsem : S_MD_upright r0_a = some o) : kMet l yX12_upright wsX12_upright rm_X12_upright [.ref a0] D (kT cI cM cS cJ) (Wd41 cI a0 r0_a) sz (some (.int o)) (Wd41 cI a0 r0_a) := by
  refine k_metI (by decide) rfl rfl (Nat.le_of_ble_eq_true rfl) ?_
  intro p e s m below meth c ls Q A hx hb hml hts hown hK hN hA hP hD hS hl hsz hnm hret
  have hown : s.vm.findClass RX12 = some m.cls := hown
  replace hl : lv_has ls 3 [(0, .ref a0)] := hl
  have h := hsem
  clear hsem
  rw [S_MD_upright] at h
  refine lv_iconst (v := 0) hx hb dX12_upright_0 (by decide) ?_
  refine lv_istore_n (lv' := [(1, .int 0), (0, .ref a0)]) hx hb dX12_upright_1 rfl hl (by decide) rfl (fun ls hl => ?_)
  refine lv_iconst (v := 0) hx hb dX12_upright_2 (by decide) ?_
  have B4 : ∀ (n4 : Nat) (y1 : Int32) (y2 : Int32) (H : Heap) (locs : List Loc) (ls : Array Slot), va_P D vwCl (Wd41 cI a0 r0_a) H → va_D A (Wd41 cI a0 r0_a) → va_S A s.heap H locs → lv_has ls 3 [(0, .ref a0), (1, .int y1), (2, .int y2)] → S_MD_upright_L4 r0_a n4 y1 y2 = some o → W p l e rm_X12_upright s m ([.ref a0] : List Value).toArray below meth c H locs 0 0 Q (F0 m 4 ls []) := by
    intro n4
    induction n4 with
    | zero => intro y1 y2 H locs ls hP hD hS hl h; exact absurd h (by simp [S_MD_upright_L4])
    | succ n4 ih4 =>
      intro y1 y2 H locs ls hP hD hS hl h
      rw [S_MD_upright_L4] at h
      refine lv_iload_n hx hb dX12_upright_4 rfl (lv_at hl 2 rfl) ?_
      refine lv_aload_n hx hb dX12_upright_5 rfl (lv_at hl 0 rfl) ?_
      refine lv_iconst (v := 0) hx hb dX12_upright_6 (by decide) ?_
      refine va_iald hx hb hK hP 0 0 rfl rfl (show ¬ ((0 : Int32) < 0 ∨ 37 ≤ (0 : Int32).toNatClampNeg) by decide) dX12_upright_7 ?_
      refine lv_icmp_ge (tgt := 42) hx hb dX12_upright_8 (by decide) (fun c8 => ?_) (fun c8 => ?_)
      · have h := k_pos c8 h
        refine lv_iload_n hx hb dX12_upright_42 rfl (lv_at hl 1 rfl) ?_
        have h := Option.some.inj h; subst h
        exact hret _ _ _ _ hP hS dX12_upright_43
      · have h := k_neg c8 h
        refine lv_iload_n hx hb dX12_upright_11 rfl (lv_at hl 1 rfl) ?_
        refine lv_aload_n hx hb dX12_upright_12 rfl (lv_at hl 0 rfl) ?_
        refine lv_iload_n hx hb dX12_upright_13 rfl (lv_at hl 2 rfl) ?_
        refine lv_aload_n hx hb dX12_upright_14 rfl (lv_at hl 0 rfl) ?_
        refine lv_iload_n hx hb dX12_upright_15 rfl (lv_at hl 2 rfl) ?_
        refine lv_iconst (v := 2) hx hb dX12_upright_16 (by decide) ?_
        refine k_callS (As := [.int y2, .int 2]) (rest := [.ref a0, .int y2, .ref a0, .int y1]) (st1 := [.int (S_MD_of y2 2), .ref a0, .int y2, .ref a0, .int y1]) (ws2 := (Wd41 cI a0 r0_a)) hx hb hml hown hts hK hN hA hP hD hS hl (c_MD_of l D cI cM cS cJ H.size y2 2 rfl) gX12_upright_X12_of rfl kdS_X12_of [] ⟨rfl, rfl⟩ ⟨Nat.le_of_ble_eq_true rfl, Nat.le_of_ble_eq_true rfl⟩ ⟨Nat.zero_le _, Nat.zero_le _⟩ rfl rfl (by decide +kernel) (k_rp rfl (by decide +kernel)) rfl rfl (Nat.le_of_ble_eq_true rfl) dX12_upright_17 rfl (fun H locs hP hD hS => ?_)
        obtain ⟨g20, h⟩ := k_guard h
        refine va_iald hx hb hK hP 0 0 rfl rfl g20 dX12_upright_20 ?_
        obtain ⟨r21, g21, h⟩ := k_bind h
        refine k_callS (As := [.ref a0, .int y2, .int (r0_a (S_MD_of y2 2).toNatClampNeg)]) (rest := [.int y1]) (st1 := [.int r21, .int y1]) (ws2 := (Wd41 cI a0 r0_a)) hx hb hml hown hts hK hN hA hP hD hS hl (c_MD_isUprightBy l D cI cM cS cJ a0 H.size y2 (r0_a (S_MD_of y2 2).toNatClampNeg) r0_a g21) gX12_upright_X12_isUprightBy rfl kdS_X12_isUprightBy [0] ⟨rfl, rfl⟩ ⟨Nat.le_of_ble_eq_true rfl, Nat.le_of_ble_eq_true rfl⟩ ⟨Nat.zero_le _, Nat.zero_le _⟩ rfl rfl (by decide +kernel) (k_rp rfl (by decide +kernel)) rfl rfl (Nat.le_of_ble_eq_true rfl) dX12_upright_21 rfl (fun H locs hP hD hS => ?_)
        refine lv_if_eq (tgt := 33) hx hb dX12_upright_24 (by decide) (fun c24 => ?_) (fun c24 => ?_)
        · have h := k_pos c24 h
          refine lv_iconst (v := 0) hx hb dX12_upright_33 (by decide) ?_
          refine lv_ior hx hb dX12_upright_34 ?_
          refine lv_istore_n (lv' := [(1, .int (y1 ||| 0)), (0, .ref a0), (2, .int y2)]) hx hb dX12_upright_35 rfl hl (by decide) rfl (fun ls hl => ?_)
          refine lv_iinc (v := (y2 + 1)) (lv' := [(2, .int (y2 + 1)), (1, .int (y1 ||| 0)), (0, .ref a0)]) hx hb dX12_upright_36 hl (k := 2) rfl (by first | rfl | decide) (by decide) rfl (fun ls hl => ?_)
          refine lv_goto (tgt := 4) hx hb dX12_upright_39 (by decide) ?_
          exact ih4 (y1 ||| 0) (y2 + 1) H locs ls hP hD hS (lv_sub hl [2, 1, 0] rfl) h
        · have h := k_neg c24 h
          refine lv_iconst (v := 1) hx hb dX12_upright_27 (by decide) ?_
          refine lv_iload_n hx hb dX12_upright_28 rfl (lv_at hl 2 rfl) ?_
          refine lv_ishl hx hb dX12_upright_29 ?_
          refine lv_goto (tgt := 34) hx hb dX12_upright_30 (by decide) ?_
          refine lv_ior hx hb dX12_upright_34 ?_
          refine lv_istore_n (lv' := [(1, .int (y1 ||| ((1 : Int32) <<< (y2 &&& 31)))), (0, .ref a0), (2, .int y2)]) hx hb dX12_upright_35 rfl hl (by decide) rfl (fun ls hl => ?_)
          refine lv_iinc (v := (y2 + 1)) (lv' := [(2, .int (y2 + 1)), (1, .int (y1 ||| ((1 : Int32) <<< (y2 &&& 31)))), (0, .ref a0)]) hx hb dX12_upright_36 hl (k := 2) rfl (by first | rfl | decide) (by decide) rfl (fun ls hl => ?_)
          refine lv_goto (tgt := 4) hx hb dX12_upright_39 (by decide) ?_
          exact ih4 (y1 ||| ((1 : Int32) <<< (y2 &&& 31))) (y2 + 1) H locs ls hP hD hS (lv_sub hl [2, 1, 0] rfl) h
  refine lv_istore_n (lv' := [(2, .int 0), (1, .int 0), (0, .ref a0)]) hx hb dX12_upright_3 rfl hl (by decide) rfl (fun ls hl => ?_)
  exact B4 lfu 0 0 s.heap [] ls hP hD hS (lv_sub hl [2, 1, 0] rfl) h
abbrev rm_X12_leanSum : Room := { frames := 1, cells := 0, slots := 0, locals := 21 }
set_option maxHeartbeats 4000000 in
set_option maxRecDepth 100000 in
theorem c_MD_leanSum (l : Launch) (D : va_G) (cI cM cS cJ : ClassId) (a0 : Nat) (sz : Nat) (r0_a : Nat → Int32) {o : (Int32)} (hsem : S_MD_leanSum r0_a = some o) : kMet l yX12_leanSum wsX12_leanSum rm_X12_leanSum [.ref a0] D (kT cI cM cS cJ) (Wd41 cI a0 r0_a) sz (some (.int o)) (Wd41 cI a0 r0_a) := by
  refine k_metI (by decide) rfl rfl (Nat.le_of_ble_eq_true rfl) ?_
  intro p e s m below meth c ls Q A hx hb hml hts hown hK hN hA hP hD hS hl hsz hnm hret
  have hown : s.vm.findClass RX12 = some m.cls := hown
  replace hl : lv_has ls 3 [(0, .ref a0)] := hl
  have h := hsem
  clear hsem
  rw [S_MD_leanSum] at h
  refine lv_iconst (v := 0) hx hb dX12_leanSum_0 (by decide) ?_
  refine lv_istore_n (lv' := [(1, .int 0), (0, .ref a0)]) hx hb dX12_leanSum_1 rfl hl (by decide) rfl (fun ls hl => ?_)
  refine lv_iconst (v := 0) hx hb dX12_leanSum_2 (by decide) ?_
  have B4 : ∀ (n4 : Nat) (y1 : Int32) (y2 : Int32) (H : Heap) (locs : List Loc) (ls : Array Slot), va_P D vwCl (Wd41 cI a0 r0_a) H → va_D A (Wd41 cI a0 r0_a) → va_S A s.heap H locs → lv_has ls 3 [(0, .ref a0), (1, .int y1), (2, .int y2)] → S_MD_leanSum_L4 r0_a n4 y1 y2 = some o → W p l e rm_X12_leanSum s m ([.ref a0] : List Value).toArray below meth c H locs 0 0 Q (F0 m 4 ls []) := by
    intro n4
    induction n4 with
    | zero => intro y1 y2 H locs ls hP hD hS hl h; exact absurd h (by simp [S_MD_leanSum_L4])
    | succ n4 ih4 =>
      intro y1 y2 H locs ls hP hD hS hl h
      rw [S_MD_leanSum_L4] at h
      refine lv_iload_n hx hb dX12_leanSum_4 rfl (lv_at hl 2 rfl) ?_
      refine lv_aload_n hx hb dX12_leanSum_5 rfl (lv_at hl 0 rfl) ?_
      refine lv_iconst (v := 0) hx hb dX12_leanSum_6 (by decide) ?_
      refine va_iald hx hb hK hP 0 0 rfl rfl (show ¬ ((0 : Int32) < 0 ∨ 37 ≤ (0 : Int32).toNatClampNeg) by decide) dX12_leanSum_7 ?_
      refine lv_icmp_ge (tgt := 27) hx hb dX12_leanSum_8 (by decide) (fun c8 => ?_) (fun c8 => ?_)
      · have h := k_pos c8 h
        refine lv_iload_n hx hb dX12_leanSum_27 rfl (lv_at hl 1 rfl) ?_
        have h := Option.some.inj h; subst h
        exact hret _ _ _ _ hP hS dX12_leanSum_28
      · have h := k_neg c8 h
        refine lv_iload_n hx hb dX12_leanSum_11 rfl (lv_at hl 1 rfl) ?_
        refine lv_aload_n hx hb dX12_leanSum_12 rfl (lv_at hl 0 rfl) ?_
        refine lv_iload_n hx hb dX12_leanSum_13 rfl (lv_at hl 2 rfl) ?_
        refine lv_iconst (v := 2) hx hb dX12_leanSum_14 (by decide) ?_
        refine k_callS (As := [.int y2, .int 2]) (rest := [.ref a0, .int y1]) (st1 := [.int (S_MD_of y2 2), .ref a0, .int y1]) (ws2 := (Wd41 cI a0 r0_a)) hx hb hml hown hts hK hN hA hP hD hS hl (c_MD_of l D cI cM cS cJ H.size y2 2 rfl) gX12_leanSum_X12_of rfl kdS_X12_of [] ⟨rfl, rfl⟩ ⟨Nat.le_of_ble_eq_true rfl, Nat.le_of_ble_eq_true rfl⟩ ⟨Nat.zero_le _, Nat.zero_le _⟩ rfl rfl (by decide +kernel) (k_rp rfl (by decide +kernel)) rfl rfl (Nat.le_of_ble_eq_true rfl) dX12_leanSum_15 rfl (fun H locs hP hD hS => ?_)
        obtain ⟨g18, h⟩ := k_guard h
        refine va_iald hx hb hK hP 0 0 rfl rfl g18 dX12_leanSum_18 ?_
        refine lv_iadd hx hb dX12_leanSum_19 ?_
        refine lv_istore_n (lv' := [(1, .int (y1 + (r0_a (S_MD_of y2 2).toNatClampNeg))), (0, .ref a0), (2, .int y2)]) hx hb dX12_leanSum_20 rfl hl (by decide) rfl (fun ls hl => ?_)
        refine lv_iinc (v := (y2 + 1)) (lv' := [(2, .int (y2 + 1)), (1, .int (y1 + (r0_a (S_MD_of y2 2).toNatClampNeg))), (0, .ref a0)]) hx hb dX12_leanSum_21 hl (k := 2) rfl (by first | rfl | decide) (by decide) rfl (fun ls hl => ?_)
        refine lv_goto (tgt := 4) hx hb dX12_leanSum_24 (by decide) ?_
        exact ih4 (y1 + (r0_a (S_MD_of y2 2).toNatClampNeg)) (y2 + 1) H locs ls hP hD hS (lv_sub hl [2, 1, 0] rfl) h
  refine lv_istore_n (lv' := [(2, .int 0), (1, .int 0), (0, .ref a0)]) hx hb dX12_leanSum_3 rfl hl (by decide) rfl (fun ls hl => ?_)
  exact B4 lfu 0 0 s.heap [] ls hP hD hS (lv_sub hl [2, 1, 0] rfl) h
abbrev rm_X12_plumb : Room := { frames := 1, cells := 0, slots := 0, locals := 21 }
set_option maxHeartbeats 4000000 in
set_option maxRecDepth 100000 in
theorem c_MD_plumb (l : Launch) (D : va_G) (cI cM cS cJ : ClassId) (a0 : Nat) (sz : Nat) (r0_a : Nat → Int32) {o : (Int32)} (hsem : S_MD_plumb r0_a = some o) : kMet l yX12_plumb wsX12_plumb rm_X12_plumb [.ref a0] D (kT cI cM cS cJ) (Wd41 cI a0 r0_a) sz (some (.int o)) (Wd41 cI a0 r0_a) := by
  refine k_metI (by decide) rfl rfl (Nat.le_of_ble_eq_true rfl) ?_
  intro p e s m below meth c ls Q A hx hb hml hts hown hK hN hA hP hD hS hl hsz hnm hret
  have hown : s.vm.findClass RX12 = some m.cls := hown
  replace hl : lv_has ls 3 [(0, .ref a0)] := hl
  have h := hsem
  clear hsem
  rw [S_MD_plumb] at h
  refine lv_bipush (v := (-4)) hx hb dX12_plumb_0 (by decide) ?_
  refine lv_istore_n (lv' := [(1, .int (-4)), (0, .ref a0)]) hx hb dX12_plumb_2 rfl hl (by decide) rfl (fun ls hl => ?_)
  refine lv_iconst (v := 0) hx hb dX12_plumb_3 (by decide) ?_
  have B5 : ∀ (n5 : Nat) (y1 : Int32) (y2 : Int32) (H : Heap) (locs : List Loc) (ls : Array Slot), va_P D vwCl (Wd41 cI a0 r0_a) H → va_D A (Wd41 cI a0 r0_a) → va_S A s.heap H locs → lv_has ls 3 [(0, .ref a0), (1, .int y1), (2, .int y2)] → S_MD_plumb_L5 r0_a n5 y1 y2 = some o → W p l e rm_X12_plumb s m ([.ref a0] : List Value).toArray below meth c H locs 0 0 Q (F0 m 5 ls []) := by
    intro n5
    induction n5 with
    | zero => intro y1 y2 H locs ls hP hD hS hl h; exact absurd h (by simp [S_MD_plumb_L5])
    | succ n5 ih5 =>
      intro y1 y2 H locs ls hP hD hS hl h
      rw [S_MD_plumb_L5] at h
      refine lv_iload_n hx hb dX12_plumb_5 rfl (lv_at hl 2 rfl) ?_
      refine lv_aload_n hx hb dX12_plumb_6 rfl (lv_at hl 0 rfl) ?_
      refine lv_iconst (v := 0) hx hb dX12_plumb_7 (by decide) ?_
      refine va_iald hx hb hK hP 0 0 rfl rfl (show ¬ ((0 : Int32) < 0 ∨ 37 ≤ (0 : Int32).toNatClampNeg) by decide) dX12_plumb_8 ?_
      refine lv_icmp_ge (tgt := 47) hx hb dX12_plumb_9 (by decide) (fun c9 => ?_) (fun c9 => ?_)
      · have h := k_pos c9 h
        refine lv_iload_n hx hb dX12_plumb_47 rfl (lv_at hl 1 rfl) ?_
        have h := Option.some.inj h; subst h
        exact hret _ _ _ _ hP hS dX12_plumb_48
      · have h := k_neg c9 h
        refine lv_iload_n hx hb dX12_plumb_12 rfl (lv_at hl 1 rfl) ?_
        refine lv_if_lt (tgt := 39) hx hb dX12_plumb_13 (by decide) (fun c13 => ?_) (fun c13 => ?_)
        · have h := k_pos c13 h
          refine lv_iload_n hx hb dX12_plumb_39 rfl (lv_at hl 2 rfl) ?_
          refine lv_istore_n (lv' := [(1, .int y2), (0, .ref a0), (2, .int y2)]) hx hb dX12_plumb_40 rfl hl (by decide) rfl (fun ls hl => ?_)
          refine lv_iinc (v := (y2 + 1)) (lv' := [(2, .int (y2 + 1)), (1, .int y2), (0, .ref a0)]) hx hb dX12_plumb_41 hl (k := 2) rfl (by first | rfl | decide) (by decide) rfl (fun ls hl => ?_)
          refine lv_goto (tgt := 5) hx hb dX12_plumb_44 (by decide) ?_
          exact ih5 y2 (y2 + 1) H locs ls hP hD hS (lv_sub hl [2, 1, 0] rfl) h
        · have h := k_neg c13 h
          refine lv_aload_n hx hb dX12_plumb_16 rfl (lv_at hl 0 rfl) ?_
          refine lv_iload_n hx hb dX12_plumb_17 rfl (lv_at hl 2 rfl) ?_
          refine lv_iconst (v := 2) hx hb dX12_plumb_18 (by decide) ?_
          refine k_callS (As := [.int y2, .int 2]) (rest := [.ref a0]) (st1 := [.int (S_MD_of y2 2), .ref a0]) (ws2 := (Wd41 cI a0 r0_a)) hx hb hml hown hts hK hN hA hP hD hS hl (c_MD_of l D cI cM cS cJ H.size y2 2 rfl) gX12_plumb_X12_of rfl kdS_X12_of [] ⟨rfl, rfl⟩ ⟨Nat.le_of_ble_eq_true rfl, Nat.le_of_ble_eq_true rfl⟩ ⟨Nat.zero_le _, Nat.zero_le _⟩ rfl rfl (by decide +kernel) (k_rp rfl (by decide +kernel)) rfl rfl (Nat.le_of_ble_eq_true rfl) dX12_plumb_19 rfl (fun H locs hP hD hS => ?_)
          obtain ⟨g22, h⟩ := k_guard h
          refine va_iald hx hb hK hP 0 0 rfl rfl g22 dX12_plumb_22 ?_
          refine k_callS (As := [.int (r0_a (S_MD_of y2 2).toNatClampNeg)]) (rest := []) (st1 := [.int (S_MD_sized (r0_a (S_MD_of y2 2).toNatClampNeg))]) (ws2 := (Wd41 cI a0 r0_a)) hx hb hml hown hts hK hN hA hP hD hS hl (c_MD_sized l D cI cM cS cJ H.size (r0_a (S_MD_of y2 2).toNatClampNeg) rfl) gX12_plumb_X12_sized rfl kdS_X12_sized [] ⟨rfl, rfl⟩ ⟨Nat.le_of_ble_eq_true rfl, Nat.le_of_ble_eq_true rfl⟩ ⟨Nat.zero_le _, Nat.zero_le _⟩ rfl rfl (by decide +kernel) (k_rp rfl (by decide +kernel)) rfl rfl (Nat.le_of_ble_eq_true rfl) dX12_plumb_23 rfl (fun H locs hP hD hS => ?_)
          refine lv_aload_n hx hb dX12_plumb_26 rfl (lv_at hl 0 rfl) ?_
          refine lv_iload_n hx hb dX12_plumb_27 rfl (lv_at hl 1 rfl) ?_
          refine lv_iconst (v := 2) hx hb dX12_plumb_28 (by decide) ?_
          refine k_callS (As := [.int y1, .int 2]) (rest := [.ref a0, .int (S_MD_sized (r0_a (S_MD_of y2 2).toNatClampNeg))]) (st1 := [.int (S_MD_of y1 2), .ref a0, .int (S_MD_sized (r0_a (S_MD_of y2 2).toNatClampNeg))]) (ws2 := (Wd41 cI a0 r0_a)) hx hb hml hown hts hK hN hA hP hD hS hl (c_MD_of l D cI cM cS cJ H.size y1 2 rfl) gX12_plumb_X12_of rfl kdS_X12_of [] ⟨rfl, rfl⟩ ⟨Nat.le_of_ble_eq_true rfl, Nat.le_of_ble_eq_true rfl⟩ ⟨Nat.zero_le _, Nat.zero_le _⟩ rfl rfl (by decide +kernel) (k_rp rfl (by decide +kernel)) rfl rfl (Nat.le_of_ble_eq_true rfl) dX12_plumb_29 rfl (fun H locs hP hD hS => ?_)
          obtain ⟨g32, h⟩ := k_guard h
          refine va_iald hx hb hK hP 0 0 rfl rfl g32 dX12_plumb_32 ?_
          refine k_callS (As := [.int (r0_a (S_MD_of y1 2).toNatClampNeg)]) (rest := [.int (S_MD_sized (r0_a (S_MD_of y2 2).toNatClampNeg))]) (st1 := [.int (S_MD_sized (r0_a (S_MD_of y1 2).toNatClampNeg)), .int (S_MD_sized (r0_a (S_MD_of y2 2).toNatClampNeg))]) (ws2 := (Wd41 cI a0 r0_a)) hx hb hml hown hts hK hN hA hP hD hS hl (c_MD_sized l D cI cM cS cJ H.size (r0_a (S_MD_of y1 2).toNatClampNeg) rfl) gX12_plumb_X12_sized rfl kdS_X12_sized [] ⟨rfl, rfl⟩ ⟨Nat.le_of_ble_eq_true rfl, Nat.le_of_ble_eq_true rfl⟩ ⟨Nat.zero_le _, Nat.zero_le _⟩ rfl rfl (by decide +kernel) (k_rp rfl (by decide +kernel)) rfl rfl (Nat.le_of_ble_eq_true rfl) dX12_plumb_33 rfl (fun H locs hP hD hS => ?_)
          refine lv_icmp_ge (tgt := 41) hx hb dX12_plumb_36 (by decide) (fun c36 => ?_) (fun c36 => ?_)
          · have h := k_pos c36 h
            refine lv_iinc (v := (y2 + 1)) (lv' := [(2, .int (y2 + 1)), (0, .ref a0), (1, .int y1)]) hx hb dX12_plumb_41 hl (k := 2) rfl (by first | rfl | decide) (by decide) rfl (fun ls hl => ?_)
            refine lv_goto (tgt := 5) hx hb dX12_plumb_44 (by decide) ?_
            exact ih5 y1 (y2 + 1) H locs ls hP hD hS (lv_sub hl [1, 2, 0] rfl) h
          · have h := k_neg c36 h
            refine lv_iload_n hx hb dX12_plumb_39 rfl (lv_at hl 2 rfl) ?_
            refine lv_istore_n (lv' := [(1, .int y2), (0, .ref a0), (2, .int y2)]) hx hb dX12_plumb_40 rfl hl (by decide) rfl (fun ls hl => ?_)
            refine lv_iinc (v := (y2 + 1)) (lv' := [(2, .int (y2 + 1)), (1, .int y2), (0, .ref a0)]) hx hb dX12_plumb_41 hl (k := 2) rfl (by first | rfl | decide) (by decide) rfl (fun ls hl => ?_)
            refine lv_goto (tgt := 5) hx hb dX12_plumb_44 (by decide) ?_
            exact ih5 y2 (y2 + 1) H locs ls hP hD hS (lv_sub hl [2, 1, 0] rfl) h
  refine lv_istore_n (lv' := [(2, .int 0), (1, .int (-4)), (0, .ref a0)]) hx hb dX12_plumb_4 rfl hl (by decide) rfl (fun ls hl => ?_)
  exact B5 lfu (-4) 0 s.heap [] ls hP hD hS (lv_sub hl [2, 1, 0] rfl) h
abbrev rm_X12_turnsRound : Room := { frames := 1, cells := 0, slots := 0, locals := 21 }
set_option maxHeartbeats 4000000 in
set_option maxRecDepth 100000 in
theorem c_MD_turnsRound (l : Launch) (D : va_G) (cI cM cS cJ : ClassId) (a0 : Nat) (sz : Nat) (r0_a : Nat → Int32) {o : (Nat → Int32)} (hsem : S_MD_turnsRound r0_a = some o) : kMet l yX12_turnsRound wsX12_turnsRound rm_X12_turnsRound [.ref a0] D (kT cI cM cS cJ) (Wd41 cI a0 r0_a) sz none (Wd41 cI a0 o) := by
  refine k_metV (by decide) rfl rfl (Nat.le_of_ble_eq_true rfl) ?_
  intro p e s m below meth c ls Q A hx hb hml hts hown hK hN hA hP hD hS hl hsz hnm hret
  have hown : s.vm.findClass RX12 = some m.cls := hown
  replace hl : lv_has ls 2 [(0, .ref a0)] := hl
  have h := hsem
  clear hsem
  rw [S_MD_turnsRound] at h
  refine lv_iconst (v := 0) hx hb dX12_turnsRound_0 (by decide) ?_
  have B2 : ∀ (n2 : Nat) (y1 : Int32) (r0_a : Nat → Int32) (H : Heap) (locs : List Loc) (ls : Array Slot), va_P D vwCl (Wd41 cI a0 r0_a) H → va_D A (Wd41 cI a0 r0_a) → va_S A s.heap H locs → lv_has ls 2 [(0, .ref a0), (1, .int y1)] → S_MD_turnsRound_L2 n2 y1 r0_a = some o → W p l e rm_X12_turnsRound s m ([.ref a0] : List Value).toArray below meth c H locs 0 0 Q (F0 m 2 ls []) := by
    intro n2
    induction n2 with
    | zero => intro y1 r0_a H locs ls hP hD hS hl h; exact absurd h (by simp [S_MD_turnsRound_L2])
    | succ n2 ih2 =>
      intro y1 r0_a H locs ls hP hD hS hl h
      rw [S_MD_turnsRound_L2] at h
      refine lv_iload_n hx hb dX12_turnsRound_2 rfl (lv_at hl 1 rfl) ?_
      refine lv_aload_n hx hb dX12_turnsRound_3 rfl (lv_at hl 0 rfl) ?_
      refine lv_iconst (v := 0) hx hb dX12_turnsRound_4 (by decide) ?_
      refine va_iald hx hb hK hP 0 0 rfl rfl (show ¬ ((0 : Int32) < 0 ∨ 37 ≤ (0 : Int32).toNatClampNeg) by decide) dX12_turnsRound_5 ?_
      refine lv_icmp_ge (tgt := 40) hx hb dX12_turnsRound_6 (by decide) (fun c6 => ?_) (fun c6 => ?_)
      · have h := k_pos c6 h
        have h := Option.some.inj h; subst h
        exact hret _ _ _ _ hP hS dX12_turnsRound_40
      · have h := k_neg c6 h
        refine lv_aload_n hx hb dX12_turnsRound_9 rfl (lv_at hl 0 rfl) ?_
        refine lv_iload_n hx hb dX12_turnsRound_10 rfl (lv_at hl 1 rfl) ?_
        refine lv_iconst (v := 3) hx hb dX12_turnsRound_11 (by decide) ?_
        refine k_callS (As := [.int y1, .int 3]) (rest := [.ref a0]) (st1 := [.int (S_MD_of y1 3), .ref a0]) (ws2 := (Wd41 cI a0 r0_a)) hx hb hml hown hts hK hN hA hP hD hS hl (c_MD_of l D cI cM cS cJ H.size y1 3 rfl) gX12_turnsRound_X12_of rfl kdS_X12_of [] ⟨rfl, rfl⟩ ⟨Nat.le_of_ble_eq_true rfl, Nat.le_of_ble_eq_true rfl⟩ ⟨Nat.zero_le _, Nat.zero_le _⟩ rfl rfl (by decide +kernel) (k_rp rfl (by decide +kernel)) rfl rfl (Nat.le_of_ble_eq_true rfl) dX12_turnsRound_12 rfl (fun H locs hP hD hS => ?_)
        obtain ⟨g15, h⟩ := k_guard h
        refine va_iald hx hb hK hP 0 0 rfl rfl g15 dX12_turnsRound_15 ?_
        refine lv_if_ne (tgt := 34) hx hb dX12_turnsRound_16 (by decide) (fun c16 => ?_) (fun c16 => ?_)
        · have h := k_neg c16 h
          refine lv_iinc (v := (y1 + 1)) (lv' := [(1, .int (y1 + 1)), (0, .ref a0)]) hx hb dX12_turnsRound_34 hl (k := 1) rfl (by first | rfl | decide) (by decide) rfl (fun ls hl => ?_)
          refine lv_goto (tgt := 2) hx hb dX12_turnsRound_37 (by decide) ?_
          exact ih2 (y1 + 1) r0_a H locs ls hP hD hS (lv_sub hl [1, 0] rfl) h
        · have h := k_pos c16 h
          refine lv_aload_n hx hb dX12_turnsRound_19 rfl (lv_at hl 0 rfl) ?_
          refine lv_iload_n hx hb dX12_turnsRound_20 rfl (lv_at hl 1 rfl) ?_
          refine lv_iconst (v := 2) hx hb dX12_turnsRound_21 (by decide) ?_
          refine k_callS (As := [.int y1, .int 2]) (rest := [.ref a0]) (st1 := [.int (S_MD_of y1 2), .ref a0]) (ws2 := (Wd41 cI a0 r0_a)) hx hb hml hown hts hK hN hA hP hD hS hl (c_MD_of l D cI cM cS cJ H.size y1 2 rfl) gX12_turnsRound_X12_of rfl kdS_X12_of [] ⟨rfl, rfl⟩ ⟨Nat.le_of_ble_eq_true rfl, Nat.le_of_ble_eq_true rfl⟩ ⟨Nat.zero_le _, Nat.zero_le _⟩ rfl rfl (by decide +kernel) (k_rp rfl (by decide +kernel)) rfl rfl (Nat.le_of_ble_eq_true rfl) dX12_turnsRound_22 rfl (fun H locs hP hD hS => ?_)
          refine lv_aload_n hx hb dX12_turnsRound_25 rfl (lv_at hl 0 rfl) ?_
          refine lv_iload_n hx hb dX12_turnsRound_26 rfl (lv_at hl 1 rfl) ?_
          refine lv_iconst (v := 2) hx hb dX12_turnsRound_27 (by decide) ?_
          refine k_callS (As := [.int y1, .int 2]) (rest := [.ref a0, .int (S_MD_of y1 2), .ref a0]) (st1 := [.int (S_MD_of y1 2), .ref a0, .int (S_MD_of y1 2), .ref a0]) (ws2 := (Wd41 cI a0 r0_a)) hx hb hml hown hts hK hN hA hP hD hS hl (c_MD_of l D cI cM cS cJ H.size y1 2 rfl) gX12_turnsRound_X12_of rfl kdS_X12_of [] ⟨rfl, rfl⟩ ⟨Nat.le_of_ble_eq_true rfl, Nat.le_of_ble_eq_true rfl⟩ ⟨Nat.zero_le _, Nat.zero_le _⟩ rfl rfl (by decide +kernel) (k_rp rfl (by decide +kernel)) rfl rfl (Nat.le_of_ble_eq_true rfl) dX12_turnsRound_28 rfl (fun H locs hP hD hS => ?_)
          obtain ⟨g31, h⟩ := k_guard h
          refine va_iald hx hb hK hP 0 0 rfl rfl g31 dX12_turnsRound_31 ?_
          refine lv_ineg hx hb dX12_turnsRound_32 ?_
          refine va_iast hx hb hK hP hD hS 0 0 rfl rfl g31 dX12_turnsRound_33 (fun H locs hP hD hS => ?_)
          replace hP : va_P D vwCl (Wd41 cI a0 (upd r0_a (S_MD_of y1 2).toNatClampNeg (-(r0_a (S_MD_of y1 2).toNatClampNeg)))) H := hP
          replace hD : va_D A (Wd41 cI a0 (upd r0_a (S_MD_of y1 2).toNatClampNeg (-(r0_a (S_MD_of y1 2).toNatClampNeg)))) := hD
          refine lv_iinc (v := (y1 + 1)) (lv' := [(1, .int (y1 + 1)), (0, .ref a0)]) hx hb dX12_turnsRound_34 hl (k := 1) rfl (by first | rfl | decide) (by decide) rfl (fun ls hl => ?_)
          refine lv_goto (tgt := 2) hx hb dX12_turnsRound_37 (by decide) ?_
          exact ih2 (y1 + 1) (upd r0_a (S_MD_of y1 2).toNatClampNeg (-(r0_a (S_MD_of y1 2).toNatClampNeg))) H locs ls hP hD hS (lv_sub hl [1, 0] rfl) h
  refine lv_istore_n (lv' := [(1, .int 0), (0, .ref a0)]) hx hb dX12_turnsRound_1 rfl hl (by decide) rfl (fun ls hl => ?_)
  exact B2 lfu 0 r0_a s.heap [] ls hP hD hS (lv_sub hl [1, 0] rfl) h
theorem kdS_X12_plumb : yX12_plumb.cls ≠ "java/lang/invoke/MethodHandle" ∧ yX12_plumb.cls ≠ "java/lang/invoke/VarHandle" ∧ (parseMethodDescriptor yX12_plumb.desc).map (fun d => d.parameters.length) = some 1 := by decide +kernel
abbrev rm_X12_leadGoes : Room := { frames := 2, cells := 0, slots := 0, locals := 43 }
set_option maxHeartbeats 4000000 in
set_option maxRecDepth 100000 in
theorem c_MD_leadGoes (l : Launch) (D : va_G) (cI cM cS cJ : ClassId) (a0 : Nat) (sz : Nat) (r0_a : Nat → Int32) {o : (Nat → Int32)} (hsem : S_MD_leadGoes r0_a = some o) : kMet l yX12_leadGoes wsX12_leadGoes rm_X12_leadGoes [.ref a0] D (kT cI cM cS cJ) (Wd41 cI a0 r0_a) sz none (Wd41 cI a0 o) := by
  refine k_metV (by decide) rfl rfl (Nat.le_of_ble_eq_true rfl) ?_
  intro p e s m below meth c ls Q A hx hb hml hts hown hK hN hA hP hD hS hl hsz hnm hret
  have hown : s.vm.findClass RX12 = some m.cls := hown
  replace hl : lv_has ls 1 [(0, .ref a0)] := hl
  have h := hsem
  clear hsem
  rw [S_MD_leadGoes] at h
  refine lv_aload_n hx hb dX12_leadGoes_0 rfl (lv_at hl 0 rfl) ?_
  refine lv_iconst (v := 0) hx hb dX12_leadGoes_1 (by decide) ?_
  refine va_iald hx hb hK hP 0 0 rfl rfl (show ¬ ((0 : Int32) < 0 ∨ 37 ≤ (0 : Int32).toNatClampNeg) by decide) dX12_leadGoes_2 ?_
  refine lv_if_ne (tgt := 7) hx hb dX12_leadGoes_3 (by decide) (fun c3 => ?_) (fun c3 => ?_)
  · have h := k_neg c3 h
    refine lv_aload_n hx hb dX12_leadGoes_7 rfl (lv_at hl 0 rfl) ?_
    refine lv_iconst (v := 3) hx hb dX12_leadGoes_8 (by decide) ?_
    refine va_iald hx hb hK hP 0 0 rfl rfl (show ¬ ((3 : Int32) < 0 ∨ 37 ≤ (3 : Int32).toNatClampNeg) by decide) dX12_leadGoes_9 ?_
    refine lv_if_le (tgt := 37) hx hb dX12_leadGoes_10 (by decide) (fun c10 => ?_) (fun c10 => ?_)
    · have h := k_pos c10 h
      refine lv_aload_n hx hb dX12_leadGoes_37 rfl (lv_at hl 0 rfl) ?_
      refine lv_iconst (v := 2) hx hb dX12_leadGoes_38 (by decide) ?_
      refine lv_dup2_11 hx hb dX12_leadGoes_39 rfl rfl ?_
      refine va_iald hx hb hK hP 0 0 rfl rfl (show ¬ ((2 : Int32) < 0 ∨ 37 ≤ (2 : Int32).toNatClampNeg) by decide) dX12_leadGoes_40 ?_
      refine lv_aload_n hx hb dX12_leadGoes_41 rfl (lv_at hl 0 rfl) ?_
      obtain ⟨r42, g42, h⟩ := k_bind h
      refine k_callS (As := [.ref a0]) (rest := [.int (r0_a (2 : Int32).toNatClampNeg), .int 2, .ref a0]) (st1 := [.int r42, .int (r0_a (2 : Int32).toNatClampNeg), .int 2, .ref a0]) (ws2 := (Wd41 cI a0 r0_a)) hx hb hml hown hts hK hN hA hP hD hS hl (c_MD_plumb l D cI cM cS cJ a0 s.heap.size r0_a g42) gX12_leadGoes_X12_plumb rfl kdS_X12_plumb [0] ⟨rfl, rfl⟩ ⟨Nat.le_of_ble_eq_true rfl, Nat.le_of_ble_eq_true rfl⟩ ⟨Nat.zero_le _, Nat.zero_le _⟩ rfl rfl (by decide +kernel) (k_rp rfl (by decide +kernel)) rfl rfl (Nat.le_of_ble_eq_true rfl) dX12_leadGoes_42 rfl (fun H locs hP hD hS => ?_)
      refine lv_aload_n hx hb dX12_leadGoes_45 rfl (lv_at hl 0 rfl) ?_
      refine lv_iconst (v := 2) hx hb dX12_leadGoes_46 (by decide) ?_
      refine va_iald hx hb hK hP 0 0 rfl rfl (show ¬ ((2 : Int32) < 0 ∨ 37 ≤ (2 : Int32).toNatClampNeg) by decide) dX12_leadGoes_47 ?_
      refine lv_isub hx hb dX12_leadGoes_48 ?_
      refine k_callS (As := [.int (r42 - (r0_a (2 : Int32).toNatClampNeg))]) (rest := [.int (r0_a (2 : Int32).toNatClampNeg), .int 2, .ref a0]) (st1 := [.int (S_MD_signOf (r42 - (r0_a (2 : Int32).toNatClampNeg))), .int (r0_a (2 : Int32).toNatClampNeg), .int 2, .ref a0]) (ws2 := (Wd41 cI a0 r0_a)) hx hb hml hown hts hK hN hA hP hD hS hl (c_MD_signOf l D cI cM cS cJ H.size (r42 - (r0_a (2 : Int32).toNatClampNeg)) rfl) gX12_leadGoes_X12_signOf rfl kdS_X12_signOf [] ⟨rfl, rfl⟩ ⟨Nat.le_of_ble_eq_true rfl, Nat.le_of_ble_eq_true rfl⟩ ⟨Nat.zero_le _, Nat.zero_le _⟩ rfl rfl (by decide +kernel) (k_rp rfl (by decide +kernel)) rfl rfl (Nat.le_of_ble_eq_true rfl) dX12_leadGoes_49 rfl (fun H locs hP hD hS => ?_)
      refine lv_iadd hx hb dX12_leadGoes_52 ?_
      refine va_iast hx hb hK hP hD hS 0 0 rfl rfl (show ¬ ((2 : Int32) < 0 ∨ 37 ≤ (2 : Int32).toNatClampNeg) by decide) dX12_leadGoes_53 (fun H locs hP hD hS => ?_)
      replace hP : va_P D vwCl (Wd41 cI a0 (upd r0_a (2 : Int32).toNatClampNeg ((r0_a (2 : Int32).toNatClampNeg) + (S_MD_signOf (r42 - (r0_a (2 : Int32).toNatClampNeg)))))) H := hP
      replace hD : va_D A (Wd41 cI a0 (upd r0_a (2 : Int32).toNatClampNeg ((r0_a (2 : Int32).toNatClampNeg) + (S_MD_signOf (r42 - (r0_a (2 : Int32).toNatClampNeg)))))) := hD
      have h := Option.some.inj h; subst h
      exact hret _ _ _ _ hP hS dX12_leadGoes_54
    · have h := k_neg c10 h
      refine lv_aload_n hx hb dX12_leadGoes_13 rfl (lv_at hl 0 rfl) ?_
      refine lv_iconst (v := 2) hx hb dX12_leadGoes_14 (by decide) ?_
      refine lv_aload_n hx hb dX12_leadGoes_15 rfl (lv_at hl 0 rfl) ?_
      refine lv_iconst (v := 2) hx hb dX12_leadGoes_16 (by decide) ?_
      refine va_iald hx hb hK hP 0 0 rfl rfl (show ¬ ((2 : Int32) < 0 ∨ 37 ≤ (2 : Int32).toNatClampNeg) by decide) dX12_leadGoes_17 ?_
      refine lv_iconst (v := 1) hx hb dX12_leadGoes_18 (by decide) ?_
      refine lv_iadd hx hb dX12_leadGoes_19 ?_
      refine lv_aload_n hx hb dX12_leadGoes_20 rfl (lv_at hl 0 rfl) ?_
      refine lv_iconst (v := 0) hx hb dX12_leadGoes_21 (by decide) ?_
      refine va_iald hx hb hK hP 0 0 rfl rfl (show ¬ ((0 : Int32) < 0 ∨ 37 ≤ (0 : Int32).toNatClampNeg) by decide) dX12_leadGoes_22 ?_
      refine lv_icmp_lt (tgt := 30) hx hb dX12_leadGoes_23 (by decide) (fun c23 => ?_) (fun c23 => ?_)
      · have h := k_pos c23 h
        refine lv_aload_n hx hb dX12_leadGoes_30 rfl (lv_at hl 0 rfl) ?_
        refine lv_iconst (v := 2) hx hb dX12_leadGoes_31 (by decide) ?_
        refine va_iald hx hb hK hP 0 0 rfl rfl (show ¬ ((2 : Int32) < 0 ∨ 37 ≤ (2 : Int32).toNatClampNeg) by decide) dX12_leadGoes_32 ?_
        refine lv_iconst (v := 1) hx hb dX12_leadGoes_33 (by decide) ?_
        refine lv_iadd hx hb dX12_leadGoes_34 ?_
        refine va_iast hx hb hK hP hD hS 0 0 rfl rfl (show ¬ ((2 : Int32) < 0 ∨ 37 ≤ (2 : Int32).toNatClampNeg) by decide) dX12_leadGoes_35 (fun H locs hP hD hS => ?_)
        replace hP : va_P D vwCl (Wd41 cI a0 (upd r0_a (2 : Int32).toNatClampNeg ((r0_a (2 : Int32).toNatClampNeg) + 1))) H := hP
        replace hD : va_D A (Wd41 cI a0 (upd r0_a (2 : Int32).toNatClampNeg ((r0_a (2 : Int32).toNatClampNeg) + 1))) := hD
        have h := Option.some.inj h; subst h
        exact hret _ _ _ _ hP hS dX12_leadGoes_36
      · have h := k_neg c23 h
        refine lv_iconst (v := 0) hx hb dX12_leadGoes_26 (by decide) ?_
        refine lv_goto (tgt := 35) hx hb dX12_leadGoes_27 (by decide) ?_
        refine va_iast hx hb hK hP hD hS 0 0 rfl rfl (show ¬ ((2 : Int32) < 0 ∨ 37 ≤ (2 : Int32).toNatClampNeg) by decide) dX12_leadGoes_35 (fun H locs hP hD hS => ?_)
        replace hP : va_P D vwCl (Wd41 cI a0 (upd r0_a (2 : Int32).toNatClampNeg 0)) H := hP
        replace hD : va_D A (Wd41 cI a0 (upd r0_a (2 : Int32).toNatClampNeg 0)) := hD
        have h := Option.some.inj h; subst h
        exact hret _ _ _ _ hP hS dX12_leadGoes_36
  · have h := k_pos c3 h
    have h := Option.some.inj h; subst h
    exact hret _ _ _ _ hP hS dX12_leadGoes_6
theorem kdS_X12_upright : yX12_upright.cls ≠ "java/lang/invoke/MethodHandle" ∧ yX12_upright.cls ≠ "java/lang/invoke/VarHandle" ∧ (parseMethodDescriptor yX12_upright.desc).map (fun d => d.parameters.length) = some 1 := by decide +kernel
theorem kdS_X12_bits : yX12_bits.cls ≠ "java/lang/invoke/MethodHandle" ∧ yX12_bits.cls ≠ "java/lang/invoke/VarHandle" ∧ (parseMethodDescriptor yX12_bits.desc).map (fun d => d.parameters.length) = some 1 := by decide +kernel
theorem kdS_X12_leadGoes : yX12_leadGoes.cls ≠ "java/lang/invoke/MethodHandle" ∧ yX12_leadGoes.cls ≠ "java/lang/invoke/VarHandle" ∧ (parseMethodDescriptor yX12_leadGoes.desc).map (fun d => d.parameters.length) = some 1 := by decide +kernel
theorem kdS_X12_turnsRound : yX12_turnsRound.cls ≠ "java/lang/invoke/MethodHandle" ∧ yX12_turnsRound.cls ≠ "java/lang/invoke/VarHandle" ∧ (parseMethodDescriptor yX12_turnsRound.desc).map (fun d => d.parameters.length) = some 1 := by decide +kernel
theorem kdS_X12_movesBy : yX12_movesBy.cls ≠ "java/lang/invoke/MethodHandle" ∧ yX12_movesBy.cls ≠ "java/lang/invoke/VarHandle" ∧ (parseMethodDescriptor yX12_movesBy.desc).map (fun d => d.parameters.length) = some 5 := by decide +kernel
theorem kdS_X12_held : yX12_held.cls ≠ "java/lang/invoke/MethodHandle" ∧ yX12_held.cls ≠ "java/lang/invoke/VarHandle" ∧ (parseMethodDescriptor yX12_held.desc).map (fun d => d.parameters.length) = some 1 := by decide +kernel
theorem kdS_X12_leanSum : yX12_leanSum.cls ≠ "java/lang/invoke/MethodHandle" ∧ yX12_leanSum.cls ≠ "java/lang/invoke/VarHandle" ∧ (parseMethodDescriptor yX12_leanSum.desc).map (fun d => d.parameters.length) = some 1 := by decide +kernel
abbrev rm_X12_day : Room := { frames := 3, cells := 0, slots := 0, locals := 67 }
set_option maxHeartbeats 4000000 in
set_option maxRecDepth 100000 in
theorem c_MD_day (l : Launch) (D : va_G) (cI cM cS cJ : ClassId) (a0 : Nat) (sz : Nat) (r0_a : Nat → Int32) {o : (Nat → Int32)} (hsem : S_MD_day r0_a = some o) : kMet l yX12_day wsX12_day rm_X12_day [.ref a0] D (kT cI cM cS cJ) (Wd41 cI a0 r0_a) sz none (Wd41 cI a0 o) := by
  refine k_metV (by decide) rfl rfl (Nat.le_of_ble_eq_true rfl) ?_
  intro p e s m below meth c ls Q A hx hb hml hts hown hK hN hA hP hD hS hl hsz hnm hret
  have hown : s.vm.findClass RX12 = some m.cls := hown
  replace hl : lv_has ls 4 [(0, .ref a0)] := hl
  have h := hsem
  clear hsem
  rw [S_MD_day] at h
  refine lv_aload_n hx hb dX12_day_0 rfl (lv_at hl 0 rfl) ?_
  refine lv_iconst (v := 1) hx hb dX12_day_1 (by decide) ?_
  refine lv_dup2_11 hx hb dX12_day_2 rfl rfl ?_
  refine va_iald hx hb hK hP 0 0 rfl rfl (show ¬ ((1 : Int32) < 0 ∨ 37 ≤ (1 : Int32).toNatClampNeg) by decide) dX12_day_3 ?_
  refine lv_iconst (v := 1) hx hb dX12_day_4 (by decide) ?_
  refine lv_iadd hx hb dX12_day_5 ?_
  refine va_iast hx hb hK hP hD hS 0 0 rfl rfl (show ¬ ((1 : Int32) < 0 ∨ 37 ≤ (1 : Int32).toNatClampNeg) by decide) dX12_day_6 (fun H locs hP hD hS => ?_)
  replace hP : va_P D vwCl (Wd41 cI a0 (upd r0_a (1 : Int32).toNatClampNeg ((r0_a (1 : Int32).toNatClampNeg) + 1))) H := hP
  replace hD : va_D A (Wd41 cI a0 (upd r0_a (1 : Int32).toNatClampNeg ((r0_a (1 : Int32).toNatClampNeg) + 1))) := hD
  refine lv_aload_n hx hb dX12_day_7 rfl (lv_at hl 0 rfl) ?_
  refine lv_iconst (v := 0) hx hb dX12_day_8 (by decide) ?_
  refine va_iald hx hb hK hP 0 0 rfl rfl (show ¬ ((0 : Int32) < 0 ∨ 37 ≤ (0 : Int32).toNatClampNeg) by decide) dX12_day_9 ?_
  have B25 : ∀ (v0 : Int32) (r0_a : Nat → Int32) (H : Heap) (locs : List Loc) (ls : Array Slot), va_P D vwCl (Wd41 cI a0 r0_a) H → va_D A (Wd41 cI a0 r0_a) → va_S A s.heap H locs → lv_has ls 4 [(0, .ref a0)] → S_MD_day_J25 v0 r0_a = some o → W p l e rm_X12_day s m ([.ref a0] : List Value).toArray below meth c H locs 0 0 Q (F0 m 25 ls [.int v0]) := by
    intro v0 r0_a H locs ls hP hD hS hl h
    rw [S_MD_day_J25] at h
    refine lv_istore_n (lv' := [(1, .int v0), (0, .ref a0)]) hx hb dX12_day_25 rfl hl (by decide) rfl (fun ls hl => ?_)
    refine lv_iconst (v := 0) hx hb dX12_day_26 (by decide) ?_
    have B28 : ∀ (y1 : Int32) (n28 : Nat) (y2 : Int32) (r0_a : Nat → Int32) (H : Heap) (locs : List Loc) (ls : Array Slot), va_P D vwCl (Wd41 cI a0 r0_a) H → va_D A (Wd41 cI a0 r0_a) → va_S A s.heap H locs → lv_has ls 4 [(0, .ref a0), (1, .int y1), (2, .int y2)] → S_MD_day_L28 y1 n28 y2 r0_a = some o → W p l e rm_X12_day s m ([.ref a0] : List Value).toArray below meth c H locs 0 0 Q (F0 m 28 ls []) := by
      intro y1
      intro n28
      induction n28 with
      | zero => intro y2 r0_a H locs ls hP hD hS hl h; exact absurd h (by simp [S_MD_day_L28])
      | succ n28 ih28 =>
        intro y2 r0_a H locs ls hP hD hS hl h
        rw [S_MD_day_L28] at h
        refine lv_iload_n hx hb dX12_day_28 rfl (lv_at hl 2 rfl) ?_
        refine lv_aload_n hx hb dX12_day_29 rfl (lv_at hl 0 rfl) ?_
        refine lv_iconst (v := 0) hx hb dX12_day_30 (by decide) ?_
        refine va_iald hx hb hK hP 0 0 rfl rfl (show ¬ ((0 : Int32) < 0 ∨ 37 ≤ (0 : Int32).toNatClampNeg) by decide) dX12_day_31 ?_
        refine lv_icmp_ge (tgt := 97) hx hb dX12_day_32 (by decide) (fun c32 => ?_) (fun c32 => ?_)
        · have h := k_pos c32 h
          refine lv_aload_n hx hb dX12_day_97 rfl (lv_at hl 0 rfl) ?_
          obtain ⟨r98, g98, h⟩ := k_bind h
          refine k_callS (As := [.ref a0]) (rest := []) (st1 := [.int r98]) (ws2 := (Wd41 cI a0 r0_a)) hx hb hml hown hts hK hN hA hP hD hS hl (c_MD_upright l D cI cM cS cJ a0 H.size r0_a g98) gX12_day_X12_upright rfl kdS_X12_upright [0] ⟨rfl, rfl⟩ ⟨Nat.le_of_ble_eq_true rfl, Nat.le_of_ble_eq_true rfl⟩ ⟨Nat.zero_le _, Nat.zero_le _⟩ rfl rfl (by decide +kernel) (k_rp rfl (by decide +kernel)) rfl rfl (Nat.le_of_ble_eq_true rfl) dX12_day_98 rfl (fun H locs hP hD hS => ?_)
          obtain ⟨r101, g101, h⟩ := k_bind h
          refine k_callS (As := [.int r98]) (rest := []) (st1 := [.int r101]) (ws2 := (Wd41 cI a0 r0_a)) hx hb hml hown hts hK hN hA hP hD hS hl (c_MD_bits l D cI cM cS cJ H.size r98 g101) gX12_day_X12_bits rfl kdS_X12_bits [] ⟨rfl, rfl⟩ ⟨Nat.le_of_ble_eq_true rfl, Nat.le_of_ble_eq_true rfl⟩ ⟨Nat.zero_le _, Nat.zero_le _⟩ rfl rfl (by decide +kernel) (k_rp rfl (by decide +kernel)) rfl rfl (Nat.le_of_ble_eq_true rfl) dX12_day_101 rfl (fun H locs hP hD hS => ?_)
          refine lv_aload_n hx hb dX12_day_104 rfl (lv_at hl 0 rfl) ?_
          refine lv_iconst (v := 0) hx hb dX12_day_105 (by decide) ?_
          refine va_iald hx hb hK hP 0 0 rfl rfl (show ¬ ((0 : Int32) < 0 ∨ 37 ≤ (0 : Int32).toNatClampNeg) by decide) dX12_day_106 ?_
          refine lv_iconst (v := 2) hx hb dX12_day_107 (by decide) ?_
          refine lv_idiv hx hb dX12_day_108 (by decide) ?_
          refine lv_icmp_ge (tgt := 138) hx hb dX12_day_109 (by decide) (fun c109 => ?_) (fun c109 => ?_)
          · have h := k_pos c109 h
            refine lv_aload_n hx hb dX12_day_138 rfl (lv_at hl 0 rfl) ?_
            refine lv_iconst (v := 3) hx hb dX12_day_139 (by decide) ?_
            refine va_iald hx hb hK hP 0 0 rfl rfl (show ¬ ((3 : Int32) < 0 ∨ 37 ≤ (3 : Int32).toNatClampNeg) by decide) dX12_day_140 ?_
            refine lv_if_le (tgt := 151) hx hb dX12_day_141 (by decide) (fun c141 => ?_) (fun c141 => ?_)
            · have h := k_pos c141 h
              refine lv_aload_n hx hb dX12_day_151 rfl (lv_at hl 0 rfl) ?_
              obtain ⟨r152, g152, h⟩ := k_bind h
              refine k_callS (As := [.ref a0]) (rest := []) (st1 := []) (ws2 := (Wd41 cI a0 r152)) hx hb hml hown hts hK hN hA hP hD hS hl (c_MD_leadGoes l D cI cM cS cJ a0 H.size r0_a g152) gX12_day_X12_leadGoes rfl kdS_X12_leadGoes [0] ⟨rfl, rfl⟩ ⟨Nat.le_of_ble_eq_true rfl, Nat.le_of_ble_eq_true rfl⟩ ⟨Nat.zero_le _, Nat.zero_le _⟩ rfl rfl (by decide +kernel) (k_rp rfl (by decide +kernel)) rfl rfl (Nat.le_of_ble_eq_true rfl) dX12_day_152 rfl (fun H locs hP hD hS => ?_)
              have h := Option.some.inj h; subst h
              exact hret _ _ _ _ hP hS dX12_day_155
            · have h := k_neg c141 h
              refine lv_aload_n hx hb dX12_day_144 rfl (lv_at hl 0 rfl) ?_
              refine lv_iconst (v := 3) hx hb dX12_day_145 (by decide) ?_
              refine lv_dup2_11 hx hb dX12_day_146 rfl rfl ?_
              refine va_iald hx hb hK hP 0 0 rfl rfl (show ¬ ((3 : Int32) < 0 ∨ 37 ≤ (3 : Int32).toNatClampNeg) by decide) dX12_day_147 ?_
              refine lv_iconst (v := 1) hx hb dX12_day_148 (by decide) ?_
              refine lv_isub hx hb dX12_day_149 ?_
              refine va_iast hx hb hK hP hD hS 0 0 rfl rfl (show ¬ ((3 : Int32) < 0 ∨ 37 ≤ (3 : Int32).toNatClampNeg) by decide) dX12_day_150 (fun H locs hP hD hS => ?_)
              replace hP : va_P D vwCl (Wd41 cI a0 (upd r0_a (3 : Int32).toNatClampNeg ((r0_a (3 : Int32).toNatClampNeg) - 1))) H := hP
              replace hD : va_D A (Wd41 cI a0 (upd r0_a (3 : Int32).toNatClampNeg ((r0_a (3 : Int32).toNatClampNeg) - 1))) := hD
              refine lv_aload_n hx hb dX12_day_151 rfl (lv_at hl 0 rfl) ?_
              obtain ⟨r152, g152, h⟩ := k_bind h
              refine k_callS (As := [.ref a0]) (rest := []) (st1 := []) (ws2 := (Wd41 cI a0 r152)) hx hb hml hown hts hK hN hA hP hD hS hl (c_MD_leadGoes l D cI cM cS cJ a0 H.size (upd r0_a (3 : Int32).toNatClampNeg ((r0_a (3 : Int32).toNatClampNeg) - 1)) g152) gX12_day_X12_leadGoes rfl kdS_X12_leadGoes [0] ⟨rfl, rfl⟩ ⟨Nat.le_of_ble_eq_true rfl, Nat.le_of_ble_eq_true rfl⟩ ⟨Nat.zero_le _, Nat.zero_le _⟩ rfl rfl (by decide +kernel) (k_rp rfl (by decide +kernel)) rfl rfl (Nat.le_of_ble_eq_true rfl) dX12_day_152 rfl (fun H locs hP hD hS => ?_)
              have h := Option.some.inj h; subst h
              exact hret _ _ _ _ hP hS dX12_day_155
          · have h := k_neg c109 h
            refine lv_aload_n hx hb dX12_day_112 rfl (lv_at hl 0 rfl) ?_
            refine lv_iconst (v := 4) hx hb dX12_day_113 (by decide) ?_
            refine lv_sipush (v := 999) hx hb dX12_day_114 (by decide) ?_
            refine lv_aload_n hx hb dX12_day_117 rfl (lv_at hl 0 rfl) ?_
            refine lv_iconst (v := 4) hx hb dX12_day_118 (by decide) ?_
            refine va_iald hx hb hK hP 0 0 rfl rfl (show ¬ ((4 : Int32) < 0 ∨ 37 ≤ (4 : Int32).toNatClampNeg) by decide) dX12_day_119 ?_
            refine lv_iconst (v := 1) hx hb dX12_day_120 (by decide) ?_
            refine lv_iadd hx hb dX12_day_121 ?_
            refine k_callS (As := [.int 999, .int ((r0_a (4 : Int32).toNatClampNeg) + 1)]) (rest := [.int 4, .ref a0]) (st1 := [.int (S_MD_least 999 ((r0_a (4 : Int32).toNatClampNeg) + 1)), .int 4, .ref a0]) (ws2 := (Wd41 cI a0 r0_a)) hx hb hml hown hts hK hN hA hP hD hS hl (c_MD_least l D cI cM cS cJ H.size 999 ((r0_a (4 : Int32).toNatClampNeg) + 1) rfl) gX12_day_X12_least rfl kdS_X12_least [] ⟨rfl, rfl⟩ ⟨Nat.le_of_ble_eq_true rfl, Nat.le_of_ble_eq_true rfl⟩ ⟨Nat.zero_le _, Nat.zero_le _⟩ rfl rfl (by decide +kernel) (k_rp rfl (by decide +kernel)) rfl rfl (Nat.le_of_ble_eq_true rfl) dX12_day_122 rfl (fun H locs hP hD hS => ?_)
            refine va_iast hx hb hK hP hD hS 0 0 rfl rfl (show ¬ ((4 : Int32) < 0 ∨ 37 ≤ (4 : Int32).toNatClampNeg) by decide) dX12_day_125 (fun H locs hP hD hS => ?_)
            replace hP : va_P D vwCl (Wd41 cI a0 (upd r0_a (4 : Int32).toNatClampNeg (S_MD_least 999 ((r0_a (4 : Int32).toNatClampNeg) + 1)))) H := hP
            replace hD : va_D A (Wd41 cI a0 (upd r0_a (4 : Int32).toNatClampNeg (S_MD_least 999 ((r0_a (4 : Int32).toNatClampNeg) + 1)))) := hD
            refine lv_aload_n hx hb dX12_day_126 rfl (lv_at hl 0 rfl) ?_
            obtain ⟨r127, g127, h⟩ := k_bind h
            refine k_callS (As := [.ref a0]) (rest := []) (st1 := []) (ws2 := (Wd41 cI a0 r127)) hx hb hml hown hts hK hN hA hP hD hS hl (c_MD_turnsRound l D cI cM cS cJ a0 H.size (upd r0_a (4 : Int32).toNatClampNeg (S_MD_least 999 ((r0_a (4 : Int32).toNatClampNeg) + 1))) g127) gX12_day_X12_turnsRound rfl kdS_X12_turnsRound [0] ⟨rfl, rfl⟩ ⟨Nat.le_of_ble_eq_true rfl, Nat.le_of_ble_eq_true rfl⟩ ⟨Nat.zero_le _, Nat.zero_le _⟩ rfl rfl (by decide +kernel) (k_rp rfl (by decide +kernel)) rfl rfl (Nat.le_of_ble_eq_true rfl) dX12_day_127 rfl (fun H locs hP hD hS => ?_)
            refine lv_aload_n hx hb dX12_day_130 rfl (lv_at hl 0 rfl) ?_
            refine lv_iconst (v := 3) hx hb dX12_day_131 (by decide) ?_
            refine lv_bipush (v := 9) hx hb dX12_day_132 (by decide) ?_
            refine va_iast hx hb hK hP hD hS 0 0 rfl rfl (show ¬ ((3 : Int32) < 0 ∨ 37 ≤ (3 : Int32).toNatClampNeg) by decide) dX12_day_134 (fun H locs hP hD hS => ?_)
            replace hP : va_P D vwCl (Wd41 cI a0 (upd r127 (3 : Int32).toNatClampNeg 9)) H := hP
            replace hD : va_D A (Wd41 cI a0 (upd r127 (3 : Int32).toNatClampNeg 9)) := hD
            refine lv_goto (tgt := 151) hx hb dX12_day_135 (by decide) ?_
            refine lv_aload_n hx hb dX12_day_151 rfl (lv_at hl 0 rfl) ?_
            obtain ⟨r152, g152, h⟩ := k_bind h
            refine k_callS (As := [.ref a0]) (rest := []) (st1 := []) (ws2 := (Wd41 cI a0 r152)) hx hb hml hown hts hK hN hA hP hD hS hl (c_MD_leadGoes l D cI cM cS cJ a0 H.size (upd r127 (3 : Int32).toNatClampNeg 9) g152) gX12_day_X12_leadGoes rfl kdS_X12_leadGoes [0] ⟨rfl, rfl⟩ ⟨Nat.le_of_ble_eq_true rfl, Nat.le_of_ble_eq_true rfl⟩ ⟨Nat.zero_le _, Nat.zero_le _⟩ rfl rfl (by decide +kernel) (k_rp rfl (by decide +kernel)) rfl rfl (Nat.le_of_ble_eq_true rfl) dX12_day_152 rfl (fun H locs hP hD hS => ?_)
            have h := Option.some.inj h; subst h
            exact hret _ _ _ _ hP hS dX12_day_155
        · have h := k_neg c32 h
          refine lv_aload_n hx hb dX12_day_35 rfl (lv_at hl 0 rfl) ?_
          refine lv_iload_n hx hb dX12_day_36 rfl (lv_at hl 2 rfl) ?_
          refine lv_iconst (v := 3) hx hb dX12_day_37 (by decide) ?_
          refine k_callS (As := [.int y2, .int 3]) (rest := [.ref a0]) (st1 := [.int (S_MD_of y2 3), .ref a0]) (ws2 := (Wd41 cI a0 r0_a)) hx hb hml hown hts hK hN hA hP hD hS hl (c_MD_of l D cI cM cS cJ H.size y2 3 rfl) gX12_day_X12_of rfl kdS_X12_of [] ⟨rfl, rfl⟩ ⟨Nat.le_of_ble_eq_true rfl, Nat.le_of_ble_eq_true rfl⟩ ⟨Nat.zero_le _, Nat.zero_le _⟩ rfl rfl (by decide +kernel) (k_rp rfl (by decide +kernel)) rfl rfl (Nat.le_of_ble_eq_true rfl) dX12_day_38 rfl (fun H locs hP hD hS => ?_)
          obtain ⟨g41, h⟩ := k_guard h
          refine va_iald hx hb hK hP 0 0 rfl rfl g41 dX12_day_41 ?_
          refine lv_iconst (v := 1) hx hb dX12_day_42 (by decide) ?_
          refine lv_icmp_ne (tgt := 49) hx hb dX12_day_43 (by decide) (fun c43 => ?_) (fun c43 => ?_)
          · have h := k_neg c43 h
            refine lv_aload_n hx hb dX12_day_49 rfl (lv_at hl 0 rfl) ?_
            refine lv_iload_n hx hb dX12_day_50 rfl (lv_at hl 2 rfl) ?_
            refine lv_iconst (v := 2) hx hb dX12_day_51 (by decide) ?_
            refine k_callS (As := [.int y2, .int 2]) (rest := [.ref a0]) (st1 := [.int (S_MD_of y2 2), .ref a0]) (ws2 := (Wd41 cI a0 r0_a)) hx hb hml hown hts hK hN hA hP hD hS hl (c_MD_of l D cI cM cS cJ H.size y2 2 rfl) gX12_day_X12_of rfl kdS_X12_of [] ⟨rfl, rfl⟩ ⟨Nat.le_of_ble_eq_true rfl, Nat.le_of_ble_eq_true rfl⟩ ⟨Nat.zero_le _, Nat.zero_le _⟩ rfl rfl (by decide +kernel) (k_rp rfl (by decide +kernel)) rfl rfl (Nat.le_of_ble_eq_true rfl) dX12_day_52 rfl (fun H locs hP hD hS => ?_)
            obtain ⟨g55, h⟩ := k_guard h
            refine va_iald hx hb hK hP 0 0 rfl rfl g55 dX12_day_55 ?_
            refine lv_istore_n (lv' := [(3, .int (r0_a (S_MD_of y2 2).toNatClampNeg)), (0, .ref a0), (1, .int y1), (2, .int y2)]) hx hb dX12_day_56 rfl hl (by decide) rfl (fun ls hl => ?_)
            refine lv_aload_n hx hb dX12_day_57 rfl (lv_at hl 1 rfl) ?_
            refine lv_iload_n hx hb dX12_day_58 rfl (lv_at hl 3 rfl) ?_
            refine lv_iconst (v := 2) hx hb dX12_day_59 (by decide) ?_
            refine k_callS (As := [.int y2, .int 2]) (rest := [.ref a0]) (st1 := [.int (S_MD_of y2 2), .ref a0]) (ws2 := (Wd41 cI a0 r0_a)) hx hb hml hown hts hK hN hA hP hD hS hl (c_MD_of l D cI cM cS cJ H.size y2 2 rfl) gX12_day_X12_of rfl kdS_X12_of [] ⟨rfl, rfl⟩ ⟨Nat.le_of_ble_eq_true rfl, Nat.le_of_ble_eq_true rfl⟩ ⟨Nat.zero_le _, Nat.zero_le _⟩ rfl rfl (by decide +kernel) (k_rp rfl (by decide +kernel)) rfl rfl (Nat.le_of_ble_eq_true rfl) dX12_day_60 rfl (fun H locs hP hD hS => ?_)
            refine lv_iload_n hx hb dX12_day_63 rfl (lv_at hl 0 rfl) ?_
            refine lv_aload_n hx hb dX12_day_64 rfl (lv_at hl 1 rfl) ?_
            refine lv_iload_n hx hb dX12_day_65 rfl (lv_at hl 3 rfl) ?_
            refine lv_iconst (v := 0) hx hb dX12_day_66 (by decide) ?_
            refine k_callS (As := [.int y2, .int 0]) (rest := [.ref a0, .int (r0_a (S_MD_of y2 2).toNatClampNeg), .int (S_MD_of y2 2), .ref a0]) (st1 := [.int (S_MD_of y2 0), .ref a0, .int (r0_a (S_MD_of y2 2).toNatClampNeg), .int (S_MD_of y2 2), .ref a0]) (ws2 := (Wd41 cI a0 r0_a)) hx hb hml hown hts hK hN hA hP hD hS hl (c_MD_of l D cI cM cS cJ H.size y2 0 rfl) gX12_day_X12_of rfl kdS_X12_of [] ⟨rfl, rfl⟩ ⟨Nat.le_of_ble_eq_true rfl, Nat.le_of_ble_eq_true rfl⟩ ⟨Nat.zero_le _, Nat.zero_le _⟩ rfl rfl (by decide +kernel) (k_rp rfl (by decide +kernel)) rfl rfl (Nat.le_of_ble_eq_true rfl) dX12_day_67 rfl (fun H locs hP hD hS => ?_)
            obtain ⟨g70, h⟩ := k_guard h
            refine va_iald hx hb hK hP 0 0 rfl rfl g70 dX12_day_70 ?_
            refine lv_aload_n hx hb dX12_day_71 rfl (lv_at hl 1 rfl) ?_
            refine lv_iload_n hx hb dX12_day_72 rfl (lv_at hl 3 rfl) ?_
            refine lv_iconst (v := 1) hx hb dX12_day_73 (by decide) ?_
            refine k_callS (As := [.int y2, .int 1]) (rest := [.ref a0, .int (r0_a (S_MD_of y2 0).toNatClampNeg), .int (r0_a (S_MD_of y2 2).toNatClampNeg), .int (S_MD_of y2 2), .ref a0]) (st1 := [.int (S_MD_of y2 1), .ref a0, .int (r0_a (S_MD_of y2 0).toNatClampNeg), .int (r0_a (S_MD_of y2 2).toNatClampNeg), .int (S_MD_of y2 2), .ref a0]) (ws2 := (Wd41 cI a0 r0_a)) hx hb hml hown hts hK hN hA hP hD hS hl (c_MD_of l D cI cM cS cJ H.size y2 1 rfl) gX12_day_X12_of rfl kdS_X12_of [] ⟨rfl, rfl⟩ ⟨Nat.le_of_ble_eq_true rfl, Nat.le_of_ble_eq_true rfl⟩ ⟨Nat.zero_le _, Nat.zero_le _⟩ rfl rfl (by decide +kernel) (k_rp rfl (by decide +kernel)) rfl rfl (Nat.le_of_ble_eq_true rfl) dX12_day_74 rfl (fun H locs hP hD hS => ?_)
            obtain ⟨g77, h⟩ := k_guard h
            refine va_iald hx hb hK hP 0 0 rfl rfl g77 dX12_day_77 ?_
            refine lv_iload_n hx hb dX12_day_78 rfl (lv_at hl 0 rfl) ?_
            refine lv_iload_n hx hb dX12_day_79 rfl (lv_at hl 2 rfl) ?_
            refine lv_aload_n hx hb dX12_day_80 rfl (lv_at hl 1 rfl) ?_
            refine lv_iconst (v := 1) hx hb dX12_day_81 (by decide) ?_
            refine va_iald hx hb hK hP 0 0 rfl rfl (show ¬ ((1 : Int32) < 0 ∨ 37 ≤ (1 : Int32).toNatClampNeg) by decide) dX12_day_82 ?_
            refine k_callS (As := [.int (r0_a (S_MD_of y2 0).toNatClampNeg), .int (r0_a (S_MD_of y2 1).toNatClampNeg), .int (r0_a (S_MD_of y2 2).toNatClampNeg), .int y1, .int (r0_a (1 : Int32).toNatClampNeg)]) (rest := [.int (r0_a (S_MD_of y2 2).toNatClampNeg), .int (S_MD_of y2 2), .ref a0]) (st1 := [.int (S_MD_movesBy (r0_a (S_MD_of y2 0).toNatClampNeg) (r0_a (S_MD_of y2 1).toNatClampNeg) (r0_a (S_MD_of y2 2).toNatClampNeg) y1 (r0_a (1 : Int32).toNatClampNeg)), .int (r0_a (S_MD_of y2 2).toNatClampNeg), .int (S_MD_of y2 2), .ref a0]) (ws2 := (Wd41 cI a0 r0_a)) hx hb hml hown hts hK hN hA hP hD hS hl (c_MD_movesBy l D cI cM cS cJ H.size (r0_a (S_MD_of y2 0).toNatClampNeg) (r0_a (S_MD_of y2 1).toNatClampNeg) (r0_a (S_MD_of y2 2).toNatClampNeg) y1 (r0_a (1 : Int32).toNatClampNeg) rfl) gX12_day_X12_movesBy rfl kdS_X12_movesBy [] ⟨rfl, rfl⟩ ⟨Nat.le_of_ble_eq_true rfl, Nat.le_of_ble_eq_true rfl⟩ ⟨Nat.zero_le _, Nat.zero_le _⟩ rfl rfl (by decide +kernel) (k_rp rfl (by decide +kernel)) rfl rfl (Nat.le_of_ble_eq_true rfl) dX12_day_83 rfl (fun H locs hP hD hS => ?_)
            refine lv_iadd hx hb dX12_day_86 ?_
            refine k_callS (As := [.int ((r0_a (S_MD_of y2 2).toNatClampNeg) + (S_MD_movesBy (r0_a (S_MD_of y2 0).toNatClampNeg) (r0_a (S_MD_of y2 1).toNatClampNeg) (r0_a (S_MD_of y2 2).toNatClampNeg) y1 (r0_a (1 : Int32).toNatClampNeg)))]) (rest := [.int (S_MD_of y2 2), .ref a0]) (st1 := [.int (S_MD_held ((r0_a (S_MD_of y2 2).toNatClampNeg) + (S_MD_movesBy (r0_a (S_MD_of y2 0).toNatClampNeg) (r0_a (S_MD_of y2 1).toNatClampNeg) (r0_a (S_MD_of y2 2).toNatClampNeg) y1 (r0_a (1 : Int32).toNatClampNeg)))), .int (S_MD_of y2 2), .ref a0]) (ws2 := (Wd41 cI a0 r0_a)) hx hb hml hown hts hK hN hA hP hD hS hl (c_MD_held l D cI cM cS cJ H.size ((r0_a (S_MD_of y2 2).toNatClampNeg) + (S_MD_movesBy (r0_a (S_MD_of y2 0).toNatClampNeg) (r0_a (S_MD_of y2 1).toNatClampNeg) (r0_a (S_MD_of y2 2).toNatClampNeg) y1 (r0_a (1 : Int32).toNatClampNeg))) rfl) gX12_day_X12_held rfl kdS_X12_held [] ⟨rfl, rfl⟩ ⟨Nat.le_of_ble_eq_true rfl, Nat.le_of_ble_eq_true rfl⟩ ⟨Nat.zero_le _, Nat.zero_le _⟩ rfl rfl (by decide +kernel) (k_rp rfl (by decide +kernel)) rfl rfl (Nat.le_of_ble_eq_true rfl) dX12_day_87 rfl (fun H locs hP hD hS => ?_)
            refine va_iast hx hb hK hP hD hS 0 0 rfl rfl g55 dX12_day_90 (fun H locs hP hD hS => ?_)
            replace hP : va_P D vwCl (Wd41 cI a0 (upd r0_a (S_MD_of y2 2).toNatClampNeg (S_MD_held ((r0_a (S_MD_of y2 2).toNatClampNeg) + (S_MD_movesBy (r0_a (S_MD_of y2 0).toNatClampNeg) (r0_a (S_MD_of y2 1).toNatClampNeg) (r0_a (S_MD_of y2 2).toNatClampNeg) y1 (r0_a (1 : Int32).toNatClampNeg)))))) H := hP
            replace hD : va_D A (Wd41 cI a0 (upd r0_a (S_MD_of y2 2).toNatClampNeg (S_MD_held ((r0_a (S_MD_of y2 2).toNatClampNeg) + (S_MD_movesBy (r0_a (S_MD_of y2 0).toNatClampNeg) (r0_a (S_MD_of y2 1).toNatClampNeg) (r0_a (S_MD_of y2 2).toNatClampNeg) y1 (r0_a (1 : Int32).toNatClampNeg)))))) := hD
            refine lv_iinc (v := (y2 + 1)) (lv' := [(2, .int (y2 + 1)), (3, .int (r0_a (S_MD_of y2 2).toNatClampNeg)), (0, .ref a0), (1, .int y1)]) hx hb dX12_day_91 hl (k := 3) rfl (by first | rfl | decide) (by decide) rfl (fun ls hl => ?_)
            refine lv_goto (tgt := 28) hx hb dX12_day_94 (by decide) ?_
            exact ih28 (y2 + 1) (upd r0_a (S_MD_of y2 2).toNatClampNeg (S_MD_held ((r0_a (S_MD_of y2 2).toNatClampNeg) + (S_MD_movesBy (r0_a (S_MD_of y2 0).toNatClampNeg) (r0_a (S_MD_of y2 1).toNatClampNeg) (r0_a (S_MD_of y2 2).toNatClampNeg) y1 (r0_a (1 : Int32).toNatClampNeg))))) H locs ls hP hD hS (lv_sub hl [2, 3, 0] rfl) h
          · have h := k_pos c43 h
            refine lv_goto (tgt := 91) hx hb dX12_day_46 (by decide) ?_
            refine lv_iinc (v := (y2 + 1)) (lv' := [(2, .int (y2 + 1)), (0, .ref a0), (1, .int y1)]) hx hb dX12_day_91 hl (k := 2) rfl (by first | rfl | decide) (by decide) rfl (fun ls hl => ?_)
            refine lv_goto (tgt := 28) hx hb dX12_day_94 (by decide) ?_
            exact ih28 (y2 + 1) r0_a H locs ls hP hD hS (lv_sub hl [1, 2, 0] rfl) h
    refine lv_istore_n (lv' := [(2, .int 0), (1, .int v0), (0, .ref a0)]) hx hb dX12_day_27 rfl hl (by decide) rfl (fun ls hl => ?_)
    exact B28 v0 lfu 0 r0_a H locs ls hP hD hS (lv_sub hl [2, 1, 0] rfl) h
  refine lv_if_ne (tgt := 17) hx hb dX12_day_10 (by decide) (fun c10 => ?_) (fun c10 => ?_)
  · have h := k_neg c10 h
    refine lv_aload_n hx hb dX12_day_17 rfl (lv_at hl 0 rfl) ?_
    obtain ⟨r18, g18, h⟩ := k_bind h
    refine k_callS (As := [.ref a0]) (rest := []) (st1 := [.int r18]) (ws2 := (Wd41 cI a0 (upd r0_a (1 : Int32).toNatClampNeg ((r0_a (1 : Int32).toNatClampNeg) + 1)))) hx hb hml hown hts hK hN hA hP hD hS hl (c_MD_leanSum l D cI cM cS cJ a0 H.size (upd r0_a (1 : Int32).toNatClampNeg ((r0_a (1 : Int32).toNatClampNeg) + 1)) g18) gX12_day_X12_leanSum rfl kdS_X12_leanSum [0] ⟨rfl, rfl⟩ ⟨Nat.le_of_ble_eq_true rfl, Nat.le_of_ble_eq_true rfl⟩ ⟨Nat.zero_le _, Nat.zero_le _⟩ rfl rfl (by decide +kernel) (k_rp rfl (by decide +kernel)) rfl rfl (Nat.le_of_ble_eq_true rfl) dX12_day_18 rfl (fun H locs hP hD hS => ?_)
    refine lv_aload_n hx hb dX12_day_21 rfl (lv_at hl 0 rfl) ?_
    refine lv_iconst (v := 0) hx hb dX12_day_22 (by decide) ?_
    refine va_iald hx hb hK hP 0 0 rfl rfl (show ¬ ((0 : Int32) < 0 ∨ 37 ≤ (0 : Int32).toNatClampNeg) by decide) dX12_day_23 ?_
    refine lv_idiv hx hb dX12_day_24 c10 ?_
    exact B25 (r18 / ((upd r0_a (1 : Int32).toNatClampNeg ((r0_a (1 : Int32).toNatClampNeg) + 1)) (0 : Int32).toNatClampNeg)) (upd r0_a (1 : Int32).toNatClampNeg ((r0_a (1 : Int32).toNatClampNeg) + 1)) H locs ls hP hD hS hl h
  · have h := k_pos c10 h
    refine lv_iconst (v := 0) hx hb dX12_day_13 (by decide) ?_
    refine lv_goto (tgt := 25) hx hb dX12_day_14 (by decide) ?_
    exact B25 0 (upd r0_a (1 : Int32).toNatClampNeg ((r0_a (1 : Int32).toNatClampNeg) + 1)) H locs ls hP hD hS hl h
