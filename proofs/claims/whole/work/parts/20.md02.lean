theorem kdS_X12_signOf : yX12_signOf.cls ≠ "java/lang/invoke/MethodHandle" ∧ yX12_signOf.cls ≠ "java/lang/invoke/VarHandle" ∧ (parseMethodDescriptor yX12_signOf.desc).map (fun d => d.parameters.length) = some 1 := by decide +kernel
theorem kdS_X12_sized : yX12_sized.cls ≠ "java/lang/invoke/MethodHandle" ∧ yX12_sized.cls ≠ "java/lang/invoke/VarHandle" ∧ (parseMethodDescriptor yX12_sized.desc).map (fun d => d.parameters.length) = some 1 := by decide +kernel
theorem kdS_X12_least : yX12_least.cls ≠ "java/lang/invoke/MethodHandle" ∧ yX12_least.cls ≠ "java/lang/invoke/VarHandle" ∧ (parseMethodDescriptor yX12_least.desc).map (fun d => d.parameters.length) = some 2 := by decide +kernel
abbrev rm_X12_towards : Room := { frames := 1, cells := 0, slots := 0, locals := 21 }
set_option maxHeartbeats 4000000 in
set_option maxRecDepth 100000 in
theorem c_MD_towards (l : Launch) (D : va_G) (cI cM cS cJ : ClassId) (sz : Nat) (x0 : Int32) (x1 : Int32) (x2 : Int32) {o : (Int32)} (hsem : S_MD_towards x0 x1 x2 = o) : kMet l yX12_towards wsX12_towards rm_X12_towards [.int x0, .int x1, .int x2] D (kT cI cM cS cJ) (Wd0) sz (some (.int o)) (Wd0) := by
  refine k_metI (by decide) rfl rfl (Nat.le_of_ble_eq_true rfl) ?_
  intro p e s m below meth c ls Q A hx hb hml hts hown hK hN hA hP hD hS hl hsz hnm hret
  have hown : s.vm.findClass RX12 = some m.cls := hown
  replace hl : lv_has ls 3 [(0, .int x0), (1, .int x1), (2, .int x2)] := hl
  have h := hsem
  clear hsem
  rw [S_MD_towards] at h
  refine lv_iload_n hx hb dX12_towards_0 rfl (lv_at hl 1 rfl) ?_
  refine lv_iload_n hx hb dX12_towards_1 rfl (lv_at hl 0 rfl) ?_
  refine lv_isub hx hb dX12_towards_2 ?_
  refine k_callS (As := [.int (x1 - x0)]) (rest := []) (st1 := [.int (S_MD_signOf (x1 - x0))]) (ws2 := (Wd0)) hx hb hml hown hts hK hN hA hP hD hS hl (c_MD_signOf l D cI cM cS cJ s.heap.size (x1 - x0) rfl) gX12_towards_X12_signOf rfl kdS_X12_signOf [] ⟨rfl, rfl⟩ ⟨Nat.le_of_ble_eq_true rfl, Nat.le_of_ble_eq_true rfl⟩ ⟨Nat.zero_le _, Nat.zero_le _⟩ rfl rfl (by decide +kernel) (k_rp rfl (by decide +kernel)) rfl rfl (Nat.le_of_ble_eq_true rfl) dX12_towards_3 rfl (fun H locs hP hD hS => ?_)
  refine lv_iload_n hx hb dX12_towards_6 rfl (lv_at hl 2 rfl) ?_
  refine lv_iload_n hx hb dX12_towards_7 rfl (lv_at hl 1 rfl) ?_
  refine lv_iload_n hx hb dX12_towards_8 rfl (lv_at hl 0 rfl) ?_
  refine lv_isub hx hb dX12_towards_9 ?_
  refine k_callS (As := [.int (x1 - x0)]) (rest := [.int x2, .int (S_MD_signOf (x1 - x0))]) (st1 := [.int (S_MD_sized (x1 - x0)), .int x2, .int (S_MD_signOf (x1 - x0))]) (ws2 := (Wd0)) hx hb hml hown hts hK hN hA hP hD hS hl (c_MD_sized l D cI cM cS cJ H.size (x1 - x0) rfl) gX12_towards_X12_sized rfl kdS_X12_sized [] ⟨rfl, rfl⟩ ⟨Nat.le_of_ble_eq_true rfl, Nat.le_of_ble_eq_true rfl⟩ ⟨Nat.zero_le _, Nat.zero_le _⟩ rfl rfl (by decide +kernel) (k_rp rfl (by decide +kernel)) rfl rfl (Nat.le_of_ble_eq_true rfl) dX12_towards_10 rfl (fun H locs hP hD hS => ?_)
  refine k_callS (As := [.int x2, .int (S_MD_sized (x1 - x0))]) (rest := [.int (S_MD_signOf (x1 - x0))]) (st1 := [.int (S_MD_least x2 (S_MD_sized (x1 - x0))), .int (S_MD_signOf (x1 - x0))]) (ws2 := (Wd0)) hx hb hml hown hts hK hN hA hP hD hS hl (c_MD_least l D cI cM cS cJ H.size x2 (S_MD_sized (x1 - x0)) rfl) gX12_towards_X12_least rfl kdS_X12_least [] ⟨rfl, rfl⟩ ⟨Nat.le_of_ble_eq_true rfl, Nat.le_of_ble_eq_true rfl⟩ ⟨Nat.zero_le _, Nat.zero_le _⟩ rfl rfl (by decide +kernel) (k_rp rfl (by decide +kernel)) rfl rfl (Nat.le_of_ble_eq_true rfl) dX12_towards_13 rfl (fun H locs hP hD hS => ?_)
  refine lv_imul hx hb dX12_towards_16 ?_
  subst h
  exact hret _ _ _ _ hP hS dX12_towards_17
abbrev rm_X12_awayBy : Room := { frames := 0, cells := 0, slots := 0, locals := 0 }
set_option maxHeartbeats 4000000 in
set_option maxRecDepth 100000 in
theorem c_MD_awayBy (l : Launch) (D : va_G) (cI cM cS cJ : ClassId) (sz : Nat) (x0 : Int32) (x1 : Int32) {o : (Int32)} (hsem : S_MD_awayBy x0 x1 = o) : kMet l yX12_awayBy wsX12_awayBy rm_X12_awayBy [.int x0, .int x1] D (kT cI cM cS cJ) (Wd0) sz (some (.int o)) (Wd0) := by
  refine k_metI (by decide) rfl rfl (Nat.le_of_ble_eq_true rfl) ?_
  intro p e s m below meth c ls Q A hx hb hml hts hown hK hN hA hP hD hS hl hsz hnm hret
  have hown : s.vm.findClass RX12 = some m.cls := hown
  replace hl : lv_has ls 2 [(0, .int x0), (1, .int x1)] := hl
  have h := hsem
  clear hsem
  rw [S_MD_awayBy] at h
  refine lv_iload_n hx hb dX12_awayBy_0 rfl (lv_at hl 0 rfl) ?_
  refine lv_if_ge (tgt := 9) hx hb dX12_awayBy_1 (by decide) (fun c1 => ?_) (fun c1 => ?_)
  · have h := k_pos c1 h
    refine lv_iload_n hx hb dX12_awayBy_9 rfl (lv_at hl 1 rfl) ?_
    subst h
    exact hret _ _ _ _ hP hS dX12_awayBy_10
  · have h := k_neg c1 h
    refine lv_iload_n hx hb dX12_awayBy_4 rfl (lv_at hl 1 rfl) ?_
    refine lv_ineg hx hb dX12_awayBy_5 ?_
    refine lv_goto (tgt := 10) hx hb dX12_awayBy_6 (by decide) ?_
    subst h
    exact hret _ _ _ _ hP hS dX12_awayBy_10
theorem kdS_X12_towards : yX12_towards.cls ≠ "java/lang/invoke/MethodHandle" ∧ yX12_towards.cls ≠ "java/lang/invoke/VarHandle" ∧ (parseMethodDescriptor yX12_towards.desc).map (fun d => d.parameters.length) = some 3 := by decide +kernel
theorem kdS_X12_awayBy : yX12_awayBy.cls ≠ "java/lang/invoke/MethodHandle" ∧ yX12_awayBy.cls ≠ "java/lang/invoke/VarHandle" ∧ (parseMethodDescriptor yX12_awayBy.desc).map (fun d => d.parameters.length) = some 2 := by decide +kernel
abbrev rm_X12_movesBy : Room := { frames := 2, cells := 0, slots := 0, locals := 43 }
set_option maxHeartbeats 4000000 in
set_option maxRecDepth 100000 in
theorem c_MD_movesBy (l : Launch) (D : va_G) (cI cM cS cJ : ClassId) (sz : Nat) (x0 : Int32) (x1 : Int32) (x2 : Int32) (x3 : Int32) (x4 : Int32) {o : (Int32)} (hsem : S_MD_movesBy x0 x1 x2 x3 x4 = o) : kMet l yX12_movesBy wsX12_movesBy rm_X12_movesBy [.int x0, .int x1, .int x2, .int x3, .int x4] D (kT cI cM cS cJ) (Wd0) sz (some (.int o)) (Wd0) := by
  refine k_metI (by decide) rfl rfl (Nat.le_of_ble_eq_true rfl) ?_
  intro p e s m below meth c ls Q A hx hb hml hts hown hK hN hA hP hD hS hl hsz hnm hret
  have hown : s.vm.findClass RX12 = some m.cls := hown
  replace hl : lv_has ls 5 [(0, .int x0), (1, .int x1), (2, .int x2), (3, .int x3), (4, .int x4)] := hl
  have h := hsem
  clear hsem
  rw [S_MD_movesBy] at h
  refine lv_iload_n hx hb dX12_movesBy_0 rfl (lv_at hl 0 rfl) ?_
  by_cases s1_1 : x0 = 1
  · refine k_tblI (tgt := 44) (v := 1) hx hb dX12_movesBy_1 s1_1 (by decide) (by decide) rfl (by decide) ?_
    have h := k_pos s1_1 h
    refine lv_iconst (v := 0) hx hb dX12_movesBy_44 (by decide) ?_
    subst h
    exact hret _ _ _ _ hP hS dX12_movesBy_45
  · have h := k_neg s1_1 h
    by_cases s1_2 : x0 = 2
    · refine k_tblI (tgt := 46) (v := 2) hx hb dX12_movesBy_1 s1_2 (by decide) (by decide) rfl (by decide) ?_
      have h := k_pos s1_2 h
      refine lv_iload_n hx hb dX12_movesBy_46 rfl (lv_at hl 2 rfl) ?_
      refine lv_iconst (v := 0) hx hb dX12_movesBy_47 (by decide) ?_
      refine lv_iconst (v := 1) hx hb dX12_movesBy_48 (by decide) ?_
      refine k_callS (As := [.int x2, .int 0, .int 1]) (rest := []) (st1 := [.int (S_MD_towards x2 0 1)]) (ws2 := (Wd0)) hx hb hml hown hts hK hN hA hP hD hS hl (c_MD_towards l D cI cM cS cJ s.heap.size x2 0 1 rfl) gX12_movesBy_X12_towards rfl kdS_X12_towards [] ⟨rfl, rfl⟩ ⟨Nat.le_of_ble_eq_true rfl, Nat.le_of_ble_eq_true rfl⟩ ⟨Nat.zero_le _, Nat.zero_le _⟩ rfl rfl (by decide +kernel) (k_rp rfl (by decide +kernel)) rfl rfl (Nat.le_of_ble_eq_true rfl) dX12_movesBy_49 rfl (fun H locs hP hD hS => ?_)
      subst h
      exact hret _ _ _ _ hP hS dX12_movesBy_52
    · have h := k_neg s1_2 h
      by_cases s1_3 : x0 = 3
      · refine k_tblI (tgt := 53) (v := 3) hx hb dX12_movesBy_1 s1_3 (by decide) (by decide) rfl (by decide) ?_
        have h := k_pos s1_3 h
        refine lv_iload_n hx hb dX12_movesBy_53 rfl (lv_at hl 2 rfl) ?_
        refine lv_iload_n hx hb dX12_movesBy_54 rfl (lv_at hl 3 rfl) ?_
        refine lv_iconst (v := 2) hx hb dX12_movesBy_55 (by decide) ?_
        refine k_callS (As := [.int x2, .int x3, .int 2]) (rest := []) (st1 := [.int (S_MD_towards x2 x3 2)]) (ws2 := (Wd0)) hx hb hml hown hts hK hN hA hP hD hS hl (c_MD_towards l D cI cM cS cJ s.heap.size x2 x3 2 rfl) gX12_movesBy_X12_towards rfl kdS_X12_towards [] ⟨rfl, rfl⟩ ⟨Nat.le_of_ble_eq_true rfl, Nat.le_of_ble_eq_true rfl⟩ ⟨Nat.zero_le _, Nat.zero_le _⟩ rfl rfl (by decide +kernel) (k_rp rfl (by decide +kernel)) rfl rfl (Nat.le_of_ble_eq_true rfl) dX12_movesBy_56 rfl (fun H locs hP hD hS => ?_)
        subst h
        exact hret _ _ _ _ hP hS dX12_movesBy_59
      · have h := k_neg s1_3 h
        by_cases s1_4 : x0 = 4
        · refine k_tblI (tgt := 60) (v := 4) hx hb dX12_movesBy_1 s1_4 (by decide) (by decide) rfl (by decide) ?_
          have h := k_pos s1_4 h
          refine lv_iload_n hx hb dX12_movesBy_60 rfl (lv_at hl 2 rfl) ?_
          refine lv_iload_n hx hb dX12_movesBy_61 rfl (lv_at hl 1 rfl) ?_
          refine lv_iconst (v := 3) hx hb dX12_movesBy_62 (by decide) ?_
          refine lv_idiv hx hb dX12_movesBy_63 (by decide) ?_
          refine lv_iconst (v := 1) hx hb dX12_movesBy_64 (by decide) ?_
          refine lv_iadd hx hb dX12_movesBy_65 ?_
          refine k_callS (As := [.int x2, .int ((x1 / 3) + 1)]) (rest := []) (st1 := [.int (S_MD_awayBy x2 ((x1 / 3) + 1))]) (ws2 := (Wd0)) hx hb hml hown hts hK hN hA hP hD hS hl (c_MD_awayBy l D cI cM cS cJ s.heap.size x2 ((x1 / 3) + 1) rfl) gX12_movesBy_X12_awayBy rfl kdS_X12_awayBy [] ⟨rfl, rfl⟩ ⟨Nat.le_of_ble_eq_true rfl, Nat.le_of_ble_eq_true rfl⟩ ⟨Nat.zero_le _, Nat.zero_le _⟩ rfl rfl (by decide +kernel) (k_rp rfl (by decide +kernel)) rfl rfl (Nat.le_of_ble_eq_true rfl) dX12_movesBy_66 rfl (fun H locs hP hD hS => ?_)
          subst h
          exact hret _ _ _ _ hP hS dX12_movesBy_69
        · have h := k_neg s1_4 h
          by_cases s1_5 : x0 = 5
          · refine k_tblI (tgt := 70) (v := 5) hx hb dX12_movesBy_1 s1_5 (by decide) (by decide) rfl (by decide) ?_
            have h := k_pos s1_5 h
            refine lv_iload_n hx hb dX12_movesBy_70 rfl (lv_at hl 2 rfl) ?_
            refine lv_iconst (v := 0) hx hb dX12_movesBy_71 (by decide) ?_
            refine lv_iconst (v := 5) hx hb dX12_movesBy_72 (by decide) ?_
            refine k_callS (As := [.int x2, .int 0, .int 5]) (rest := []) (st1 := [.int (S_MD_towards x2 0 5)]) (ws2 := (Wd0)) hx hb hml hown hts hK hN hA hP hD hS hl (c_MD_towards l D cI cM cS cJ s.heap.size x2 0 5 rfl) gX12_movesBy_X12_towards rfl kdS_X12_towards [] ⟨rfl, rfl⟩ ⟨Nat.le_of_ble_eq_true rfl, Nat.le_of_ble_eq_true rfl⟩ ⟨Nat.zero_le _, Nat.zero_le _⟩ rfl rfl (by decide +kernel) (k_rp rfl (by decide +kernel)) rfl rfl (Nat.le_of_ble_eq_true rfl) dX12_movesBy_73 rfl (fun H locs hP hD hS => ?_)
            subst h
            exact hret _ _ _ _ hP hS dX12_movesBy_76
          · have h := k_neg s1_5 h
            by_cases s1_6 : x0 = 6
            · refine k_tblI (tgt := 77) (v := 6) hx hb dX12_movesBy_1 s1_6 (by decide) (by decide) rfl (by decide) ?_
              have h := k_pos s1_6 h
              refine lv_iload_n hx hb dX12_movesBy_77 rfl (lv_at hl 2 rfl) ?_
              refine lv_iconst (v := 2) hx hb dX12_movesBy_78 (by decide) ?_
              refine lv_iload_n hx hb dX12_movesBy_79 rfl (lv_at hl 1 rfl) ?_
              refine lv_iconst (v := 3) hx hb dX12_movesBy_80 (by decide) ?_
              refine lv_idiv hx hb dX12_movesBy_81 (by decide) ?_
              refine lv_iconst (v := 1) hx hb dX12_movesBy_82 (by decide) ?_
              refine lv_iadd hx hb dX12_movesBy_83 ?_
              refine lv_imul hx hb dX12_movesBy_84 ?_
              refine k_callS (As := [.int x2, .int ((2 : Int32) * ((x1 / 3) + 1))]) (rest := []) (st1 := [.int (S_MD_awayBy x2 ((2 : Int32) * ((x1 / 3) + 1)))]) (ws2 := (Wd0)) hx hb hml hown hts hK hN hA hP hD hS hl (c_MD_awayBy l D cI cM cS cJ s.heap.size x2 ((2 : Int32) * ((x1 / 3) + 1)) rfl) gX12_movesBy_X12_awayBy rfl kdS_X12_awayBy [] ⟨rfl, rfl⟩ ⟨Nat.le_of_ble_eq_true rfl, Nat.le_of_ble_eq_true rfl⟩ ⟨Nat.zero_le _, Nat.zero_le _⟩ rfl rfl (by decide +kernel) (k_rp rfl (by decide +kernel)) rfl rfl (Nat.le_of_ble_eq_true rfl) dX12_movesBy_85 rfl (fun H locs hP hD hS => ?_)
              subst h
              exact hret _ _ _ _ hP hS dX12_movesBy_88
            · have h := k_neg s1_6 h
              by_cases s1_7 : x0 = 7
              · refine k_tblI (tgt := 89) (v := 7) hx hb dX12_movesBy_1 s1_7 (by decide) (by decide) rfl (by decide) ?_
                have h := k_pos s1_7 h
                refine lv_iload hx hb dX12_movesBy_89 (lv_at hl 4 rfl) ?_
                refine lv_iconst (v := 2) hx hb dX12_movesBy_91 (by decide) ?_
                refine lv_irem hx hb dX12_movesBy_92 (by decide) ?_
                refine lv_if_ne (tgt := 105) hx hb dX12_movesBy_93 (by decide) (fun c93 => ?_) (fun c93 => ?_)
                · have h := k_neg c93 h
                  refine lv_iconst (v := 0) hx hb dX12_movesBy_105 (by decide) ?_
                  subst h
                  exact hret _ _ _ _ hP hS dX12_movesBy_106
                · have h := k_pos c93 h
                  refine lv_iload_n hx hb dX12_movesBy_96 rfl (lv_at hl 2 rfl) ?_
                  refine lv_iload_n hx hb dX12_movesBy_97 rfl (lv_at hl 3 rfl) ?_
                  refine lv_iconst (v := 2) hx hb dX12_movesBy_98 (by decide) ?_
                  refine k_callS (As := [.int x2, .int x3, .int 2]) (rest := []) (st1 := [.int (S_MD_towards x2 x3 2)]) (ws2 := (Wd0)) hx hb hml hown hts hK hN hA hP hD hS hl (c_MD_towards l D cI cM cS cJ s.heap.size x2 x3 2 rfl) gX12_movesBy_X12_towards rfl kdS_X12_towards [] ⟨rfl, rfl⟩ ⟨Nat.le_of_ble_eq_true rfl, Nat.le_of_ble_eq_true rfl⟩ ⟨Nat.zero_le _, Nat.zero_le _⟩ rfl rfl (by decide +kernel) (k_rp rfl (by decide +kernel)) rfl rfl (Nat.le_of_ble_eq_true rfl) dX12_movesBy_99 rfl (fun H locs hP hD hS => ?_)
                  refine lv_goto (tgt := 106) hx hb dX12_movesBy_102 (by decide) ?_
                  subst h
                  exact hret _ _ _ _ hP hS dX12_movesBy_106
              · have h := k_neg s1_7 h
                refine lv_tableOut (tgt := 107) hx hb dX12_movesBy_1 (k_out [1, 2, 3, 4, 5, 6, 7] (by decide) (List.forall_mem_cons.mpr ⟨s1_1, (List.forall_mem_cons.mpr ⟨s1_2, (List.forall_mem_cons.mpr ⟨s1_3, (List.forall_mem_cons.mpr ⟨s1_4, (List.forall_mem_cons.mpr ⟨s1_5, (List.forall_mem_cons.mpr ⟨s1_6, (List.forall_mem_cons.mpr ⟨s1_7, (fun _ z => absurd z List.not_mem_nil)⟩)⟩)⟩)⟩)⟩)⟩)⟩)) (by decide) ?_
                refine lv_iload_n hx hb dX12_movesBy_107 rfl (lv_at hl 2 rfl) ?_
                refine lv_iload_n hx hb dX12_movesBy_108 rfl (lv_at hl 3 rfl) ?_
                refine lv_iconst (v := 1) hx hb dX12_movesBy_109 (by decide) ?_
                refine k_callS (As := [.int x2, .int x3, .int 1]) (rest := []) (st1 := [.int (S_MD_towards x2 x3 1)]) (ws2 := (Wd0)) hx hb hml hown hts hK hN hA hP hD hS hl (c_MD_towards l D cI cM cS cJ s.heap.size x2 x3 1 rfl) gX12_movesBy_X12_towards rfl kdS_X12_towards [] ⟨rfl, rfl⟩ ⟨Nat.le_of_ble_eq_true rfl, Nat.le_of_ble_eq_true rfl⟩ ⟨Nat.zero_le _, Nat.zero_le _⟩ rfl rfl (by decide +kernel) (k_rp rfl (by decide +kernel)) rfl rfl (Nat.le_of_ble_eq_true rfl) dX12_movesBy_110 rfl (fun H locs hP hD hS => ?_)
                subst h
                exact hret _ _ _ _ hP hS dX12_movesBy_113
abbrev rm_X12_uprightBy : Room := { frames := 0, cells := 0, slots := 0, locals := 0 }
set_option maxHeartbeats 4000000 in
set_option maxRecDepth 100000 in
theorem c_MD_uprightBy (l : Launch) (D : va_G) (cI cM cS cJ : ClassId) (sz : Nat) (x0 : Int32) (x1 : Int32) {o : (Int32)} (hsem : S_MD_uprightBy x0 x1 = o) : kMet l yX12_uprightBy wsX12_uprightBy rm_X12_uprightBy [.int x0, .int x1] D (kT cI cM cS cJ) (Wd0) sz (some (.int o)) (Wd0) := by
  refine k_metI (by decide) rfl rfl (Nat.le_of_ble_eq_true rfl) ?_
  intro p e s m below meth c ls Q A hx hb hml hts hown hK hN hA hP hD hS hl hsz hnm hret
  have hown : s.vm.findClass RX12 = some m.cls := hown
  replace hl : lv_has ls 2 [(0, .int x0), (1, .int x1)] := hl
  have h := hsem
  clear hsem
  rw [S_MD_uprightBy] at h
  refine lv_iload_n hx hb dX12_uprightBy_0 rfl (lv_at hl 0 rfl) ?_
  by_cases s1_1 : x0 = 1
  · refine k_tblI (tgt := 44) (v := 1) hx hb dX12_uprightBy_1 s1_1 (by decide) (by decide) rfl (by decide) ?_
    have h := k_pos s1_1 h
    refine lv_iload_n hx hb dX12_uprightBy_44 rfl (lv_at hl 1 rfl) ?_
    subst h
    exact hret _ _ _ _ hP hS dX12_uprightBy_45
  · have h := k_neg s1_1 h
    by_cases s1_2 : x0 = 2
    · refine k_tblI (tgt := 46) (v := 2) hx hb dX12_uprightBy_1 s1_2 (by decide) (by decide) rfl (by decide) ?_
      have h := k_pos s1_2 h
      refine lv_iconst (v := 0) hx hb dX12_uprightBy_46 (by decide) ?_
      subst h
      exact hret _ _ _ _ hP hS dX12_uprightBy_47
    · have h := k_neg s1_2 h
      by_cases s1_3 : x0 = 3
      · refine k_tblI (tgt := 48) (v := 3) hx hb dX12_uprightBy_1 s1_3 (by decide) (by decide) rfl (by decide) ?_
        have h := k_pos s1_3 h
        refine lv_bipush (v := 8) hx hb dX12_uprightBy_48 (by decide) ?_
        subst h
        exact hret _ _ _ _ hP hS dX12_uprightBy_50
      · have h := k_neg s1_3 h
        by_cases s1_4 : x0 = 4
        · refine k_tblI (tgt := 51) (v := 4) hx hb dX12_uprightBy_1 s1_4 (by decide) (by decide) rfl (by decide) ?_
          have h := k_pos s1_4 h
          refine lv_iconst (v := 2) hx hb dX12_uprightBy_51 (by decide) ?_
          refine lv_iload_n hx hb dX12_uprightBy_52 rfl (lv_at hl 1 rfl) ?_
          refine lv_imul hx hb dX12_uprightBy_53 ?_
          subst h
          exact hret _ _ _ _ hP hS dX12_uprightBy_54
        · have h := k_neg s1_4 h
          by_cases s1_5 : x0 = 5
          · refine k_tblI (tgt := 55) (v := 5) hx hb dX12_uprightBy_1 s1_5 (by decide) (by decide) rfl (by decide) ?_
            have h := k_pos s1_5 h
            refine lv_bipush (v := 9) hx hb dX12_uprightBy_55 (by decide) ?_
            subst h
            exact hret _ _ _ _ hP hS dX12_uprightBy_57
          · have h := k_neg s1_5 h
            by_cases s1_6 : x0 = 6
            · refine k_tblI (tgt := 51) (v := 6) hx hb dX12_uprightBy_1 s1_6 (by decide) (by decide) rfl (by decide) ?_
              have h := k_pos s1_6 h
              refine lv_iconst (v := 2) hx hb dX12_uprightBy_51 (by decide) ?_
              refine lv_iload_n hx hb dX12_uprightBy_52 rfl (lv_at hl 1 rfl) ?_
              refine lv_imul hx hb dX12_uprightBy_53 ?_
              subst h
              exact hret _ _ _ _ hP hS dX12_uprightBy_54
            · have h := k_neg s1_6 h
              by_cases s1_7 : x0 = 7
              · refine k_tblI (tgt := 48) (v := 7) hx hb dX12_uprightBy_1 s1_7 (by decide) (by decide) rfl (by decide) ?_
                have h := k_pos s1_7 h
                refine lv_bipush (v := 8) hx hb dX12_uprightBy_48 (by decide) ?_
                subst h
                exact hret _ _ _ _ hP hS dX12_uprightBy_50
              · have h := k_neg s1_7 h
                refine lv_tableOut (tgt := 58) hx hb dX12_uprightBy_1 (k_out [1, 2, 3, 4, 5, 6, 7] (by decide) (List.forall_mem_cons.mpr ⟨s1_1, (List.forall_mem_cons.mpr ⟨s1_2, (List.forall_mem_cons.mpr ⟨s1_3, (List.forall_mem_cons.mpr ⟨s1_4, (List.forall_mem_cons.mpr ⟨s1_5, (List.forall_mem_cons.mpr ⟨s1_6, (List.forall_mem_cons.mpr ⟨s1_7, (fun _ z => absurd z List.not_mem_nil)⟩)⟩)⟩)⟩)⟩)⟩)⟩)) (by decide) ?_
                refine lv_iconst (v := 5) hx hb dX12_uprightBy_58 (by decide) ?_
                subst h
                exact hret _ _ _ _ hP hS dX12_uprightBy_59
abbrev rm_X12_discountBy : Room := { frames := 1, cells := 0, slots := 0, locals := 20 }
set_option maxHeartbeats 4000000 in
set_option maxRecDepth 100000 in
theorem c_MD_discountBy (l : Launch) (D : va_G) (cI cM cS cJ : ClassId) (sz : Nat) (x0 : Int32) (x1 : Int32) (x2 : Int32) {o : (Int32)} (hsem : S_MD_discountBy x0 x1 x2 = o) : kMet l yX12_discountBy wsX12_discountBy rm_X12_discountBy [.int x0, .int x1, .int x2] D (kT cI cM cS cJ) (Wd0) sz (some (.int o)) (Wd0) := by
  refine k_metI (by decide) rfl rfl (Nat.le_of_ble_eq_true rfl) ?_
  intro p e s m below meth c ls Q A hx hb hml hts hown hK hN hA hP hD hS hl hsz hnm hret
  have hown : s.vm.findClass RX12 = some m.cls := hown
  replace hl : lv_has ls 4 [(0, .int x0), (1, .int x1), (2, .int x2)] := hl
  have h := hsem
  clear hsem
  rw [S_MD_discountBy] at h
  refine lv_iload_n hx hb dX12_discountBy_0 rfl (lv_at hl 2 rfl) ?_
  refine k_callS (As := [.int x2]) (rest := []) (st1 := [.int (S_MD_sized x2)]) (ws2 := (Wd0)) hx hb hml hown hts hK hN hA hP hD hS hl (c_MD_sized l D cI cM cS cJ s.heap.size x2 rfl) gX12_discountBy_X12_sized rfl kdS_X12_sized [] ⟨rfl, rfl⟩ ⟨Nat.le_of_ble_eq_true rfl, Nat.le_of_ble_eq_true rfl⟩ ⟨Nat.zero_le _, Nat.zero_le _⟩ rfl rfl (by decide +kernel) (k_rp rfl (by decide +kernel)) rfl rfl (Nat.le_of_ble_eq_true rfl) dX12_discountBy_1 rfl (fun H locs hP hD hS => ?_)
  refine lv_istore_n (lv' := [(3, .int (S_MD_sized x2)), (0, .int x0), (1, .int x1), (2, .int x2)]) hx hb dX12_discountBy_4 rfl hl (by decide) rfl (fun ls hl => ?_)
  refine lv_iload_n hx hb dX12_discountBy_5 rfl (lv_at hl 1 rfl) ?_
  by_cases s6_1 : x0 = 1
  · refine k_tblI (tgt := 48) (v := 1) hx hb dX12_discountBy_6 s6_1 (by decide) (by decide) rfl (by decide) ?_
    have h := k_pos s6_1 h
    refine lv_iload_n hx hb dX12_discountBy_48 rfl (lv_at hl 0 rfl) ?_
    refine lv_iconst (v := 2) hx hb dX12_discountBy_49 (by decide) ?_
    refine lv_idiv hx hb dX12_discountBy_50 (by decide) ?_
    subst h
    exact hret _ _ _ _ hP hS dX12_discountBy_51
  · have h := k_neg s6_1 h
    by_cases s6_2 : x0 = 2
    · refine k_tblI (tgt := 52) (v := 2) hx hb dX12_discountBy_6 s6_2 (by decide) (by decide) rfl (by decide) ?_
      have h := k_pos s6_2 h
      refine lv_iconst (v := 2) hx hb dX12_discountBy_52 (by decide) ?_
      refine lv_iload_n hx hb dX12_discountBy_53 rfl (lv_at hl 0 rfl) ?_
      refine lv_imul hx hb dX12_discountBy_54 ?_
      subst h
      exact hret _ _ _ _ hP hS dX12_discountBy_55
    · have h := k_neg s6_2 h
      by_cases s6_3 : x0 = 3
      · refine k_tblI (tgt := 68) (v := 3) hx hb dX12_discountBy_6 s6_3 (by decide) (by decide) rfl (by decide) ?_
        have h := k_pos s6_3 h
        refine lv_iload_n hx hb dX12_discountBy_68 rfl (lv_at hl 0 rfl) ?_
        subst h
        exact hret _ _ _ _ hP hS dX12_discountBy_69
      · have h := k_neg s6_3 h
        by_cases s6_4 : x0 = 4
        · refine k_tblI (tgt := 56) (v := 4) hx hb dX12_discountBy_6 s6_4 (by decide) (by decide) rfl (by decide) ?_
          have h := k_pos s6_4 h
          refine lv_iload_n hx hb dX12_discountBy_56 rfl (lv_at hl 0 rfl) ?_
          refine lv_iconst (v := 2) hx hb dX12_discountBy_57 (by decide) ?_
          refine lv_idiv hx hb dX12_discountBy_58 (by decide) ?_
          refine lv_iconst (v := 3) hx hb dX12_discountBy_59 (by decide) ?_
          refine lv_iadd hx hb dX12_discountBy_60 ?_
          subst h
          exact hret _ _ _ _ hP hS dX12_discountBy_61
        · have h := k_neg s6_4 h
          by_cases s6_5 : x0 = 5
          · refine k_tblI (tgt := 62) (v := 5) hx hb dX12_discountBy_6 s6_5 (by decide) (by decide) rfl (by decide) ?_
            have h := k_pos s6_5 h
            refine lv_iconst (v := 0) hx hb dX12_discountBy_62 (by decide) ?_
            subst h
            exact hret _ _ _ _ hP hS dX12_discountBy_63
          · have h := k_neg s6_5 h
            by_cases s6_6 : x0 = 6
            · refine k_tblI (tgt := 62) (v := 6) hx hb dX12_discountBy_6 s6_6 (by decide) (by decide) rfl (by decide) ?_
              have h := k_pos s6_6 h
              refine lv_iconst (v := 0) hx hb dX12_discountBy_62 (by decide) ?_
              subst h
              exact hret _ _ _ _ hP hS dX12_discountBy_63
            · have h := k_neg s6_6 h
              by_cases s6_7 : x0 = 7
              · refine k_tblI (tgt := 64) (v := 7) hx hb dX12_discountBy_6 s6_7 (by decide) (by decide) rfl (by decide) ?_
                have h := k_pos s6_7 h
                refine lv_iload_n hx hb dX12_discountBy_64 rfl (lv_at hl 0 rfl) ?_
                refine lv_iload_n hx hb dX12_discountBy_65 rfl (lv_at hl 2 rfl) ?_
                refine lv_iadd hx hb dX12_discountBy_66 ?_
                subst h
                exact hret _ _ _ _ hP hS dX12_discountBy_67
              · have h := k_neg s6_7 h
                refine lv_tableOut (tgt := 68) hx hb dX12_discountBy_6 (k_out [1, 2, 3, 4, 5, 6, 7] (by decide) (List.forall_mem_cons.mpr ⟨s6_1, (List.forall_mem_cons.mpr ⟨s6_2, (List.forall_mem_cons.mpr ⟨s6_3, (List.forall_mem_cons.mpr ⟨s6_4, (List.forall_mem_cons.mpr ⟨s6_5, (List.forall_mem_cons.mpr ⟨s6_6, (List.forall_mem_cons.mpr ⟨s6_7, (fun _ z => absurd z List.not_mem_nil)⟩)⟩)⟩)⟩)⟩)⟩)⟩)) (by decide) ?_
                refine lv_iload_n hx hb dX12_discountBy_68 rfl (lv_at hl 0 rfl) ?_
                subst h
                exact hret _ _ _ _ hP hS dX12_discountBy_69
abbrev Wd41 (cI : ClassId) (a0 : Nat) (r0_a : Nat → Int32) : va_W := [(a0, .inl (cI, 37, .inl r0_a))]
theorem kdS_X12_of : yX12_of.cls ≠ "java/lang/invoke/MethodHandle" ∧ yX12_of.cls ≠ "java/lang/invoke/VarHandle" ∧ (parseMethodDescriptor yX12_of.desc).map (fun d => d.parameters.length) = some 2 := by decide +kernel
theorem kdS_X12_uprightBy : yX12_uprightBy.cls ≠ "java/lang/invoke/MethodHandle" ∧ yX12_uprightBy.cls ≠ "java/lang/invoke/VarHandle" ∧ (parseMethodDescriptor yX12_uprightBy.desc).map (fun d => d.parameters.length) = some 2 := by decide +kernel
abbrev rm_X12_isUprightBy : Room := { frames := 1, cells := 0, slots := 0, locals := 21 }
set_option maxHeartbeats 4000000 in
set_option maxRecDepth 100000 in
theorem c_MD_isUprightBy (l : Launch) (D : va_G) (cI cM cS cJ : ClassId) (a0 : Nat) (sz : Nat) (x1 : Int32) (x2 : Int32) (r0_a : Nat → Int32) {o : (Int32)} (hsem : S_MD_isUprightBy x1 x2 r0_a = some o) : kMet l yX12_isUprightBy wsX12_isUprightBy rm_X12_isUprightBy [.ref a0, .int x1, .int x2] D (kT cI cM cS cJ) (Wd41 cI a0 r0_a) sz (some (.int o)) (Wd41 cI a0 r0_a) := by
  refine k_metZ (by decide) rfl rfl (Nat.le_of_ble_eq_true rfl) ?_
  intro p e s m below meth c ls Q A hx hb hml hts hown hK hN hA hP hD hS hl hsz hnm hret
  have hown : s.vm.findClass RX12 = some m.cls := hown
  replace hl : lv_has ls 3 [(0, .ref a0), (1, .int x1), (2, .int x2)] := hl
  have h := hsem
  clear hsem
  rw [S_MD_isUprightBy] at h
  refine lv_iload_n hx hb dX12_isUprightBy_0 rfl (lv_at hl 2 rfl) ?_
  refine k_callS (As := [.int x2]) (rest := []) (st1 := [.int (S_MD_sized x2)]) (ws2 := (Wd41 cI a0 r0_a)) hx hb hml hown hts hK hN hA hP hD hS hl (c_MD_sized l D cI cM cS cJ s.heap.size x2 rfl) gX12_isUprightBy_X12_sized rfl kdS_X12_sized [] ⟨rfl, rfl⟩ ⟨Nat.le_of_ble_eq_true rfl, Nat.le_of_ble_eq_true rfl⟩ ⟨Nat.zero_le _, Nat.zero_le _⟩ rfl rfl (by decide +kernel) (k_rp rfl (by decide +kernel)) rfl rfl (Nat.le_of_ble_eq_true rfl) dX12_isUprightBy_1 rfl (fun H locs hP hD hS => ?_)
  refine lv_aload_n hx hb dX12_isUprightBy_4 rfl (lv_at hl 0 rfl) ?_
  refine lv_iload_n hx hb dX12_isUprightBy_5 rfl (lv_at hl 1 rfl) ?_
  refine lv_iconst (v := 0) hx hb dX12_isUprightBy_6 (by decide) ?_
  refine k_callS (As := [.int x1, .int 0]) (rest := [.ref a0, .int (S_MD_sized x2)]) (st1 := [.int (S_MD_of x1 0), .ref a0, .int (S_MD_sized x2)]) (ws2 := (Wd41 cI a0 r0_a)) hx hb hml hown hts hK hN hA hP hD hS hl (c_MD_of l D cI cM cS cJ H.size x1 0 rfl) gX12_isUprightBy_X12_of rfl kdS_X12_of [] ⟨rfl, rfl⟩ ⟨Nat.le_of_ble_eq_true rfl, Nat.le_of_ble_eq_true rfl⟩ ⟨Nat.zero_le _, Nat.zero_le _⟩ rfl rfl (by decide +kernel) (k_rp rfl (by decide +kernel)) rfl rfl (Nat.le_of_ble_eq_true rfl) dX12_isUprightBy_7 rfl (fun H locs hP hD hS => ?_)
  obtain ⟨g10, h⟩ := k_guard h
  refine va_iald hx hb hK hP 0 0 rfl rfl g10 dX12_isUprightBy_10 ?_
  refine lv_aload_n hx hb dX12_isUprightBy_11 rfl (lv_at hl 0 rfl) ?_
  refine lv_iload_n hx hb dX12_isUprightBy_12 rfl (lv_at hl 1 rfl) ?_
  refine lv_iconst (v := 1) hx hb dX12_isUprightBy_13 (by decide) ?_
  refine k_callS (As := [.int x1, .int 1]) (rest := [.ref a0, .int (r0_a (S_MD_of x1 0).toNatClampNeg), .int (S_MD_sized x2)]) (st1 := [.int (S_MD_of x1 1), .ref a0, .int (r0_a (S_MD_of x1 0).toNatClampNeg), .int (S_MD_sized x2)]) (ws2 := (Wd41 cI a0 r0_a)) hx hb hml hown hts hK hN hA hP hD hS hl (c_MD_of l D cI cM cS cJ H.size x1 1 rfl) gX12_isUprightBy_X12_of rfl kdS_X12_of [] ⟨rfl, rfl⟩ ⟨Nat.le_of_ble_eq_true rfl, Nat.le_of_ble_eq_true rfl⟩ ⟨Nat.zero_le _, Nat.zero_le _⟩ rfl rfl (by decide +kernel) (k_rp rfl (by decide +kernel)) rfl rfl (Nat.le_of_ble_eq_true rfl) dX12_isUprightBy_14 rfl (fun H locs hP hD hS => ?_)
  obtain ⟨g17, h⟩ := k_guard h
  refine va_iald hx hb hK hP 0 0 rfl rfl g17 dX12_isUprightBy_17 ?_
  refine k_callS (As := [.int (r0_a (S_MD_of x1 0).toNatClampNeg), .int (r0_a (S_MD_of x1 1).toNatClampNeg)]) (rest := [.int (S_MD_sized x2)]) (st1 := [.int (S_MD_uprightBy (r0_a (S_MD_of x1 0).toNatClampNeg) (r0_a (S_MD_of x1 1).toNatClampNeg)), .int (S_MD_sized x2)]) (ws2 := (Wd41 cI a0 r0_a)) hx hb hml hown hts hK hN hA hP hD hS hl (c_MD_uprightBy l D cI cM cS cJ H.size (r0_a (S_MD_of x1 0).toNatClampNeg) (r0_a (S_MD_of x1 1).toNatClampNeg) rfl) gX12_isUprightBy_X12_uprightBy rfl kdS_X12_uprightBy [] ⟨rfl, rfl⟩ ⟨Nat.le_of_ble_eq_true rfl, Nat.le_of_ble_eq_true rfl⟩ ⟨Nat.zero_le _, Nat.zero_le _⟩ rfl rfl (by decide +kernel) (k_rp rfl (by decide +kernel)) rfl rfl (Nat.le_of_ble_eq_true rfl) dX12_isUprightBy_18 rfl (fun H locs hP hD hS => ?_)
  refine lv_icmp_gt (tgt := 28) hx hb dX12_isUprightBy_21 (by decide) (fun c21 => ?_) (fun c21 => ?_)
  · have h := k_pos c21 h
    refine lv_iconst (v := 0) hx hb dX12_isUprightBy_28 (by decide) ?_
    have h := Option.some.inj h; subst h
    exact hret _ _ _ _ rfl hP hS dX12_isUprightBy_29
  · have h := k_neg c21 h
    refine lv_iconst (v := 1) hx hb dX12_isUprightBy_24 (by decide) ?_
    refine lv_goto (tgt := 29) hx hb dX12_isUprightBy_25 (by decide) ?_
    have h := Option.some.inj h; subst h
    exact hret _ _ _ _ rfl hP hS dX12_isUprightBy_29
