theorem kdS_X12_discountBy : yX12_discountBy.cls ≠ "java/lang/invoke/MethodHandle" ∧ yX12_discountBy.cls ≠ "java/lang/invoke/VarHandle" ∧ (parseMethodDescriptor yX12_discountBy.desc).map (fun d => d.parameters.length) = some 3 := by decide +kernel
abbrev rm_X12_discount : Room := { frames := 2, cells := 0, slots := 0, locals := 43 }
set_option maxHeartbeats 4000000 in
set_option maxRecDepth 100000 in
theorem c_MD_discount (l : Launch) (D : va_G) (cI cM cS cJ : ClassId) (aR : Nat → Nat) (sz : Nat) (x1 : Int32) (q_hasImage : Int32) (q_place : Int32) (q_rowAt : Int32) (q_rowEnd : Int32) (q_seed : Int32) (q_thrown : Int32) (q_s : Nat → Int32) {o : (Int32)} (hsem : S_MD_discount x1 q_s = some o) : kMet l yX12_discount wsX12_discount rm_X12_discount [.ref (aR 0), .int x1] D (kT cI cM cS cJ) (Wd40 cI aR q_hasImage q_place q_rowAt q_rowEnd q_seed q_thrown q_s) sz (some (.int o)) (Wd40 cI aR q_hasImage q_place q_rowAt q_rowEnd q_seed q_thrown q_s) := by
  refine k_metI (by decide) rfl rfl (Nat.le_of_ble_eq_true rfl) ?_
  intro p e s m below meth c ls Q A hx hb hml hts hown hK hN hA hP hD hS hl hsz hnm hret
  have hown : s.vm.findClass RX12 = some m.cls := hown
  have hf9 := hts (.fieldLink RX12 9 "PlumbLineModel" "s" "[I") (List.mem_of_getElem? (i := 1) rfl)
  have hiX12 : ∀ w ∈ u_ws RX12 TX12 18, w ∈ wsX12_discount := fun w h => List.mem_cons_of_mem _ (List.mem_append_right _ h)
  replace hl : lv_has ls 2 [(0, .ref (aR 0)), (1, .int x1)] := hl
  have h := hsem
  clear hsem
  rw [S_MD_discount] at h
  refine lv_aload_n hx hb dX12_discount_0 rfl (lv_at hl 0 rfl) ?_
  refine va_get (D := D) (ci := 12) (v := .ref (aR 1)) (C := RX12) (T := TX12) (N := 18) hx hb hts hiX12 hown hK hP 0 rfl rfl 0 (by decide) hf9 (fun _ z => z) rfl dX12_discount_1 ?_
  refine lv_iload_n hx hb dX12_discount_4 rfl (lv_at hl 1 rfl) ?_
  refine lv_iconst (v := 0) hx hb dX12_discount_5 (by decide) ?_
  refine k_callS (As := [.int x1, .int 0]) (rest := [.ref (aR 1)]) (st1 := [.int (S_MD_of x1 0), .ref (aR 1)]) (ws2 := (Wd40 cI aR q_hasImage q_place q_rowAt q_rowEnd q_seed q_thrown q_s)) hx hb hml hown hts hK hN hA hP hD hS hl (c_MD_of l D cI cM cS cJ s.heap.size x1 0 rfl) gX12_discount_X12_of rfl kdS_X12_of [] ⟨rfl, rfl⟩ ⟨Nat.le_of_ble_eq_true rfl, Nat.le_of_ble_eq_true rfl⟩ ⟨Nat.zero_le _, Nat.zero_le _⟩ rfl rfl (by decide +kernel) (k_rp rfl (by decide +kernel)) rfl rfl (Nat.le_of_ble_eq_true rfl) dX12_discount_6 rfl (fun H locs hP hD hS => ?_)
  obtain ⟨g9, h⟩ := k_guard h
  refine va_iald hx hb hK hP 1 0 rfl rfl g9 dX12_discount_9 ?_
  refine lv_aload_n hx hb dX12_discount_10 rfl (lv_at hl 0 rfl) ?_
  refine va_get (D := D) (ci := 12) (v := .ref (aR 1)) (C := RX12) (T := TX12) (N := 18) hx hb hts hiX12 hown hK hP 0 rfl rfl 0 (by decide) hf9 (fun _ z => z) rfl dX12_discount_11 ?_
  refine lv_iload_n hx hb dX12_discount_14 rfl (lv_at hl 1 rfl) ?_
  refine lv_iconst (v := 1) hx hb dX12_discount_15 (by decide) ?_
  refine k_callS (As := [.int x1, .int 1]) (rest := [.ref (aR 1), .int (q_s (S_MD_of x1 0).toNatClampNeg)]) (st1 := [.int (S_MD_of x1 1), .ref (aR 1), .int (q_s (S_MD_of x1 0).toNatClampNeg)]) (ws2 := (Wd40 cI aR q_hasImage q_place q_rowAt q_rowEnd q_seed q_thrown q_s)) hx hb hml hown hts hK hN hA hP hD hS hl (c_MD_of l D cI cM cS cJ H.size x1 1 rfl) gX12_discount_X12_of rfl kdS_X12_of [] ⟨rfl, rfl⟩ ⟨Nat.le_of_ble_eq_true rfl, Nat.le_of_ble_eq_true rfl⟩ ⟨Nat.zero_le _, Nat.zero_le _⟩ rfl rfl (by decide +kernel) (k_rp rfl (by decide +kernel)) rfl rfl (Nat.le_of_ble_eq_true rfl) dX12_discount_16 rfl (fun H locs hP hD hS => ?_)
  obtain ⟨g19, h⟩ := k_guard h
  refine va_iald hx hb hK hP 1 0 rfl rfl g19 dX12_discount_19 ?_
  refine lv_aload_n hx hb dX12_discount_20 rfl (lv_at hl 0 rfl) ?_
  refine va_get (D := D) (ci := 12) (v := .ref (aR 1)) (C := RX12) (T := TX12) (N := 18) hx hb hts hiX12 hown hK hP 0 rfl rfl 0 (by decide) hf9 (fun _ z => z) rfl dX12_discount_21 ?_
  refine lv_iload_n hx hb dX12_discount_24 rfl (lv_at hl 1 rfl) ?_
  refine lv_iconst (v := 2) hx hb dX12_discount_25 (by decide) ?_
  refine k_callS (As := [.int x1, .int 2]) (rest := [.ref (aR 1), .int (q_s (S_MD_of x1 1).toNatClampNeg), .int (q_s (S_MD_of x1 0).toNatClampNeg)]) (st1 := [.int (S_MD_of x1 2), .ref (aR 1), .int (q_s (S_MD_of x1 1).toNatClampNeg), .int (q_s (S_MD_of x1 0).toNatClampNeg)]) (ws2 := (Wd40 cI aR q_hasImage q_place q_rowAt q_rowEnd q_seed q_thrown q_s)) hx hb hml hown hts hK hN hA hP hD hS hl (c_MD_of l D cI cM cS cJ H.size x1 2 rfl) gX12_discount_X12_of rfl kdS_X12_of [] ⟨rfl, rfl⟩ ⟨Nat.le_of_ble_eq_true rfl, Nat.le_of_ble_eq_true rfl⟩ ⟨Nat.zero_le _, Nat.zero_le _⟩ rfl rfl (by decide +kernel) (k_rp rfl (by decide +kernel)) rfl rfl (Nat.le_of_ble_eq_true rfl) dX12_discount_26 rfl (fun H locs hP hD hS => ?_)
  obtain ⟨g29, h⟩ := k_guard h
  refine va_iald hx hb hK hP 1 0 rfl rfl g29 dX12_discount_29 ?_
  refine k_callS (As := [.int (q_s (S_MD_of x1 0).toNatClampNeg), .int (q_s (S_MD_of x1 1).toNatClampNeg), .int (q_s (S_MD_of x1 2).toNatClampNeg)]) (rest := []) (st1 := [.int (S_MD_discountBy (q_s (S_MD_of x1 0).toNatClampNeg) (q_s (S_MD_of x1 1).toNatClampNeg) (q_s (S_MD_of x1 2).toNatClampNeg))]) (ws2 := (Wd40 cI aR q_hasImage q_place q_rowAt q_rowEnd q_seed q_thrown q_s)) hx hb hml hown hts hK hN hA hP hD hS hl (c_MD_discountBy l D cI cM cS cJ H.size (q_s (S_MD_of x1 0).toNatClampNeg) (q_s (S_MD_of x1 1).toNatClampNeg) (q_s (S_MD_of x1 2).toNatClampNeg) rfl) gX12_discount_X12_discountBy rfl kdS_X12_discountBy [] ⟨rfl, rfl⟩ ⟨Nat.le_of_ble_eq_true rfl, Nat.le_of_ble_eq_true rfl⟩ ⟨Nat.zero_le _, Nat.zero_le _⟩ rfl rfl (by decide +kernel) (k_rp rfl (by decide +kernel)) rfl rfl (Nat.le_of_ble_eq_true rfl) dX12_discount_30 rfl (fun H locs hP hD hS => ?_)
  have h := Option.some.inj h; subst h
  exact hret _ _ _ _ hP hS dX12_discount_33
theorem kdV_X12_discount : yX12_discount.cls = RX12 ∧ yX12_discount.cls ≠ "java/lang/invoke/MethodHandle" ∧ yX12_discount.cls ≠ "java/lang/invoke/VarHandle" ∧ (parseMethodDescriptor yX12_discount.desc).map (fun d => d.parameters.length) = some 1 := by decide +kernel
theorem kdV_X12_trustedBy : yX12_trustedBy.cls = RX12 ∧ yX12_trustedBy.cls ≠ "java/lang/invoke/MethodHandle" ∧ yX12_trustedBy.cls ≠ "java/lang/invoke/VarHandle" ∧ (parseMethodDescriptor yX12_trustedBy.desc).map (fun d => d.parameters.length) = some 1 := by decide +kernel
abbrev rm_X12_man : Room := { frames := 3, cells := 0, slots := 0, locals := 68 }
set_option maxHeartbeats 4000000 in
set_option maxRecDepth 100000 in
theorem c_MD_man (l : Launch) (D : va_G) (cI cM cS cJ : ClassId) (aR : Nat → Nat) (sz : Nat) (x1 : Int32) (x2 : Int32) (q_hasImage : Int32) (q_place : Int32) (q_rowAt : Int32) (q_rowEnd : Int32) (q_seed : Int32) (q_thrown : Int32) (q_s : Nat → Int32) {o : (Int32)} (hsem : S_MD_man x1 x2 q_s = some o) : kMet l yX12_man wsX12_man rm_X12_man [.ref (aR 0), .int x1, .int x2] D (kT cI cM cS cJ) (Wd40 cI aR q_hasImage q_place q_rowAt q_rowEnd q_seed q_thrown q_s) sz (some (.int o)) (Wd40 cI aR q_hasImage q_place q_rowAt q_rowEnd q_seed q_thrown q_s) := by
  refine k_metI (by decide) rfl rfl (Nat.le_of_ble_eq_true rfl) ?_
  intro p e s m below meth c ls Q A hx hb hml hts hown hK hN hA hP hD hS hl hsz hnm hret
  have hown : s.vm.findClass RX12 = some m.cls := hown
  have hf9 := hts (.fieldLink RX12 9 "PlumbLineModel" "s" "[I") (List.mem_of_getElem? (i := 1) rfl)
  have hiX12 : ∀ w ∈ u_ws RX12 TX12 18, w ∈ wsX12_man := fun w h => List.mem_cons_of_mem _ (List.mem_append_right _ h)
  replace hl : lv_has ls 3 [(0, .ref (aR 0)), (1, .int x1), (2, .int x2)] := hl
  have h := hsem
  clear hsem
  rw [S_MD_man] at h
  refine lv_aload_n hx hb dX12_man_0 rfl (lv_at hl 0 rfl) ?_
  refine lv_iload_n hx hb dX12_man_1 rfl (lv_at hl 1 rfl) ?_
  obtain ⟨r2, g2, h⟩ := k_bind h
  refine k_callV (As := [.int x1]) (rest := []) (st1 := [.int r2]) (ws2 := (Wd40 cI aR q_hasImage q_place q_rowAt q_rowEnd q_seed q_thrown q_s)) hx hb hml hown hts hK hN hA hP hD hS hl (c_MD_isMan l D cI cM cS cJ aR s.heap.size x1 q_hasImage q_place q_rowAt q_rowEnd q_seed q_thrown q_s g2) gX12_man_X12_isMan rfl kdV_X12_isMan 0 12 rfl rfl rfl [0, 1] ⟨rfl, rfl⟩ ⟨Nat.le_of_ble_eq_true rfl, Nat.le_of_ble_eq_true rfl⟩ ⟨Nat.zero_le _, Nat.zero_le _⟩ rfl rfl (by decide +kernel) (k_rp rfl (by decide +kernel)) rfl rfl (Nat.le_of_ble_eq_true rfl) dX12_man_2 rfl (fun H locs hP hD hS => ?_)
  refine lv_if_eq (tgt := 17) hx hb dX12_man_5 (by decide) (fun c5 => ?_) (fun c5 => ?_)
  · have h := k_pos c5 h
    refine lv_iconst (v := (-1)) hx hb dX12_man_17 (by decide) ?_
    have h := Option.some.inj h; subst h
    exact hret _ _ _ _ hP hS dX12_man_18
  · have h := k_neg c5 h
    refine lv_iload_n hx hb dX12_man_8 rfl (lv_at hl 2 rfl) ?_
    refine lv_iconst (v := 0) hx hb dX12_man_9 (by decide) ?_
    refine lv_iconst (v := 5) hx hb dX12_man_10 (by decide) ?_
    refine k_callS (As := [.int x2, .int 0, .int 5]) (rest := []) (st1 := [.int (S_MD_isIn x2 0 5)]) (ws2 := (Wd40 cI aR q_hasImage q_place q_rowAt q_rowEnd q_seed q_thrown q_s)) hx hb hml hown hts hK hN hA hP hD hS hl (c_MD_isIn l D cI cM cS cJ H.size x2 0 5 rfl) gX12_man_X12_isIn rfl kdS_X12_isIn [] ⟨rfl, rfl⟩ ⟨Nat.le_of_ble_eq_true rfl, Nat.le_of_ble_eq_true rfl⟩ ⟨Nat.zero_le _, Nat.zero_le _⟩ rfl rfl (by decide +kernel) (k_rp rfl (by decide +kernel)) rfl rfl (Nat.le_of_ble_eq_true rfl) dX12_man_11 rfl (fun H locs hP hD hS => ?_)
    refine lv_if_ne (tgt := 19) hx hb dX12_man_14 (by decide) (fun c14 => ?_) (fun c14 => ?_)
    · have h := k_neg c14 h
      refine lv_iload_n hx hb dX12_man_19 rfl (lv_at hl 2 rfl) ?_
      by_cases s20_2 : x2 = 2
      · refine k_tblI (tgt := 52) (v := 2) hx hb dX12_man_20 s20_2 (by decide) (by decide) rfl (by decide) ?_
        have h := k_pos s20_2 h
        refine lv_aload_n hx hb dX12_man_52 rfl (lv_at hl 0 rfl) ?_
        refine va_get (D := D) (ci := 12) (v := .ref (aR 1)) (C := RX12) (T := TX12) (N := 18) hx hb hts hiX12 hown hK hP 0 rfl rfl 0 (by decide) hf9 (fun _ z => z) rfl dX12_man_53 ?_
        refine lv_iload_n hx hb dX12_man_56 rfl (lv_at hl 1 rfl) ?_
        refine lv_iconst (v := 3) hx hb dX12_man_57 (by decide) ?_
        refine k_callS (As := [.int x1, .int 3]) (rest := [.ref (aR 1)]) (st1 := [.int (S_MD_of x1 3), .ref (aR 1)]) (ws2 := (Wd40 cI aR q_hasImage q_place q_rowAt q_rowEnd q_seed q_thrown q_s)) hx hb hml hown hts hK hN hA hP hD hS hl (c_MD_of l D cI cM cS cJ H.size x1 3 rfl) gX12_man_X12_of rfl kdS_X12_of [] ⟨rfl, rfl⟩ ⟨Nat.le_of_ble_eq_true rfl, Nat.le_of_ble_eq_true rfl⟩ ⟨Nat.zero_le _, Nat.zero_le _⟩ rfl rfl (by decide +kernel) (k_rp rfl (by decide +kernel)) rfl rfl (Nat.le_of_ble_eq_true rfl) dX12_man_58 rfl (fun H locs hP hD hS => ?_)
        obtain ⟨g61, h⟩ := k_guard h
        refine va_iald hx hb hK hP 1 0 rfl rfl g61 dX12_man_61 ?_
        have h := Option.some.inj h; subst h
        exact hret _ _ _ _ hP hS dX12_man_62
      · have h := k_neg s20_2 h
        by_cases s20_3 : x2 = 3
        · refine k_tblI (tgt := 63) (v := 3) hx hb dX12_man_20 s20_3 (by decide) (by decide) rfl (by decide) ?_
          have h := k_pos s20_3 h
          refine lv_aload_n hx hb dX12_man_63 rfl (lv_at hl 0 rfl) ?_
          refine va_get (D := D) (ci := 12) (v := .ref (aR 1)) (C := RX12) (T := TX12) (N := 18) hx hb hts hiX12 hown hK hP 0 rfl rfl 0 (by decide) hf9 (fun _ z => z) rfl dX12_man_64 ?_
          obtain ⟨r67, g67, h⟩ := k_bind h
          refine k_callS (As := [.ref (aR 1)]) (rest := []) (st1 := [.int r67]) (ws2 := (Wd40 cI aR q_hasImage q_place q_rowAt q_rowEnd q_seed q_thrown q_s)) hx hb hml hown hts hK hN hA hP hD hS hl (c_MD_upright l D cI cM cS cJ (aR 1) H.size q_s g67) gX12_man_X12_upright rfl kdS_X12_upright [1] ⟨rfl, rfl⟩ ⟨Nat.le_of_ble_eq_true rfl, Nat.le_of_ble_eq_true rfl⟩ ⟨Nat.zero_le _, Nat.zero_le _⟩ rfl rfl (by decide +kernel) (k_rp rfl (by decide +kernel)) rfl rfl (Nat.le_of_ble_eq_true rfl) dX12_man_67 rfl (fun H locs hP hD hS => ?_)
          refine lv_iload_n hx hb dX12_man_70 rfl (lv_at hl 1 rfl) ?_
          refine lv_ishr hx hb dX12_man_71 ?_
          refine lv_iconst (v := 1) hx hb dX12_man_72 (by decide) ?_
          refine lv_iand hx hb dX12_man_73 ?_
          have h := Option.some.inj h; subst h
          exact hret _ _ _ _ hP hS dX12_man_74
        · have h := k_neg s20_3 h
          by_cases s20_4 : x2 = 4
          · refine k_tblI (tgt := 75) (v := 4) hx hb dX12_man_20 s20_4 (by decide) (by decide) rfl (by decide) ?_
            have h := k_pos s20_4 h
            refine lv_aload_n hx hb dX12_man_75 rfl (lv_at hl 0 rfl) ?_
            refine lv_iload_n hx hb dX12_man_76 rfl (lv_at hl 1 rfl) ?_
            obtain ⟨r77, g77, h⟩ := k_bind h
            refine k_callV (As := [.int x1]) (rest := []) (st1 := [.int r77]) (ws2 := (Wd40 cI aR q_hasImage q_place q_rowAt q_rowEnd q_seed q_thrown q_s)) hx hb hml hown hts hK hN hA hP hD hS hl (c_MD_discount l D cI cM cS cJ aR H.size x1 q_hasImage q_place q_rowAt q_rowEnd q_seed q_thrown q_s g77) gX12_man_X12_discount rfl kdV_X12_discount 0 12 rfl rfl rfl [0, 1] ⟨rfl, rfl⟩ ⟨Nat.le_of_ble_eq_true rfl, Nat.le_of_ble_eq_true rfl⟩ ⟨Nat.zero_le _, Nat.zero_le _⟩ rfl rfl (by decide +kernel) (k_rp rfl (by decide +kernel)) rfl rfl (Nat.le_of_ble_eq_true rfl) dX12_man_77 rfl (fun H locs hP hD hS => ?_)
            have h := Option.some.inj h; subst h
            exact hret _ _ _ _ hP hS dX12_man_80
          · have h := k_neg s20_4 h
            by_cases s20_5 : x2 = 5
            · refine k_tblI (tgt := 81) (v := 5) hx hb dX12_man_20 s20_5 (by decide) (by decide) rfl (by decide) ?_
              have h := k_pos s20_5 h
              refine lv_aload_n hx hb dX12_man_81 rfl (lv_at hl 0 rfl) ?_
              refine lv_iload_n hx hb dX12_man_82 rfl (lv_at hl 1 rfl) ?_
              obtain ⟨r83, g83, h⟩ := k_bind h
              refine k_callV (As := [.int x1]) (rest := []) (st1 := [.int r83]) (ws2 := (Wd40 cI aR q_hasImage q_place q_rowAt q_rowEnd q_seed q_thrown q_s)) hx hb hml hown hts hK hN hA hP hD hS hl (c_MD_trustedBy l D cI cM cS cJ aR H.size x1 q_hasImage q_place q_rowAt q_rowEnd q_seed q_thrown q_s g83) gX12_man_X12_trustedBy rfl kdV_X12_trustedBy 0 12 rfl rfl rfl [0, 1] ⟨rfl, rfl⟩ ⟨Nat.le_of_ble_eq_true rfl, Nat.le_of_ble_eq_true rfl⟩ ⟨Nat.zero_le _, Nat.zero_le _⟩ rfl rfl (by decide +kernel) (k_rp rfl (by decide +kernel)) rfl rfl (Nat.le_of_ble_eq_true rfl) dX12_man_83 rfl (fun H locs hP hD hS => ?_)
              have h := Option.some.inj h; subst h
              exact hret _ _ _ _ hP hS dX12_man_86
            · have h := k_neg s20_5 h
              refine lv_tableOut (tgt := 87) hx hb dX12_man_20 (k_out [2, 3, 4, 5] (by decide) (List.forall_mem_cons.mpr ⟨s20_2, (List.forall_mem_cons.mpr ⟨s20_3, (List.forall_mem_cons.mpr ⟨s20_4, (List.forall_mem_cons.mpr ⟨s20_5, (fun _ z => absurd z List.not_mem_nil)⟩)⟩)⟩)⟩)) (by decide) ?_
              refine lv_aload_n hx hb dX12_man_87 rfl (lv_at hl 0 rfl) ?_
              refine va_get (D := D) (ci := 12) (v := .ref (aR 1)) (C := RX12) (T := TX12) (N := 18) hx hb hts hiX12 hown hK hP 0 rfl rfl 0 (by decide) hf9 (fun _ z => z) rfl dX12_man_88 ?_
              refine lv_iload_n hx hb dX12_man_91 rfl (lv_at hl 1 rfl) ?_
              refine lv_iload_n hx hb dX12_man_92 rfl (lv_at hl 2 rfl) ?_
              refine k_callS (As := [.int x1, .int x2]) (rest := [.ref (aR 1)]) (st1 := [.int (S_MD_of x1 x2), .ref (aR 1)]) (ws2 := (Wd40 cI aR q_hasImage q_place q_rowAt q_rowEnd q_seed q_thrown q_s)) hx hb hml hown hts hK hN hA hP hD hS hl (c_MD_of l D cI cM cS cJ H.size x1 x2 rfl) gX12_man_X12_of rfl kdS_X12_of [] ⟨rfl, rfl⟩ ⟨Nat.le_of_ble_eq_true rfl, Nat.le_of_ble_eq_true rfl⟩ ⟨Nat.zero_le _, Nat.zero_le _⟩ rfl rfl (by decide +kernel) (k_rp rfl (by decide +kernel)) rfl rfl (Nat.le_of_ble_eq_true rfl) dX12_man_93 rfl (fun H locs hP hD hS => ?_)
              obtain ⟨g96, h⟩ := k_guard h
              refine va_iald hx hb hK hP 1 0 rfl rfl g96 dX12_man_96 ?_
              have h := Option.some.inj h; subst h
              exact hret _ _ _ _ hP hS dX12_man_97
    · have h := k_pos c14 h
      refine lv_iconst (v := (-1)) hx hb dX12_man_17 (by decide) ?_
      have h := Option.some.inj h; subst h
      exact hret _ _ _ _ hP hS dX12_man_18
abbrev Wd47 (cI : ClassId) (aR : Nat → Nat) (q_hasImage : Int32) (q_place : Int32) (q_rowAt : Int32) (q_rowEnd : Int32) (q_seed : Int32) (q_thrown : Int32) (q_kept : Nat → Int32) : va_W := [((aR 0), .inr (12, [.ref (aR 1), .ref (aR 2), .ref (aR 3), .ref (aR 4), .int q_hasImage, .int q_place, .int q_rowAt, .int q_rowEnd, .ref (aR 5), .ref (aR 6), .int q_seed, .ref (aR 7), .ref (aR 8), .ref (aR 9), .ref (aR 10), .ref (aR 11), .ref (aR 12), .int q_thrown])), ((aR 7), .inl (cI, 8, .inl q_kept))]
abbrev rm_X12_wrongKept : Room := { frames := 2, cells := 0, slots := 0, locals := 42 }
set_option maxHeartbeats 4000000 in
set_option maxRecDepth 100000 in
theorem c_MD_wrongKept (l : Launch) (D : va_G) (cI cM cS cJ : ClassId) (aR : Nat → Nat) (sz : Nat) (x1 : Int32) (q_hasImage : Int32) (q_place : Int32) (q_rowAt : Int32) (q_rowEnd : Int32) (q_seed : Int32) (q_thrown : Int32) (q_kept : Nat → Int32) {o : (Int32)} (hsem : S_MD_wrongKept x1 q_kept = some o) : kMet l yX12_wrongKept wsX12_wrongKept rm_X12_wrongKept [.ref (aR 0), .int x1] D (kT cI cM cS cJ) (Wd47 cI aR q_hasImage q_place q_rowAt q_rowEnd q_seed q_thrown q_kept) sz (some (.int o)) (Wd47 cI aR q_hasImage q_place q_rowAt q_rowEnd q_seed q_thrown q_kept) := by
  refine k_metI (by decide) rfl rfl (Nat.le_of_ble_eq_true rfl) ?_
  intro p e s m below meth c ls Q A hx hb hml hts hown hK hN hA hP hD hS hl hsz hnm hret
  have hown : s.vm.findClass RX12 = some m.cls := hown
  have hf28 := hts (.fieldLink RX12 28 "PlumbLineModel" "kept" "[I") (List.mem_of_getElem? (i := 1) rfl)
  have hiX12 : ∀ w ∈ u_ws RX12 TX12 18, w ∈ wsX12_wrongKept := fun w h => List.mem_cons_of_mem _ (List.mem_append_right _ h)
  replace hl : lv_has ls 2 [(0, .ref (aR 0)), (1, .int x1)] := hl
  have h := hsem
  clear hsem
  rw [S_MD_wrongKept] at h
  refine lv_iload_n hx hb dX12_wrongKept_0 rfl (lv_at hl 1 rfl) ?_
  obtain ⟨r1, g1, h⟩ := k_bind h
  refine k_callS (As := [.int x1]) (rest := []) (st1 := [.int r1]) (ws2 := (Wd47 cI aR q_hasImage q_place q_rowAt q_rowEnd q_seed q_thrown q_kept)) hx hb hml hown hts hK hN hA hP hD hS hl (c_MD_isShelf l D cI cM cS cJ s.heap.size x1 g1) gX12_wrongKept_X12_isShelf rfl kdS_X12_isShelf [] ⟨rfl, rfl⟩ ⟨Nat.le_of_ble_eq_true rfl, Nat.le_of_ble_eq_true rfl⟩ ⟨Nat.zero_le _, Nat.zero_le _⟩ rfl rfl (by decide +kernel) (k_rp rfl (by decide +kernel)) rfl rfl (Nat.le_of_ble_eq_true rfl) dX12_wrongKept_1 rfl (fun H locs hP hD hS => ?_)
  refine lv_if_ne (tgt := 11) hx hb dX12_wrongKept_4 (by decide) (fun c4 => ?_) (fun c4 => ?_)
  · have h := k_neg c4 h
    refine lv_aload_n hx hb dX12_wrongKept_11 rfl (lv_at hl 0 rfl) ?_
    refine va_get (D := D) (ci := 12) (v := .ref (aR 7)) (C := RX12) (T := TX12) (N := 18) hx hb hts hiX12 hown hK hP 0 rfl rfl 11 (by decide) hf28 (fun _ z => z) rfl dX12_wrongKept_12 ?_
    refine lv_iload_n hx hb dX12_wrongKept_15 rfl (lv_at hl 1 rfl) ?_
    obtain ⟨g16, h⟩ := k_guard h
    refine va_iald hx hb hK hP 1 0 rfl rfl g16 dX12_wrongKept_16 ?_
    refine lv_if_ne (tgt := 25) hx hb dX12_wrongKept_17 (by decide) (fun c17 => ?_) (fun c17 => ?_)
    · have h := k_neg c17 h
      refine lv_aload_n hx hb dX12_wrongKept_25 rfl (lv_at hl 0 rfl) ?_
      refine va_get (D := D) (ci := 12) (v := .ref (aR 7)) (C := RX12) (T := TX12) (N := 18) hx hb hts hiX12 hown hK hP 0 rfl rfl 11 (by decide) hf28 (fun _ z => z) rfl dX12_wrongKept_26 ?_
      refine lv_iload_n hx hb dX12_wrongKept_29 rfl (lv_at hl 1 rfl) ?_
      refine va_iald hx hb hK hP 1 0 rfl rfl g16 dX12_wrongKept_30 ?_
      refine lv_iconst (v := 2) hx hb dX12_wrongKept_31 (by decide) ?_
      refine lv_icmp_ne (tgt := 40) hx hb dX12_wrongKept_32 (by decide) (fun c32 => ?_) (fun c32 => ?_)
      · have h := k_neg c32 h
        refine lv_iconst (v := 0) hx hb dX12_wrongKept_40 (by decide) ?_
        have h := Option.some.inj h; subst h
        exact hret _ _ _ _ hP hS dX12_wrongKept_41
      · have h := k_pos c32 h
        refine lv_bipush (v := (-12)) hx hb dX12_wrongKept_35 (by decide) ?_
        refine lv_goto (tgt := 41) hx hb dX12_wrongKept_37 (by decide) ?_
        have h := Option.some.inj h; subst h
        exact hret _ _ _ _ hP hS dX12_wrongKept_41
    · have h := k_pos c17 h
      refine lv_bipush (v := (-11)) hx hb dX12_wrongKept_20 (by decide) ?_
      refine lv_goto (tgt := 41) hx hb dX12_wrongKept_22 (by decide) ?_
      have h := Option.some.inj h; subst h
      exact hret _ _ _ _ hP hS dX12_wrongKept_41
  · have h := k_pos c4 h
    refine lv_iconst (v := (-1)) hx hb dX12_wrongKept_7 (by decide) ?_
    refine lv_goto (tgt := 41) hx hb dX12_wrongKept_8 (by decide) ?_
    have h := Option.some.inj h; subst h
    exact hret _ _ _ _ hP hS dX12_wrongKept_41
abbrev Wd48 (cI : ClassId) (aR : Nat → Nat) (q_hasImage : Int32) (q_place : Int32) (q_rowAt : Int32) (q_rowEnd : Int32) (q_seed : Int32) (q_thrown : Int32) (q_s : Nat → Int32) (q_kept : Nat → Int32) (q_keptKind : Nat → Int32) (q_keptFigure : Nat → Int32) : va_W := [((aR 0), .inr (12, [.ref (aR 1), .ref (aR 2), .ref (aR 3), .ref (aR 4), .int q_hasImage, .int q_place, .int q_rowAt, .int q_rowEnd, .ref (aR 5), .ref (aR 6), .int q_seed, .ref (aR 7), .ref (aR 8), .ref (aR 9), .ref (aR 10), .ref (aR 11), .ref (aR 12), .int q_thrown])), ((aR 1), .inl (cI, 37, .inl q_s)), ((aR 7), .inl (cI, 8, .inl q_kept)), ((aR 8), .inl (cI, 8, .inl q_keptKind)), ((aR 9), .inl (cI, 8, .inl q_keptFigure))]
theorem kdS_X12_isLean : yX12_isLean.cls ≠ "java/lang/invoke/MethodHandle" ∧ yX12_isLean.cls ≠ "java/lang/invoke/VarHandle" ∧ (parseMethodDescriptor yX12_isLean.desc).map (fun d => d.parameters.length) = some 1 := by decide +kernel
theorem kdV_X12_wrongKept : yX12_wrongKept.cls = RX12 ∧ yX12_wrongKept.cls ≠ "java/lang/invoke/MethodHandle" ∧ yX12_wrongKept.cls ≠ "java/lang/invoke/VarHandle" ∧ (parseMethodDescriptor yX12_wrongKept.desc).map (fun d => d.parameters.length) = some 1 := by decide +kernel
abbrev rm_X12_comes : Room := { frames := 3, cells := 0, slots := 0, locals := 63 }
set_option maxHeartbeats 4000000 in
set_option maxRecDepth 100000 in
theorem c_MD_comes (l : Launch) (D : va_G) (cI cM cS cJ : ClassId) (aR : Nat → Nat) (sz : Nat) (x1 : Int32) (x2 : Int32) (q_hasImage : Int32) (q_place : Int32) (q_rowAt : Int32) (q_rowEnd : Int32) (q_seed : Int32) (q_thrown : Int32) (q_s : Nat → Int32) (q_kept : Nat → Int32) (q_keptKind : Nat → Int32) (q_keptFigure : Nat → Int32) {o : (Int32) × (Nat → Int32)} (hsem : S_MD_comes x1 x2 q_s q_kept q_keptKind q_keptFigure = some o) : kMet l yX12_comes wsX12_comes rm_X12_comes [.ref (aR 0), .int x1, .int x2] D (kT cI cM cS cJ) (Wd48 cI aR q_hasImage q_place q_rowAt q_rowEnd q_seed q_thrown q_s q_kept q_keptKind q_keptFigure) sz (some (.int o.1)) (Wd48 cI aR q_hasImage q_place q_rowAt q_rowEnd q_seed q_thrown o.2 q_kept q_keptKind q_keptFigure) := by
  refine k_metI (by decide) rfl rfl (Nat.le_of_ble_eq_true rfl) ?_
  intro p e s m below meth c ls Q A hx hb hml hts hown hK hN hA hP hD hS hl hsz hnm hret
  have hown : s.vm.findClass RX12 = some m.cls := hown
  have hf9 := hts (.fieldLink RX12 9 "PlumbLineModel" "s" "[I") (List.mem_of_getElem? (i := 1) rfl)
  have hf31 := hts (.fieldLink RX12 31 "PlumbLineModel" "keptKind" "[I") (List.mem_of_getElem? (i := 2) rfl)
  have hf34 := hts (.fieldLink RX12 34 "PlumbLineModel" "keptFigure" "[I") (List.mem_of_getElem? (i := 3) rfl)
  have hiX12 : ∀ w ∈ u_ws RX12 TX12 18, w ∈ wsX12_comes := fun w h => List.mem_cons_of_mem _ (List.mem_append_right _ h)
  replace hl : lv_has ls 4 [(0, .ref (aR 0)), (1, .int x1), (2, .int x2)] := hl
  have h := hsem
  clear hsem
  rw [S_MD_comes] at h
  refine lv_iload_n hx hb dX12_comes_0 rfl (lv_at hl 2 rfl) ?_
  obtain ⟨r1, g1, h⟩ := k_bind h
  refine k_callS (As := [.int x2]) (rest := []) (st1 := [.int r1]) (ws2 := (Wd48 cI aR q_hasImage q_place q_rowAt q_rowEnd q_seed q_thrown q_s q_kept q_keptKind q_keptFigure)) hx hb hml hown hts hK hN hA hP hD hS hl (c_MD_isLean l D cI cM cS cJ s.heap.size x2 g1) gX12_comes_X12_isLean rfl kdS_X12_isLean [] ⟨rfl, rfl⟩ ⟨Nat.le_of_ble_eq_true rfl, Nat.le_of_ble_eq_true rfl⟩ ⟨Nat.zero_le _, Nat.zero_le _⟩ rfl rfl (by decide +kernel) (k_rp rfl (by decide +kernel)) rfl rfl (Nat.le_of_ble_eq_true rfl) dX12_comes_1 rfl (fun H locs hP hD hS => ?_)
  refine lv_if_ne (tgt := 9) hx hb dX12_comes_4 (by decide) (fun c4 => ?_) (fun c4 => ?_)
  · have h := k_neg c4 h
    refine lv_aload_n hx hb dX12_comes_9 rfl (lv_at hl 0 rfl) ?_
    refine lv_iload_n hx hb dX12_comes_10 rfl (lv_at hl 1 rfl) ?_
    obtain ⟨r11, g11, h⟩ := k_bind h
    refine k_callV (As := [.int x1]) (rest := []) (st1 := [.int r11]) (ws2 := (Wd48 cI aR q_hasImage q_place q_rowAt q_rowEnd q_seed q_thrown q_s q_kept q_keptKind q_keptFigure)) hx hb hml hown hts hK hN hA hP hD hS hl (c_MD_wrongKept l D cI cM cS cJ aR H.size x1 q_hasImage q_place q_rowAt q_rowEnd q_seed q_thrown q_kept g11) gX12_comes_X12_wrongKept rfl kdV_X12_wrongKept 0 12 rfl rfl rfl [0, 2] ⟨rfl, rfl⟩ ⟨Nat.le_of_ble_eq_true rfl, Nat.le_of_ble_eq_true rfl⟩ ⟨Nat.zero_le _, Nat.zero_le _⟩ rfl rfl (by decide +kernel) (k_rp rfl (by decide +kernel)) rfl rfl (Nat.le_of_ble_eq_true rfl) dX12_comes_11 rfl (fun H locs hP hD hS => ?_)
    refine lv_istore_n (lv' := [(3, .int r11), (0, .ref (aR 0)), (1, .int x1), (2, .int x2)]) hx hb dX12_comes_14 rfl hl (by decide) rfl (fun ls hl => ?_)
    refine lv_iload_n hx hb dX12_comes_15 rfl (lv_at hl 0 rfl) ?_
    refine lv_if_eq (tgt := 21) hx hb dX12_comes_16 (by decide) (fun c16 => ?_) (fun c16 => ?_)
    · have h := k_pos c16 h
      refine lv_aload_n hx hb dX12_comes_21 rfl (lv_at hl 1 rfl) ?_
      refine va_get (D := D) (ci := 12) (v := .ref (aR 1)) (C := RX12) (T := TX12) (N := 18) hx hb hts hiX12 hown hK hP 0 rfl rfl 0 (by decide) hf9 (fun _ z => z) rfl dX12_comes_22 ?_
      refine lv_iconst (v := 0) hx hb dX12_comes_25 (by decide) ?_
      refine va_iald hx hb hK hP 1 0 rfl rfl (show ¬ ((0 : Int32) < 0 ∨ 37 ≤ (0 : Int32).toNatClampNeg) by decide) dX12_comes_26 ?_
      refine lv_bipush (v := 8) hx hb dX12_comes_27 (by decide) ?_
      refine lv_icmp_ne (tgt := 35) hx hb dX12_comes_29 (by decide) (fun c29 => ?_) (fun c29 => ?_)
      · have h := k_neg c29 h
        refine lv_aload_n hx hb dX12_comes_35 rfl (lv_at hl 1 rfl) ?_
        refine lv_aload_n hx hb dX12_comes_36 rfl (lv_at hl 1 rfl) ?_
        refine va_get (D := D) (ci := 12) (v := .ref (aR 8)) (C := RX12) (T := TX12) (N := 18) hx hb hts hiX12 hown hK hP 0 rfl rfl 12 (by decide) hf31 (fun _ z => z) rfl dX12_comes_37 ?_
        refine lv_iload_n hx hb dX12_comes_40 rfl (lv_at hl 2 rfl) ?_
        obtain ⟨g41, h⟩ := k_guard h
        refine va_iald hx hb hK hP 3 0 rfl rfl g41 dX12_comes_41 ?_
        refine lv_aload_n hx hb dX12_comes_42 rfl (lv_at hl 1 rfl) ?_
        refine va_get (D := D) (ci := 12) (v := .ref (aR 9)) (C := RX12) (T := TX12) (N := 18) hx hb hts hiX12 hown hK hP 0 rfl rfl 13 (by decide) hf34 (fun _ z => z) rfl dX12_comes_43 ?_
        refine lv_iload_n hx hb dX12_comes_46 rfl (lv_at hl 2 rfl) ?_
        refine va_iald hx hb hK hP 4 0 rfl rfl g41 dX12_comes_47 ?_
        refine lv_iload_n hx hb dX12_comes_48 rfl (lv_at hl 3 rfl) ?_
        obtain ⟨r49, g49, h⟩ := k_bind h
        refine k_callV (As := [.int (q_keptKind x1.toNatClampNeg), .int (q_keptFigure x1.toNatClampNeg), .int x2]) (rest := []) (st1 := []) (ws2 := (Wd48 cI aR q_hasImage q_place q_rowAt q_rowEnd q_seed q_thrown r49 q_kept q_keptKind q_keptFigure)) hx hb hml hown hts hK hN hA hP hD hS hl (c_MD_adds l D cI cM cS cJ aR H.size (q_keptKind x1.toNatClampNeg) (q_keptFigure x1.toNatClampNeg) x2 q_hasImage q_place q_rowAt q_rowEnd q_seed q_thrown q_s g49) gX12_comes_X12_adds rfl kdV_X12_adds 0 12 rfl rfl rfl [0, 1] ⟨rfl, rfl⟩ ⟨Nat.le_of_ble_eq_true rfl, Nat.le_of_ble_eq_true rfl⟩ ⟨Nat.zero_le _, Nat.zero_le _⟩ rfl rfl (by decide +kernel) (k_rp rfl (by decide +kernel)) rfl rfl (Nat.le_of_ble_eq_true rfl) dX12_comes_49 rfl (fun H locs hP hD hS => ?_)
        refine lv_aload_n hx hb dX12_comes_52 rfl (lv_at hl 1 rfl) ?_
        refine va_get (D := D) (ci := 12) (v := .ref (aR 1)) (C := RX12) (T := TX12) (N := 18) hx hb hts hiX12 hown hK hP 0 rfl rfl 0 (by decide) hf9 (fun _ z => z) rfl dX12_comes_53 ?_
        refine lv_iconst (v := 0) hx hb dX12_comes_56 (by decide) ?_
        refine va_iald hx hb hK hP 1 0 rfl rfl (show ¬ ((0 : Int32) < 0 ∨ 37 ≤ (0 : Int32).toNatClampNeg) by decide) dX12_comes_57 ?_
        refine lv_iconst (v := 1) hx hb dX12_comes_58 (by decide) ?_
        refine lv_isub hx hb dX12_comes_59 ?_
        have h := Option.some.inj h; subst h
        exact hret _ _ _ _ hP hS dX12_comes_60
      · have h := k_pos c29 h
        refine lv_bipush (v := (-2)) hx hb dX12_comes_32 (by decide) ?_
        have h := Option.some.inj h; subst h
        exact hret _ _ _ _ hP hS dX12_comes_34
    · have h := k_neg c16 h
      refine lv_iload_n hx hb dX12_comes_19 rfl (lv_at hl 0 rfl) ?_
      have h := Option.some.inj h; subst h
      exact hret _ _ _ _ hP hS dX12_comes_20
  · have h := k_pos c4 h
    refine lv_iconst (v := (-1)) hx hb dX12_comes_7 (by decide) ?_
    have h := Option.some.inj h; subst h
    exact hret _ _ _ _ hP hS dX12_comes_8
abbrev rm_X12_pushes : Room := { frames := 2, cells := 0, slots := 0, locals := 43 }
set_option maxHeartbeats 4000000 in
set_option maxRecDepth 100000 in
theorem c_MD_pushes (l : Launch) (D : va_G) (cI cM cS cJ : ClassId) (aR : Nat → Nat) (sz : Nat) (x1 : Int32) (x2 : Int32) (q_hasImage : Int32) (q_place : Int32) (q_rowAt : Int32) (q_rowEnd : Int32) (q_seed : Int32) (q_thrown : Int32) (q_s : Nat → Int32) {o : (Int32) × (Nat → Int32)} (hsem : S_MD_pushes x1 x2 q_s = some o) : kMet l yX12_pushes wsX12_pushes rm_X12_pushes [.ref (aR 0), .int x1, .int x2] D (kT cI cM cS cJ) (Wd40 cI aR q_hasImage q_place q_rowAt q_rowEnd q_seed q_thrown q_s) sz (some (.int o.1)) (Wd40 cI aR q_hasImage q_place q_rowAt q_rowEnd q_seed q_thrown o.2) := by
  refine k_metI (by decide) rfl rfl (Nat.le_of_ble_eq_true rfl) ?_
  intro p e s m below meth c ls Q A hx hb hml hts hown hK hN hA hP hD hS hl hsz hnm hret
  have hown : s.vm.findClass RX12 = some m.cls := hown
  have hf9 := hts (.fieldLink RX12 9 "PlumbLineModel" "s" "[I") (List.mem_of_getElem? (i := 2) rfl)
  have hiX12 : ∀ w ∈ u_ws RX12 TX12 18, w ∈ wsX12_pushes := fun w h => List.mem_cons_of_mem _ (List.mem_append_right _ h)
  replace hl : lv_has ls 4 [(0, .ref (aR 0)), (1, .int x1), (2, .int x2)] := hl
  have h := hsem
  clear hsem
  rw [S_MD_pushes] at h
  refine lv_aload_n hx hb dX12_pushes_0 rfl (lv_at hl 0 rfl) ?_
  refine lv_iload_n hx hb dX12_pushes_1 rfl (lv_at hl 1 rfl) ?_
  obtain ⟨r2, g2, h⟩ := k_bind h
  refine k_callV (As := [.int x1]) (rest := []) (st1 := [.int r2]) (ws2 := (Wd40 cI aR q_hasImage q_place q_rowAt q_rowEnd q_seed q_thrown q_s)) hx hb hml hown hts hK hN hA hP hD hS hl (c_MD_isMan l D cI cM cS cJ aR s.heap.size x1 q_hasImage q_place q_rowAt q_rowEnd q_seed q_thrown q_s g2) gX12_pushes_X12_isMan rfl kdV_X12_isMan 0 12 rfl rfl rfl [0, 1] ⟨rfl, rfl⟩ ⟨Nat.le_of_ble_eq_true rfl, Nat.le_of_ble_eq_true rfl⟩ ⟨Nat.zero_le _, Nat.zero_le _⟩ rfl rfl (by decide +kernel) (k_rp rfl (by decide +kernel)) rfl rfl (Nat.le_of_ble_eq_true rfl) dX12_pushes_2 rfl (fun H locs hP hD hS => ?_)
  refine lv_if_eq (tgt := 15) hx hb dX12_pushes_5 (by decide) (fun c5 => ?_) (fun c5 => ?_)
  · have h := k_pos c5 h
    refine lv_ldc (v := 1000000001) hx hb hown (hts (.constant RX12 155 1000000001) (List.mem_of_getElem? (i := 1) rfl)) dX12_pushes_15 ?_
    have h := Option.some.inj h; subst h
    exact hret _ _ _ _ hP hS dX12_pushes_17
  · have h := k_neg c5 h
    refine lv_iload_n hx hb dX12_pushes_8 rfl (lv_at hl 2 rfl) ?_
    obtain ⟨r9, g9, h⟩ := k_bind h
    refine k_callS (As := [.int x2]) (rest := []) (st1 := [.int r9]) (ws2 := (Wd40 cI aR q_hasImage q_place q_rowAt q_rowEnd q_seed q_thrown q_s)) hx hb hml hown hts hK hN hA hP hD hS hl (c_MD_isLean l D cI cM cS cJ H.size x2 g9) gX12_pushes_X12_isLean rfl kdS_X12_isLean [] ⟨rfl, rfl⟩ ⟨Nat.le_of_ble_eq_true rfl, Nat.le_of_ble_eq_true rfl⟩ ⟨Nat.zero_le _, Nat.zero_le _⟩ rfl rfl (by decide +kernel) (k_rp rfl (by decide +kernel)) rfl rfl (Nat.le_of_ble_eq_true rfl) dX12_pushes_9 rfl (fun H locs hP hD hS => ?_)
    refine lv_if_ne (tgt := 18) hx hb dX12_pushes_12 (by decide) (fun c12 => ?_) (fun c12 => ?_)
    · have h := k_neg c12 h
      refine lv_aload_n hx hb dX12_pushes_18 rfl (lv_at hl 0 rfl) ?_
      refine va_get (D := D) (ci := 12) (v := .ref (aR 1)) (C := RX12) (T := TX12) (N := 18) hx hb hts hiX12 hown hK hP 0 rfl rfl 0 (by decide) hf9 (fun _ z => z) rfl dX12_pushes_19 ?_
      refine lv_iload_n hx hb dX12_pushes_22 rfl (lv_at hl 1 rfl) ?_
      refine lv_iconst (v := 2) hx hb dX12_pushes_23 (by decide) ?_
      refine k_callS (As := [.int x1, .int 2]) (rest := [.ref (aR 1)]) (st1 := [.int (S_MD_of x1 2), .ref (aR 1)]) (ws2 := (Wd40 cI aR q_hasImage q_place q_rowAt q_rowEnd q_seed q_thrown q_s)) hx hb hml hown hts hK hN hA hP hD hS hl (c_MD_of l D cI cM cS cJ H.size x1 2 rfl) gX12_pushes_X12_of rfl kdS_X12_of [] ⟨rfl, rfl⟩ ⟨Nat.le_of_ble_eq_true rfl, Nat.le_of_ble_eq_true rfl⟩ ⟨Nat.zero_le _, Nat.zero_le _⟩ rfl rfl (by decide +kernel) (k_rp rfl (by decide +kernel)) rfl rfl (Nat.le_of_ble_eq_true rfl) dX12_pushes_24 rfl (fun H locs hP hD hS => ?_)
      obtain ⟨g27, h⟩ := k_guard h
      refine va_iald hx hb hK hP 1 0 rfl rfl g27 dX12_pushes_27 ?_
      refine lv_istore_n (lv' := [(3, .int (q_s (S_MD_of x1 2).toNatClampNeg)), (0, .ref (aR 0)), (1, .int x1), (2, .int x2)]) hx hb dX12_pushes_28 rfl hl (by decide) rfl (fun ls hl => ?_)
      refine lv_aload_n hx hb dX12_pushes_29 rfl (lv_at hl 1 rfl) ?_
      refine va_get (D := D) (ci := 12) (v := .ref (aR 1)) (C := RX12) (T := TX12) (N := 18) hx hb hts hiX12 hown hK hP 0 rfl rfl 0 (by decide) hf9 (fun _ z => z) rfl dX12_pushes_30 ?_
      refine lv_iload_n hx hb dX12_pushes_33 rfl (lv_at hl 2 rfl) ?_
      refine lv_iconst (v := 2) hx hb dX12_pushes_34 (by decide) ?_
      refine k_callS (As := [.int x1, .int 2]) (rest := [.ref (aR 1)]) (st1 := [.int (S_MD_of x1 2), .ref (aR 1)]) (ws2 := (Wd40 cI aR q_hasImage q_place q_rowAt q_rowEnd q_seed q_thrown q_s)) hx hb hml hown hts hK hN hA hP hD hS hl (c_MD_of l D cI cM cS cJ H.size x1 2 rfl) gX12_pushes_X12_of rfl kdS_X12_of [] ⟨rfl, rfl⟩ ⟨Nat.le_of_ble_eq_true rfl, Nat.le_of_ble_eq_true rfl⟩ ⟨Nat.zero_le _, Nat.zero_le _⟩ rfl rfl (by decide +kernel) (k_rp rfl (by decide +kernel)) rfl rfl (Nat.le_of_ble_eq_true rfl) dX12_pushes_35 rfl (fun H locs hP hD hS => ?_)
      refine lv_iload_n hx hb dX12_pushes_38 rfl (lv_at hl 3 rfl) ?_
      refine va_iast hx hb hK hP hD hS 1 0 rfl rfl g27 dX12_pushes_39 (fun H locs hP hD hS => ?_)
      replace hP : va_P D vwCl (Wd40 cI aR q_hasImage q_place q_rowAt q_rowEnd q_seed q_thrown (upd q_s (S_MD_of x1 2).toNatClampNeg x2)) H := hP
      replace hD : va_D A (Wd40 cI aR q_hasImage q_place q_rowAt q_rowEnd q_seed q_thrown (upd q_s (S_MD_of x1 2).toNatClampNeg x2)) := hD
      refine lv_iload_n hx hb dX12_pushes_40 rfl (lv_at hl 0 rfl) ?_
      have h := Option.some.inj h; subst h
      exact hret _ _ _ _ hP hS dX12_pushes_41
    · have h := k_pos c12 h
      refine lv_ldc (v := 1000000001) hx hb hown (hts (.constant RX12 155 1000000001) (List.mem_of_getElem? (i := 1) rfl)) dX12_pushes_15 ?_
      have h := Option.some.inj h; subst h
      exact hret _ _ _ _ hP hS dX12_pushes_17
abbrev rm_X12_props : Room := { frames := 2, cells := 0, slots := 0, locals := 43 }
set_option maxHeartbeats 4000000 in
set_option maxRecDepth 100000 in
theorem c_MD_props (l : Launch) (D : va_G) (cI cM cS cJ : ClassId) (aR : Nat → Nat) (sz : Nat) (x1 : Int32) (q_hasImage : Int32) (q_place : Int32) (q_rowAt : Int32) (q_rowEnd : Int32) (q_seed : Int32) (q_thrown : Int32) (q_s : Nat → Int32) {o : (Int32) × (Nat → Int32)} (hsem : S_MD_props x1 q_s = some o) : kMet l yX12_props wsX12_props rm_X12_props [.ref (aR 0), .int x1] D (kT cI cM cS cJ) (Wd40 cI aR q_hasImage q_place q_rowAt q_rowEnd q_seed q_thrown q_s) sz (some (.int o.1)) (Wd40 cI aR q_hasImage q_place q_rowAt q_rowEnd q_seed q_thrown o.2) := by
  refine k_metI (by decide) rfl rfl (Nat.le_of_ble_eq_true rfl) ?_
  intro p e s m below meth c ls Q A hx hb hml hts hown hK hN hA hP hD hS hl hsz hnm hret
  have hown : s.vm.findClass RX12 = some m.cls := hown
  have hf9 := hts (.fieldLink RX12 9 "PlumbLineModel" "s" "[I") (List.mem_of_getElem? (i := 1) rfl)
  have hiX12 : ∀ w ∈ u_ws RX12 TX12 18, w ∈ wsX12_props := fun w h => List.mem_cons_of_mem _ (List.mem_append_right _ h)
  replace hl : lv_has ls 2 [(0, .ref (aR 0)), (1, .int x1)] := hl
  have h := hsem
  clear hsem
  rw [S_MD_props] at h
  refine lv_aload_n hx hb dX12_props_0 rfl (lv_at hl 0 rfl) ?_
  refine lv_iload_n hx hb dX12_props_1 rfl (lv_at hl 1 rfl) ?_
  obtain ⟨r2, g2, h⟩ := k_bind h
  refine k_callV (As := [.int x1]) (rest := []) (st1 := [.int r2]) (ws2 := (Wd40 cI aR q_hasImage q_place q_rowAt q_rowEnd q_seed q_thrown q_s)) hx hb hml hown hts hK hN hA hP hD hS hl (c_MD_isMan l D cI cM cS cJ aR s.heap.size x1 q_hasImage q_place q_rowAt q_rowEnd q_seed q_thrown q_s g2) gX12_props_X12_isMan rfl kdV_X12_isMan 0 12 rfl rfl rfl [0, 1] ⟨rfl, rfl⟩ ⟨Nat.le_of_ble_eq_true rfl, Nat.le_of_ble_eq_true rfl⟩ ⟨Nat.zero_le _, Nat.zero_le _⟩ rfl rfl (by decide +kernel) (k_rp rfl (by decide +kernel)) rfl rfl (Nat.le_of_ble_eq_true rfl) dX12_props_2 rfl (fun H locs hP hD hS => ?_)
  refine lv_if_ne (tgt := 10) hx hb dX12_props_5 (by decide) (fun c5 => ?_) (fun c5 => ?_)
  · have h := k_neg c5 h
    refine lv_aload_n hx hb dX12_props_10 rfl (lv_at hl 0 rfl) ?_
    refine va_get (D := D) (ci := 12) (v := .ref (aR 1)) (C := RX12) (T := TX12) (N := 18) hx hb hts hiX12 hown hK hP 0 rfl rfl 0 (by decide) hf9 (fun _ z => z) rfl dX12_props_11 ?_
    refine lv_iload_n hx hb dX12_props_14 rfl (lv_at hl 1 rfl) ?_
    refine lv_iconst (v := 3) hx hb dX12_props_15 (by decide) ?_
    refine k_callS (As := [.int x1, .int 3]) (rest := [.ref (aR 1)]) (st1 := [.int (S_MD_of x1 3), .ref (aR 1)]) (ws2 := (Wd40 cI aR q_hasImage q_place q_rowAt q_rowEnd q_seed q_thrown q_s)) hx hb hml hown hts hK hN hA hP hD hS hl (c_MD_of l D cI cM cS cJ H.size x1 3 rfl) gX12_props_X12_of rfl kdS_X12_of [] ⟨rfl, rfl⟩ ⟨Nat.le_of_ble_eq_true rfl, Nat.le_of_ble_eq_true rfl⟩ ⟨Nat.zero_le _, Nat.zero_le _⟩ rfl rfl (by decide +kernel) (k_rp rfl (by decide +kernel)) rfl rfl (Nat.le_of_ble_eq_true rfl) dX12_props_16 rfl (fun H locs hP hD hS => ?_)
    refine lv_dup2_11 hx hb dX12_props_19 rfl rfl ?_
    obtain ⟨g20, h⟩ := k_guard h
    refine va_iald hx hb hK hP 1 0 rfl rfl g20 dX12_props_20 ?_
    refine lv_iconst (v := 1) hx hb dX12_props_21 (by decide) ?_
    refine lv_ixor hx hb dX12_props_22 ?_
    refine va_iast hx hb hK hP hD hS 1 0 rfl rfl g20 dX12_props_23 (fun H locs hP hD hS => ?_)
    replace hP : va_P D vwCl (Wd40 cI aR q_hasImage q_place q_rowAt q_rowEnd q_seed q_thrown (upd q_s (S_MD_of x1 3).toNatClampNeg ((q_s (S_MD_of x1 3).toNatClampNeg) ^^^ 1))) H := hP
    replace hD : va_D A (Wd40 cI aR q_hasImage q_place q_rowAt q_rowEnd q_seed q_thrown (upd q_s (S_MD_of x1 3).toNatClampNeg ((q_s (S_MD_of x1 3).toNatClampNeg) ^^^ 1))) := hD
    refine lv_aload_n hx hb dX12_props_24 rfl (lv_at hl 0 rfl) ?_
    refine va_get (D := D) (ci := 12) (v := .ref (aR 1)) (C := RX12) (T := TX12) (N := 18) hx hb hts hiX12 hown hK hP 0 rfl rfl 0 (by decide) hf9 (fun _ z => z) rfl dX12_props_25 ?_
    refine lv_iload_n hx hb dX12_props_28 rfl (lv_at hl 1 rfl) ?_
    refine lv_iconst (v := 3) hx hb dX12_props_29 (by decide) ?_
    refine k_callS (As := [.int x1, .int 3]) (rest := [.ref (aR 1)]) (st1 := [.int (S_MD_of x1 3), .ref (aR 1)]) (ws2 := (Wd40 cI aR q_hasImage q_place q_rowAt q_rowEnd q_seed q_thrown (upd q_s (S_MD_of x1 3).toNatClampNeg ((q_s (S_MD_of x1 3).toNatClampNeg) ^^^ 1)))) hx hb hml hown hts hK hN hA hP hD hS hl (c_MD_of l D cI cM cS cJ H.size x1 3 rfl) gX12_props_X12_of rfl kdS_X12_of [] ⟨rfl, rfl⟩ ⟨Nat.le_of_ble_eq_true rfl, Nat.le_of_ble_eq_true rfl⟩ ⟨Nat.zero_le _, Nat.zero_le _⟩ rfl rfl (by decide +kernel) (k_rp rfl (by decide +kernel)) rfl rfl (Nat.le_of_ble_eq_true rfl) dX12_props_30 rfl (fun H locs hP hD hS => ?_)
    refine va_iald hx hb hK hP 1 0 rfl rfl g20 dX12_props_33 ?_
    have h := Option.some.inj h; subst h
    exact hret _ _ _ _ hP hS dX12_props_34
  · have h := k_pos c5 h
    refine lv_iconst (v := (-1)) hx hb dX12_props_8 (by decide) ?_
    have h := Option.some.inj h; subst h
    exact hret _ _ _ _ hP hS dX12_props_9
