theorem kdS_X12_day : yX12_day.cls ≠ "java/lang/invoke/MethodHandle" ∧ yX12_day.cls ≠ "java/lang/invoke/VarHandle" ∧ (parseMethodDescriptor yX12_day.desc).map (fun d => d.parameters.length) = some 1 := by decide +kernel
abbrev rm_X12_daysOn : Room := { frames := 4, cells := 0, slots := 0, locals := 90 }
set_option maxHeartbeats 4000000 in
set_option maxRecDepth 100000 in
theorem c_MD_daysOn (l : Launch) (D : va_G) (cI cM cS cJ : ClassId) (a0 : Nat) (sz : Nat) (x1 : Int32) (r0_a : Nat → Int32) {o : (Nat → Int32)} (hsem : S_MD_daysOn x1 r0_a = some o) : kMet l yX12_daysOn wsX12_daysOn rm_X12_daysOn [.ref a0, .int x1] D (kT cI cM cS cJ) (Wd41 cI a0 r0_a) sz none (Wd41 cI a0 o) := by
  refine k_metV (by decide) rfl rfl (Nat.le_of_ble_eq_true rfl) ?_
  intro p e s m below meth c ls Q A hx hb hml hts hown hK hN hA hP hD hS hl hsz hnm hret
  have hown : s.vm.findClass RX12 = some m.cls := hown
  replace hl : lv_has ls 3 [(0, .ref a0), (1, .int x1)] := hl
  have h := hsem
  clear hsem
  rw [S_MD_daysOn] at h
  refine lv_iconst (v := 0) hx hb dX12_daysOn_0 (by decide) ?_
  have B2 : ∀ (n2 : Nat) (y2 : Int32) (r0_a : Nat → Int32) (H : Heap) (locs : List Loc) (ls : Array Slot), va_P D vwCl (Wd41 cI a0 r0_a) H → va_D A (Wd41 cI a0 r0_a) → va_S A s.heap H locs → lv_has ls 3 [(0, .ref a0), (1, .int x1), (2, .int y2)] → S_MD_daysOn_L2 x1 n2 y2 r0_a = some o → W p l e rm_X12_daysOn s m ([.ref a0, .int x1] : List Value).toArray below meth c H locs 0 0 Q (F0 m 2 ls []) := by
    intro n2
    induction n2 with
    | zero => intro y2 r0_a H locs ls hP hD hS hl h; exact absurd h (by simp [S_MD_daysOn_L2])
    | succ n2 ih2 =>
      intro y2 r0_a H locs ls hP hD hS hl h
      rw [S_MD_daysOn_L2] at h
      refine lv_iload_n hx hb dX12_daysOn_2 rfl (lv_at hl 2 rfl) ?_
      refine lv_iload_n hx hb dX12_daysOn_3 rfl (lv_at hl 1 rfl) ?_
      refine lv_icmp_ge (tgt := 17) hx hb dX12_daysOn_4 (by decide) (fun c4 => ?_) (fun c4 => ?_)
      · have h := k_pos c4 h
        have h := Option.some.inj h; subst h
        exact hret _ _ _ _ hP hS dX12_daysOn_17
      · have h := k_neg c4 h
        refine lv_aload_n hx hb dX12_daysOn_7 rfl (lv_at hl 0 rfl) ?_
        obtain ⟨r8, g8, h⟩ := k_bind h
        refine k_callS (As := [.ref a0]) (rest := []) (st1 := []) (ws2 := (Wd41 cI a0 r8)) hx hb hml hown hts hK hN hA hP hD hS hl (c_MD_day l D cI cM cS cJ a0 H.size r0_a g8) gX12_daysOn_X12_day rfl kdS_X12_day [0] ⟨rfl, rfl⟩ ⟨Nat.le_of_ble_eq_true rfl, Nat.le_of_ble_eq_true rfl⟩ ⟨Nat.zero_le _, Nat.zero_le _⟩ rfl rfl (by decide +kernel) (k_rp rfl (by decide +kernel)) rfl rfl (Nat.le_of_ble_eq_true rfl) dX12_daysOn_8 rfl (fun H locs hP hD hS => ?_)
        refine lv_iinc (v := (y2 + 1)) (lv' := [(2, .int (y2 + 1)), (0, .ref a0), (1, .int x1)]) hx hb dX12_daysOn_11 hl (k := 2) rfl (by first | rfl | decide) (by decide) rfl (fun ls hl => ?_)
        refine lv_goto (tgt := 2) hx hb dX12_daysOn_14 (by decide) ?_
        exact ih2 (y2 + 1) r8 H locs ls hP hD hS (lv_sub hl [1, 2, 0] rfl) h
  refine lv_istore_n (lv' := [(2, .int 0), (0, .ref a0), (1, .int x1)]) hx hb dX12_daysOn_1 rfl hl (by decide) rfl (fun ls hl => ?_)
  exact B2 lfu 0 r0_a s.heap [] ls hP hD hS (lv_sub hl [1, 2, 0] rfl) h
abbrev Wd42 (cI : ClassId) (aR : Nat → Nat) (q_hasImage : Int32) (q_place : Int32) (q_rowAt : Int32) (q_rowEnd : Int32) (q_seed : Int32) (q_thrown : Int32) (q_element : Nat → Int32) : va_W := [((aR 0), .inr (12, [.ref (aR 1), .ref (aR 2), .ref (aR 3), .ref (aR 4), .int q_hasImage, .int q_place, .int q_rowAt, .int q_rowEnd, .ref (aR 5), .ref (aR 6), .int q_seed, .ref (aR 7), .ref (aR 8), .ref (aR 9), .ref (aR 10), .ref (aR 11), .ref (aR 12), .int q_thrown])), ((aR 12), .inl (cI, 800, .inl q_element))]
abbrev rm_X12_here : Room := { frames := 0, cells := 0, slots := 0, locals := 0 }
set_option maxHeartbeats 4000000 in
set_option maxRecDepth 100000 in
theorem c_MD_here (l : Launch) (D : va_G) (cI cM cS cJ : ClassId) (aR : Nat → Nat) (sz : Nat) (q_hasImage : Int32) (q_place : Int32) (q_rowAt : Int32) (q_rowEnd : Int32) (q_seed : Int32) (q_thrown : Int32) (q_element : Nat → Int32) {o : (Int32)} (hsem : S_MD_here q_place q_rowAt q_rowEnd q_element = some o) : kMet l yX12_here wsX12_here rm_X12_here [.ref (aR 0)] D (kT cI cM cS cJ) (Wd42 cI aR q_hasImage q_place q_rowAt q_rowEnd q_seed q_thrown q_element) sz (some (.int o)) (Wd42 cI aR q_hasImage q_place q_rowAt q_rowEnd q_seed q_thrown q_element) := by
  refine k_metI (by decide) rfl rfl (Nat.le_of_ble_eq_true rfl) ?_
  intro p e s m below meth c ls Q A hx hb hml hts hown hK hN hA hP hD hS hl hsz hnm hret
  have hown : s.vm.findClass RX12 = some m.cls := hown
  have hf112 := hts (.fieldLink RX12 112 "PlumbLineModel" "place" "I") (List.mem_of_getElem? (i := 1) rfl)
  have hf116 := hts (.fieldLink RX12 116 "PlumbLineModel" "rowEnd" "I") (List.mem_of_getElem? (i := 2) rfl)
  have hf43 := hts (.fieldLink RX12 43 "PlumbLineModel" "element" "[I") (List.mem_of_getElem? (i := 3) rfl)
  have hf119 := hts (.fieldLink RX12 119 "PlumbLineModel" "rowAt" "I") (List.mem_of_getElem? (i := 4) rfl)
  have hiX12 : ∀ w ∈ u_ws RX12 TX12 18, w ∈ wsX12_here := fun w h => List.mem_cons_of_mem _ (List.mem_append_right _ h)
  replace hl : lv_has ls 1 [(0, .ref (aR 0))] := hl
  have h := hsem
  clear hsem
  rw [S_MD_here] at h
  refine lv_aload_n hx hb dX12_here_0 rfl (lv_at hl 0 rfl) ?_
  refine va_get (D := D) (ci := 12) (v := .int q_place) (C := RX12) (T := TX12) (N := 18) hx hb hts hiX12 hown hK hP 0 rfl rfl 5 (by decide) hf112 (fun _ z => z) rfl dX12_here_1 ?_
  refine lv_aload_n hx hb dX12_here_4 rfl (lv_at hl 0 rfl) ?_
  refine va_get (D := D) (ci := 12) (v := .int q_rowEnd) (C := RX12) (T := TX12) (N := 18) hx hb hts hiX12 hown hK hP 0 rfl rfl 7 (by decide) hf116 (fun _ z => z) rfl dX12_here_5 ?_
  refine lv_icmp_ge (tgt := 32) hx hb dX12_here_8 (by decide) (fun c8 => ?_) (fun c8 => ?_)
  · have h := k_pos c8 h
    refine lv_iconst (v := (-1)) hx hb dX12_here_32 (by decide) ?_
    have h := Option.some.inj h; subst h
    exact hret _ _ _ _ hP hS dX12_here_33
  · have h := k_neg c8 h
    refine lv_aload_n hx hb dX12_here_11 rfl (lv_at hl 0 rfl) ?_
    refine va_get (D := D) (ci := 12) (v := .ref (aR 12)) (C := RX12) (T := TX12) (N := 18) hx hb hts hiX12 hown hK hP 0 rfl rfl 16 (by decide) hf43 (fun _ z => z) rfl dX12_here_12 ?_
    refine lv_aload_n hx hb dX12_here_15 rfl (lv_at hl 0 rfl) ?_
    refine va_get (D := D) (ci := 12) (v := .int q_rowAt) (C := RX12) (T := TX12) (N := 18) hx hb hts hiX12 hown hK hP 0 rfl rfl 6 (by decide) hf119 (fun _ z => z) rfl dX12_here_16 ?_
    refine lv_aload_n hx hb dX12_here_19 rfl (lv_at hl 0 rfl) ?_
    refine va_get (D := D) (ci := 12) (v := .int q_place) (C := RX12) (T := TX12) (N := 18) hx hb hts hiX12 hown hK hP 0 rfl rfl 5 (by decide) hf112 (fun _ z => z) rfl dX12_here_20 ?_
    refine lv_iadd hx hb dX12_here_23 ?_
    obtain ⟨g24, h⟩ := k_guard h
    refine va_iald hx hb hK hP 1 0 rfl rfl g24 dX12_here_24 ?_
    refine lv_sipush (v := 255) hx hb dX12_here_25 (by decide) ?_
    refine lv_iand hx hb dX12_here_28 ?_
    refine lv_goto (tgt := 33) hx hb dX12_here_29 (by decide) ?_
    have h := Option.some.inj h; subst h
    exact hret _ _ _ _ hP hS dX12_here_33
abbrev Wd43 (cI : ClassId) (aR : Nat → Nat) (q_hasImage : Int32) (q_place : Int32) (q_rowAt : Int32) (q_rowEnd : Int32) (q_seed : Int32) (q_thrown : Int32) (q_numbers : Nat → Int32) (q_element : Nat → Int32) : va_W := [((aR 0), .inr (12, [.ref (aR 1), .ref (aR 2), .ref (aR 3), .ref (aR 4), .int q_hasImage, .int q_place, .int q_rowAt, .int q_rowEnd, .ref (aR 5), .ref (aR 6), .int q_seed, .ref (aR 7), .ref (aR 8), .ref (aR 9), .ref (aR 10), .ref (aR 11), .ref (aR 12), .int q_thrown])), ((aR 5), .inl (cI, 3, .inl q_numbers)), ((aR 12), .inl (cI, 800, .inl q_element))]
theorem kdV_X12_here : yX12_here.cls = RX12 ∧ yX12_here.cls ≠ "java/lang/invoke/MethodHandle" ∧ yX12_here.cls ≠ "java/lang/invoke/VarHandle" ∧ (parseMethodDescriptor yX12_here.desc).map (fun d => d.parameters.length) = some 0 := by decide +kernel
abbrev rm_X12_readsNumber : Room := { frames := 1, cells := 0, slots := 0, locals := 22 }
set_option maxHeartbeats 4000000 in
set_option maxRecDepth 100000 in
theorem c_MD_readsNumber (l : Launch) (D : va_G) (cI cM cS cJ : ClassId) (aR : Nat → Nat) (sz : Nat) (x1 : Int32) (x2 : Int32) (q_hasImage : Int32) (q_place : Int32) (q_rowAt : Int32) (q_rowEnd : Int32) (q_seed : Int32) (q_thrown : Int32) (q_numbers : Nat → Int32) (q_element : Nat → Int32) {o : (Int32) × (Int32) × (Nat → Int32)} (hsem : S_MD_readsNumber x1 x2 q_place q_rowAt q_rowEnd q_numbers q_element = some o) : kMet l yX12_readsNumber wsX12_readsNumber rm_X12_readsNumber [.ref (aR 0), .int x1, .int x2] D (kT cI cM cS cJ) (Wd43 cI aR q_hasImage q_place q_rowAt q_rowEnd q_seed q_thrown q_numbers q_element) sz (some (.int o.1)) (Wd43 cI aR q_hasImage o.2.1 q_rowAt q_rowEnd q_seed q_thrown o.2.2 q_element) := by
  refine k_metZ (by decide) rfl rfl (Nat.le_of_ble_eq_true rfl) ?_
  intro p e s m below meth c ls Q A hx hb hml hts hown hK hN hA hP hD hS hl hsz hnm hret
  have hown : s.vm.findClass RX12 = some m.cls := hown
  have hf22 := hts (.fieldLink RX12 22 "PlumbLineModel" "numbers" "[I") (List.mem_of_getElem? (i := 1) rfl)
  have hf112 := hts (.fieldLink RX12 112 "PlumbLineModel" "place" "I") (List.mem_of_getElem? (i := 2) rfl)
  have hiX12 : ∀ w ∈ u_ws RX12 TX12 18, w ∈ wsX12_readsNumber := fun w h => List.mem_cons_of_mem _ (List.mem_append_right _ h)
  replace hl : lv_has ls 4 [(0, .ref (aR 0)), (1, .int x1), (2, .int x2)] := hl
  have h := hsem
  clear hsem
  rw [S_MD_readsNumber] at h
  refine lv_aload_n hx hb dX12_readsNumber_0 rfl (lv_at hl 0 rfl) ?_
  refine va_get (D := D) (ci := 12) (v := .ref (aR 5)) (C := RX12) (T := TX12) (N := 18) hx hb hts hiX12 hown hK hP 0 rfl rfl 8 (by decide) hf22 (fun _ z => z) rfl dX12_readsNumber_1 ?_
  refine lv_iload_n hx hb dX12_readsNumber_4 rfl (lv_at hl 1 rfl) ?_
  refine lv_iconst (v := 0) hx hb dX12_readsNumber_5 (by decide) ?_
  obtain ⟨g6, h⟩ := k_guard h
  refine va_iast hx hb hK hP hD hS 1 0 rfl rfl g6 dX12_readsNumber_6 (fun H locs hP hD hS => ?_)
  replace hP : va_P D vwCl (Wd43 cI aR q_hasImage q_place q_rowAt q_rowEnd q_seed q_thrown (upd q_numbers x1.toNatClampNeg 0) q_element) H := hP
  replace hD : va_D A (Wd43 cI aR q_hasImage q_place q_rowAt q_rowEnd q_seed q_thrown (upd q_numbers x1.toNatClampNeg 0) q_element) := hD
  refine lv_iconst (v := 0) hx hb dX12_readsNumber_7 (by decide) ?_
  have B9 : ∀ (n9 : Nat) (y3 : Int32) (q_place : Int32) (q_numbers : Nat → Int32) (H : Heap) (locs : List Loc) (ls : Array Slot), va_P D vwCl (Wd43 cI aR q_hasImage q_place q_rowAt q_rowEnd q_seed q_thrown q_numbers q_element) H → va_D A (Wd43 cI aR q_hasImage q_place q_rowAt q_rowEnd q_seed q_thrown q_numbers q_element) → va_S A s.heap H locs → lv_has ls 4 [(0, .ref (aR 0)), (1, .int x1), (2, .int x2), (3, .int y3)] → S_MD_readsNumber_L9 x1 x2 q_rowAt q_rowEnd q_element n9 y3 q_place q_numbers = some o → W p l e rm_X12_readsNumber s m ([.ref (aR 0), .int x1, .int x2] : List Value).toArray below meth c H locs 0 0 Q (F0 m 9 ls []) := by
    intro n9
    induction n9 with
    | zero => intro y3 q_place q_numbers H locs ls hP hD hS hl h; exact absurd h (by simp [S_MD_readsNumber_L9])
    | succ n9 ih9 =>
      intro y3 q_place q_numbers H locs ls hP hD hS hl h
      rw [S_MD_readsNumber_L9] at h
      refine lv_iload_n hx hb dX12_readsNumber_9 rfl (lv_at hl 3 rfl) ?_
      refine lv_iload_n hx hb dX12_readsNumber_10 rfl (lv_at hl 2 rfl) ?_
      refine lv_icmp_ge (tgt := 69) hx hb dX12_readsNumber_11 (by decide) (fun c11 => ?_) (fun c11 => ?_)
      · have h := k_pos c11 h
        refine lv_iconst (v := 1) hx hb dX12_readsNumber_69 (by decide) ?_
        have h := Option.some.inj h; subst h
        exact hret _ _ _ _ (k_z01 (fun z => z (Or.inr rfl))) hP hS dX12_readsNumber_70
      · have h := k_neg c11 h
        refine lv_aload_n hx hb dX12_readsNumber_14 rfl (lv_at hl 0 rfl) ?_
        obtain ⟨r15, g15, h⟩ := k_bind h
        refine k_callV (As := []) (rest := []) (st1 := [.int r15]) (ws2 := (Wd43 cI aR q_hasImage q_place q_rowAt q_rowEnd q_seed q_thrown q_numbers q_element)) hx hb hml hown hts hK hN hA hP hD hS hl (c_MD_here l D cI cM cS cJ aR H.size q_hasImage q_place q_rowAt q_rowEnd q_seed q_thrown q_element g15) gX12_readsNumber_X12_here rfl kdV_X12_here 0 12 rfl rfl rfl [0, 2] ⟨rfl, rfl⟩ ⟨Nat.le_of_ble_eq_true rfl, Nat.le_of_ble_eq_true rfl⟩ ⟨Nat.zero_le _, Nat.zero_le _⟩ rfl rfl (by decide +kernel) (k_rp rfl (by decide +kernel)) rfl rfl (Nat.le_of_ble_eq_true rfl) dX12_readsNumber_15 rfl (fun H locs hP hD hS => ?_)
        refine lv_bipush (v := 48) hx hb dX12_readsNumber_18 (by decide) ?_
        refine lv_bipush (v := 57) hx hb dX12_readsNumber_20 (by decide) ?_
        refine k_callS (As := [.int r15, .int 48, .int 57]) (rest := []) (st1 := [.int (S_MD_isIn r15 48 57)]) (ws2 := (Wd43 cI aR q_hasImage q_place q_rowAt q_rowEnd q_seed q_thrown q_numbers q_element)) hx hb hml hown hts hK hN hA hP hD hS hl (c_MD_isIn l D cI cM cS cJ H.size r15 48 57 rfl) gX12_readsNumber_X12_isIn rfl kdS_X12_isIn [] ⟨rfl, rfl⟩ ⟨Nat.le_of_ble_eq_true rfl, Nat.le_of_ble_eq_true rfl⟩ ⟨Nat.zero_le _, Nat.zero_le _⟩ rfl rfl (by decide +kernel) (k_rp rfl (by decide +kernel)) rfl rfl (Nat.le_of_ble_eq_true rfl) dX12_readsNumber_22 rfl (fun H locs hP hD hS => ?_)
        refine lv_if_ne (tgt := 30) hx hb dX12_readsNumber_25 (by decide) (fun c25 => ?_) (fun c25 => ?_)
        · have h := k_neg c25 h
          refine lv_aload_n hx hb dX12_readsNumber_30 rfl (lv_at hl 0 rfl) ?_
          refine va_get (D := D) (ci := 12) (v := .ref (aR 5)) (C := RX12) (T := TX12) (N := 18) hx hb hts hiX12 hown hK hP 0 rfl rfl 8 (by decide) hf22 (fun _ z => z) rfl dX12_readsNumber_31 ?_
          refine lv_iload_n hx hb dX12_readsNumber_34 rfl (lv_at hl 1 rfl) ?_
          refine lv_bipush (v := 10) hx hb dX12_readsNumber_35 (by decide) ?_
          refine lv_aload_n hx hb dX12_readsNumber_37 rfl (lv_at hl 0 rfl) ?_
          refine va_get (D := D) (ci := 12) (v := .ref (aR 5)) (C := RX12) (T := TX12) (N := 18) hx hb hts hiX12 hown hK hP 0 rfl rfl 8 (by decide) hf22 (fun _ z => z) rfl dX12_readsNumber_38 ?_
          refine lv_iload_n hx hb dX12_readsNumber_41 rfl (lv_at hl 1 rfl) ?_
          obtain ⟨g42, h⟩ := k_guard h
          refine va_iald hx hb hK hP 1 0 rfl rfl g42 dX12_readsNumber_42 ?_
          refine lv_imul hx hb dX12_readsNumber_43 ?_
          refine lv_aload_n hx hb dX12_readsNumber_44 rfl (lv_at hl 0 rfl) ?_
          obtain ⟨r45, g45, h⟩ := k_bind h
          refine k_callV (As := []) (rest := [.int ((10 : Int32) * (q_numbers x1.toNatClampNeg)), .int x1, .ref (aR 5)]) (st1 := [.int r45, .int ((10 : Int32) * (q_numbers x1.toNatClampNeg)), .int x1, .ref (aR 5)]) (ws2 := (Wd43 cI aR q_hasImage q_place q_rowAt q_rowEnd q_seed q_thrown q_numbers q_element)) hx hb hml hown hts hK hN hA hP hD hS hl (c_MD_here l D cI cM cS cJ aR H.size q_hasImage q_place q_rowAt q_rowEnd q_seed q_thrown q_element g45) gX12_readsNumber_X12_here rfl kdV_X12_here 0 12 rfl rfl rfl [0, 2] ⟨rfl, rfl⟩ ⟨Nat.le_of_ble_eq_true rfl, Nat.le_of_ble_eq_true rfl⟩ ⟨Nat.zero_le _, Nat.zero_le _⟩ rfl rfl (by decide +kernel) (k_rp rfl (by decide +kernel)) rfl rfl (Nat.le_of_ble_eq_true rfl) dX12_readsNumber_45 rfl (fun H locs hP hD hS => ?_)
          refine lv_iadd hx hb dX12_readsNumber_48 ?_
          refine lv_bipush (v := 48) hx hb dX12_readsNumber_49 (by decide) ?_
          refine lv_isub hx hb dX12_readsNumber_51 ?_
          refine va_iast hx hb hK hP hD hS 1 0 rfl rfl g42 dX12_readsNumber_52 (fun H locs hP hD hS => ?_)
          replace hP : va_P D vwCl (Wd43 cI aR q_hasImage q_place q_rowAt q_rowEnd q_seed q_thrown (upd q_numbers x1.toNatClampNeg ((((10 : Int32) * (q_numbers x1.toNatClampNeg)) + r45) - 48)) q_element) H := hP
          replace hD : va_D A (Wd43 cI aR q_hasImage q_place q_rowAt q_rowEnd q_seed q_thrown (upd q_numbers x1.toNatClampNeg ((((10 : Int32) * (q_numbers x1.toNatClampNeg)) + r45) - 48)) q_element) := hD
          refine lv_aload_n hx hb dX12_readsNumber_53 rfl (lv_at hl 0 rfl) ?_
          refine lv_dup hx hb dX12_readsNumber_54 rfl ?_
          refine va_get (D := D) (ci := 12) (v := .int q_place) (C := RX12) (T := TX12) (N := 18) hx hb hts hiX12 hown hK hP 0 rfl rfl 5 (by decide) hf112 (fun _ z => z) rfl dX12_readsNumber_55 ?_
          refine lv_iconst (v := 1) hx hb dX12_readsNumber_58 (by decide) ?_
          refine lv_iadd hx hb dX12_readsNumber_59 ?_
          refine va_put (D := D) (ci := 12) (v := .int (q_place + 1)) (ty := .int) (C := RX12) (T := TX12) (N := 18) hx hb hts hiX12 tyX12 tyX12_ok nmX12 hown hK hP hD hS 0 rfl rfl 5 (by decide) hf112 (fun _ z => z) rfl (by decide +kernel) rfl rfl (Nat.le_of_ble_eq_true rfl) dX12_readsNumber_60 (fun H locs hP hD hS => ?_)
          replace hP : va_P D vwCl (Wd43 cI aR q_hasImage (q_place + 1) q_rowAt q_rowEnd q_seed q_thrown (upd q_numbers x1.toNatClampNeg ((((10 : Int32) * (q_numbers x1.toNatClampNeg)) + r45) - 48)) q_element) H := hP
          replace hD : va_D A (Wd43 cI aR q_hasImage (q_place + 1) q_rowAt q_rowEnd q_seed q_thrown (upd q_numbers x1.toNatClampNeg ((((10 : Int32) * (q_numbers x1.toNatClampNeg)) + r45) - 48)) q_element) := hD
          refine lv_iinc (v := (y3 + 1)) (lv' := [(3, .int (y3 + 1)), (0, .ref (aR 0)), (1, .int x1), (2, .int x2)]) hx hb dX12_readsNumber_63 hl (k := 3) rfl (by first | rfl | decide) (by decide) rfl (fun ls hl => ?_)
          refine lv_goto (tgt := 9) hx hb dX12_readsNumber_66 (by decide) ?_
          exact ih9 (y3 + 1) (q_place + 1) (upd q_numbers x1.toNatClampNeg ((((10 : Int32) * (q_numbers x1.toNatClampNeg)) + r45) - 48)) H locs ls hP hD hS (lv_sub hl [1, 2, 3, 0] rfl) h
        · have h := k_pos c25 h
          refine lv_iconst (v := 0) hx hb dX12_readsNumber_28 (by decide) ?_
          have h := Option.some.inj h; subst h
          exact hret _ _ _ _ (k_z01 (fun z => z (Or.inl rfl))) hP hS dX12_readsNumber_29
  refine lv_istore_n (lv' := [(3, .int 0), (0, .ref (aR 0)), (1, .int x1), (2, .int x2)]) hx hb dX12_readsNumber_8 rfl hl (by decide) rfl (fun ls hl => ?_)
  exact B9 lfu 0 q_place (upd q_numbers x1.toNatClampNeg 0) H locs ls hP hD hS (lv_sub hl [1, 2, 3, 0] rfl) h
theorem kdV_X12_readsNumber : yX12_readsNumber.cls = RX12 ∧ yX12_readsNumber.cls ≠ "java/lang/invoke/MethodHandle" ∧ yX12_readsNumber.cls ≠ "java/lang/invoke/VarHandle" ∧ (parseMethodDescriptor yX12_readsNumber.desc).map (fun d => d.parameters.length) = some 2 := by decide +kernel
abbrev rm_X12_readsStatement : Room := { frames := 2, cells := 0, slots := 0, locals := 45 }
set_option maxHeartbeats 4000000 in
set_option maxRecDepth 100000 in
theorem c_MD_readsStatement (l : Launch) (D : va_G) (cI cM cS cJ : ClassId) (aR : Nat → Nat) (sz : Nat) (q_hasImage : Int32) (q_place : Int32) (q_rowAt : Int32) (q_rowEnd : Int32) (q_seed : Int32) (q_thrown : Int32) (q_numbers : Nat → Int32) (q_element : Nat → Int32) {o : (Int32) × (Int32) × (Nat → Int32)} (hsem : S_MD_readsStatement q_place q_rowAt q_rowEnd q_numbers q_element = some o) : kMet l yX12_readsStatement wsX12_readsStatement rm_X12_readsStatement [.ref (aR 0)] D (kT cI cM cS cJ) (Wd43 cI aR q_hasImage q_place q_rowAt q_rowEnd q_seed q_thrown q_numbers q_element) sz (some (.int o.1)) (Wd43 cI aR q_hasImage o.2.1 q_rowAt q_rowEnd q_seed q_thrown o.2.2 q_element) := by
  refine k_metZ (by decide) rfl rfl (Nat.le_of_ble_eq_true rfl) ?_
  intro p e s m below meth c ls Q A hx hb hml hts hown hK hN hA hP hD hS hl hsz hnm hret
  have hown : s.vm.findClass RX12 = some m.cls := hown
  have hf112 := hts (.fieldLink RX12 112 "PlumbLineModel" "place" "I") (List.mem_of_getElem? (i := 1) rfl)
  have hiX12 : ∀ w ∈ u_ws RX12 TX12 18, w ∈ wsX12_readsStatement := fun w h => List.mem_cons_of_mem _ (List.mem_append_right _ h)
  replace hl : lv_has ls 3 [(0, .ref (aR 0))] := hl
  have h := hsem
  clear hsem
  rw [S_MD_readsStatement] at h
  refine lv_aload_n hx hb dX12_readsStatement_0 rfl (lv_at hl 0 rfl) ?_
  obtain ⟨r1, g1, h⟩ := k_bind h
  refine k_callV (As := []) (rest := []) (st1 := [.int r1]) (ws2 := (Wd43 cI aR q_hasImage q_place q_rowAt q_rowEnd q_seed q_thrown q_numbers q_element)) hx hb hml hown hts hK hN hA hP hD hS hl (c_MD_here l D cI cM cS cJ aR s.heap.size q_hasImage q_place q_rowAt q_rowEnd q_seed q_thrown q_element g1) gX12_readsStatement_X12_here rfl kdV_X12_here 0 12 rfl rfl rfl [0, 2] ⟨rfl, rfl⟩ ⟨Nat.le_of_ble_eq_true rfl, Nat.le_of_ble_eq_true rfl⟩ ⟨Nat.zero_le _, Nat.zero_le _⟩ rfl rfl (by decide +kernel) (k_rp rfl (by decide +kernel)) rfl rfl (Nat.le_of_ble_eq_true rfl) dX12_readsStatement_1 rfl (fun H locs hP hD hS => ?_)
  refine lv_istore_n (lv' := [(1, .int r1), (0, .ref (aR 0))]) hx hb dX12_readsStatement_4 rfl hl (by decide) rfl (fun ls hl => ?_)
  refine lv_aload_n hx hb dX12_readsStatement_5 rfl (lv_at hl 1 rfl) ?_
  refine lv_dup hx hb dX12_readsStatement_6 rfl ?_
  refine va_get (D := D) (ci := 12) (v := .int q_place) (C := RX12) (T := TX12) (N := 18) hx hb hts hiX12 hown hK hP 0 rfl rfl 5 (by decide) hf112 (fun _ z => z) rfl dX12_readsStatement_7 ?_
  refine lv_iconst (v := 1) hx hb dX12_readsStatement_10 (by decide) ?_
  refine lv_iadd hx hb dX12_readsStatement_11 ?_
  refine va_put (D := D) (ci := 12) (v := .int (q_place + 1)) (ty := .int) (C := RX12) (T := TX12) (N := 18) hx hb hts hiX12 tyX12 tyX12_ok nmX12 hown hK hP hD hS 0 rfl rfl 5 (by decide) hf112 (fun _ z => z) rfl (by decide +kernel) rfl rfl (Nat.le_of_ble_eq_true rfl) dX12_readsStatement_12 (fun H locs hP hD hS => ?_)
  replace hP : va_P D vwCl (Wd43 cI aR q_hasImage (q_place + 1) q_rowAt q_rowEnd q_seed q_thrown q_numbers q_element) H := hP
  replace hD : va_D A (Wd43 cI aR q_hasImage (q_place + 1) q_rowAt q_rowEnd q_seed q_thrown q_numbers q_element) := hD
  refine lv_iload_n hx hb dX12_readsStatement_15 rfl (lv_at hl 0 rfl) ?_
  have B190 : ∀ (y2 : Int32) (q_place : Int32) (q_numbers : Nat → Int32) (H : Heap) (locs : List Loc) (ls : Array Slot), va_P D vwCl (Wd43 cI aR q_hasImage q_place q_rowAt q_rowEnd q_seed q_thrown q_numbers q_element) H → va_D A (Wd43 cI aR q_hasImage q_place q_rowAt q_rowEnd q_seed q_thrown q_numbers q_element) → va_S A s.heap H locs → lv_has ls 3 [(0, .ref (aR 0)), (2, .int y2)] → S_MD_readsStatement_J190 y2 q_rowAt q_rowEnd q_element q_place q_numbers = some o → W p l e rm_X12_readsStatement s m ([.ref (aR 0)] : List Value).toArray below meth c H locs 0 0 Q (F0 m 190 ls []) := by
    intro y2 q_place q_numbers H locs ls hP hD hS hl h
    rw [S_MD_readsStatement_J190] at h
    refine lv_iload_n hx hb dX12_readsStatement_190 rfl (lv_at hl 1 rfl) ?_
    refine lv_if_eq (tgt := 203) hx hb dX12_readsStatement_191 (by decide) (fun c191 => ?_) (fun c191 => ?_)
    · have h := k_pos c191 h
      refine lv_iconst (v := 0) hx hb dX12_readsStatement_203 (by decide) ?_
      have h := Option.some.inj h; subst h
      exact hret _ _ _ _ (k_z01 (fun z => z (Or.inl rfl))) hP hS dX12_readsStatement_204
    · have h := k_neg c191 h
      refine lv_aload_n hx hb dX12_readsStatement_194 rfl (lv_at hl 0 rfl) ?_
      obtain ⟨r195, g195, h⟩ := k_bind h
      refine k_callV (As := []) (rest := []) (st1 := [.int r195]) (ws2 := (Wd43 cI aR q_hasImage q_place q_rowAt q_rowEnd q_seed q_thrown q_numbers q_element)) hx hb hml hown hts hK hN hA hP hD hS hl (c_MD_here l D cI cM cS cJ aR H.size q_hasImage q_place q_rowAt q_rowEnd q_seed q_thrown q_element g195) gX12_readsStatement_X12_here rfl kdV_X12_here 0 12 rfl rfl rfl [0, 2] ⟨rfl, rfl⟩ ⟨Nat.le_of_ble_eq_true rfl, Nat.le_of_ble_eq_true rfl⟩ ⟨Nat.zero_le _, Nat.zero_le _⟩ rfl rfl (by decide +kernel) (k_rp rfl (by decide +kernel)) rfl rfl (Nat.le_of_ble_eq_true rfl) dX12_readsStatement_195 rfl (fun H locs hP hD hS => ?_)
      refine lv_bipush (v := 59) hx hb dX12_readsStatement_198 (by decide) ?_
      refine lv_icmp_eq (tgt := 205) hx hb dX12_readsStatement_200 (by decide) (fun c200 => ?_) (fun c200 => ?_)
      · have h := k_pos c200 h
        refine lv_aload_n hx hb dX12_readsStatement_205 rfl (lv_at hl 0 rfl) ?_
        refine lv_dup hx hb dX12_readsStatement_206 rfl ?_
        refine va_get (D := D) (ci := 12) (v := .int q_place) (C := RX12) (T := TX12) (N := 18) hx hb hts hiX12 hown hK hP 0 rfl rfl 5 (by decide) hf112 (fun _ z => z) rfl dX12_readsStatement_207 ?_
        refine lv_iconst (v := 1) hx hb dX12_readsStatement_210 (by decide) ?_
        refine lv_iadd hx hb dX12_readsStatement_211 ?_
        refine va_put (D := D) (ci := 12) (v := .int (q_place + 1)) (ty := .int) (C := RX12) (T := TX12) (N := 18) hx hb hts hiX12 tyX12 tyX12_ok nmX12 hown hK hP hD hS 0 rfl rfl 5 (by decide) hf112 (fun _ z => z) rfl (by decide +kernel) rfl rfl (Nat.le_of_ble_eq_true rfl) dX12_readsStatement_212 (fun H locs hP hD hS => ?_)
        replace hP : va_P D vwCl (Wd43 cI aR q_hasImage (q_place + 1) q_rowAt q_rowEnd q_seed q_thrown q_numbers q_element) H := hP
        replace hD : va_D A (Wd43 cI aR q_hasImage (q_place + 1) q_rowAt q_rowEnd q_seed q_thrown q_numbers q_element) := hD
        refine lv_iconst (v := 1) hx hb dX12_readsStatement_215 (by decide) ?_
        have h := Option.some.inj h; subst h
        exact hret _ _ _ _ (k_z01 (fun z => z (Or.inr rfl))) hP hS dX12_readsStatement_216
      · have h := k_neg c200 h
        refine lv_iconst (v := 0) hx hb dX12_readsStatement_203 (by decide) ?_
        have h := Option.some.inj h; subst h
        exact hret _ _ _ _ (k_z01 (fun z => z (Or.inl rfl))) hP hS dX12_readsStatement_204
  by_cases s16_100 : r1 = 100
  · refine k_lkI (tgt := 168) (v := 100) hx hb dX12_readsStatement_16 s16_100 rfl rfl (by decide) ?_
    have h := k_pos s16_100 h
    refine lv_aload_n hx hb dX12_readsStatement_168 rfl (lv_at hl 1 rfl) ?_
    refine lv_iconst (v := 0) hx hb dX12_readsStatement_169 (by decide) ?_
    refine lv_iconst (v := 2) hx hb dX12_readsStatement_170 (by decide) ?_
    obtain ⟨r171, g171, h⟩ := k_bind h
    refine k_callV (As := [.int 0, .int 2]) (rest := []) (st1 := [.int r171.1]) (ws2 := (Wd43 cI aR q_hasImage r171.2.1 q_rowAt q_rowEnd q_seed q_thrown r171.2.2 q_element)) hx hb hml hown hts hK hN hA hP hD hS hl (c_MD_readsNumber l D cI cM cS cJ aR H.size 0 2 q_hasImage (q_place + 1) q_rowAt q_rowEnd q_seed q_thrown q_numbers q_element g171) gX12_readsStatement_X12_readsNumber rfl kdV_X12_readsNumber 0 12 rfl rfl rfl [0, 1, 2] ⟨rfl, rfl⟩ ⟨Nat.le_of_ble_eq_true rfl, Nat.le_of_ble_eq_true rfl⟩ ⟨Nat.zero_le _, Nat.zero_le _⟩ rfl rfl (by decide +kernel) (k_rp rfl (by decide +kernel)) rfl rfl (Nat.le_of_ble_eq_true rfl) dX12_readsStatement_171 rfl (fun H locs hP hD hS => ?_)
    refine lv_istore_n (lv' := [(2, .int r171.1), (1, .int r1), (0, .ref (aR 0))]) hx hb dX12_readsStatement_174 rfl hl (by decide) rfl (fun ls hl => ?_)
    refine lv_goto (tgt := 190) hx hb dX12_readsStatement_175 (by decide) ?_
    exact B190 r171.1 r171.2.1 r171.2.2 H locs ls hP hD hS (lv_sub hl [2, 0] rfl) h
  · have h := k_neg s16_100 h
    by_cases s16_108 : r1 = 108
    · refine k_lkI (tgt := 104) (v := 108) hx hb dX12_readsStatement_16 s16_108 rfl rfl (by decide) ?_
      have h := k_pos s16_108 h
      refine lv_aload_n hx hb dX12_readsStatement_104 rfl (lv_at hl 1 rfl) ?_
      refine lv_iconst (v := 0) hx hb dX12_readsStatement_105 (by decide) ?_
      refine lv_iconst (v := 1) hx hb dX12_readsStatement_106 (by decide) ?_
      obtain ⟨r107, g107, h⟩ := k_bind h
      refine k_callV (As := [.int 0, .int 1]) (rest := []) (st1 := [.int r107.1]) (ws2 := (Wd43 cI aR q_hasImage r107.2.1 q_rowAt q_rowEnd q_seed q_thrown r107.2.2 q_element)) hx hb hml hown hts hK hN hA hP hD hS hl (c_MD_readsNumber l D cI cM cS cJ aR H.size 0 1 q_hasImage (q_place + 1) q_rowAt q_rowEnd q_seed q_thrown q_numbers q_element g107) gX12_readsStatement_X12_readsNumber rfl kdV_X12_readsNumber 0 12 rfl rfl rfl [0, 1, 2] ⟨rfl, rfl⟩ ⟨Nat.le_of_ble_eq_true rfl, Nat.le_of_ble_eq_true rfl⟩ ⟨Nat.zero_le _, Nat.zero_le _⟩ rfl rfl (by decide +kernel) (k_rp rfl (by decide +kernel)) rfl rfl (Nat.le_of_ble_eq_true rfl) dX12_readsStatement_107 rfl (fun H locs hP hD hS => ?_)
      have B127 : ∀ (v0 : Int32) (q_place : Int32) (q_numbers : Nat → Int32) (H : Heap) (locs : List Loc) (ls : Array Slot), va_P D vwCl (Wd43 cI aR q_hasImage q_place q_rowAt q_rowEnd q_seed q_thrown q_numbers q_element) H → va_D A (Wd43 cI aR q_hasImage q_place q_rowAt q_rowEnd q_seed q_thrown q_numbers q_element) → va_S A s.heap H locs → lv_has ls 3 [(0, .ref (aR 0))] → S_MD_readsStatement_J127 v0 q_rowAt q_rowEnd q_element q_place q_numbers = some o → W p l e rm_X12_readsStatement s m ([.ref (aR 0)] : List Value).toArray below meth c H locs 0 0 Q (F0 m 127 ls [.int v0]) := by
        intro v0 q_place q_numbers H locs ls hP hD hS hl h
        rw [S_MD_readsStatement_J127] at h
        refine lv_istore_n (lv' := [(2, .int v0), (0, .ref (aR 0))]) hx hb dX12_readsStatement_127 rfl hl (by decide) rfl (fun ls hl => ?_)
        refine lv_goto (tgt := 190) hx hb dX12_readsStatement_128 (by decide) ?_
        exact B190 v0 q_place q_numbers H locs ls hP hD hS (lv_sub hl [1, 0] rfl) h
      have B126 : ∀ (q_place : Int32) (q_numbers : Nat → Int32) (H : Heap) (locs : List Loc) (ls : Array Slot), va_P D vwCl (Wd43 cI aR q_hasImage q_place q_rowAt q_rowEnd q_seed q_thrown q_numbers q_element) H → va_D A (Wd43 cI aR q_hasImage q_place q_rowAt q_rowEnd q_seed q_thrown q_numbers q_element) → va_S A s.heap H locs → lv_has ls 3 [(0, .ref (aR 0))] → S_MD_readsStatement_J126 q_rowAt q_rowEnd q_element q_place q_numbers = some o → W p l e rm_X12_readsStatement s m ([.ref (aR 0)] : List Value).toArray below meth c H locs 0 0 Q (F0 m 126 ls []) := by
        intro q_place q_numbers H locs ls hP hD hS hl h
        rw [S_MD_readsStatement_J126] at h
        refine lv_iconst (v := 0) hx hb dX12_readsStatement_126 (by decide) ?_
        exact B127 0 q_place q_numbers H locs ls hP hD hS hl h
      refine lv_if_eq (tgt := 126) hx hb dX12_readsStatement_110 (by decide) (fun c110 => ?_) (fun c110 => ?_)
      · have h := k_pos c110 h
        exact B126 r107.2.1 r107.2.2 H locs ls hP hD hS (lv_sub hl [1] rfl) h
      · have h := k_neg c110 h
        refine lv_aload_n hx hb dX12_readsStatement_113 rfl (lv_at hl 1 rfl) ?_
        refine lv_iconst (v := 1) hx hb dX12_readsStatement_114 (by decide) ?_
        refine lv_iconst (v := 2) hx hb dX12_readsStatement_115 (by decide) ?_
        obtain ⟨r116, g116, h⟩ := k_bind h
        refine k_callV (As := [.int 1, .int 2]) (rest := []) (st1 := [.int r116.1]) (ws2 := (Wd43 cI aR q_hasImage r116.2.1 q_rowAt q_rowEnd q_seed q_thrown r116.2.2 q_element)) hx hb hml hown hts hK hN hA hP hD hS hl (c_MD_readsNumber l D cI cM cS cJ aR H.size 1 2 q_hasImage r107.2.1 q_rowAt q_rowEnd q_seed q_thrown r107.2.2 q_element g116) gX12_readsStatement_X12_readsNumber rfl kdV_X12_readsNumber 0 12 rfl rfl rfl [0, 1, 2] ⟨rfl, rfl⟩ ⟨Nat.le_of_ble_eq_true rfl, Nat.le_of_ble_eq_true rfl⟩ ⟨Nat.zero_le _, Nat.zero_le _⟩ rfl rfl (by decide +kernel) (k_rp rfl (by decide +kernel)) rfl rfl (Nat.le_of_ble_eq_true rfl) dX12_readsStatement_116 rfl (fun H locs hP hD hS => ?_)
        refine lv_if_eq (tgt := 126) hx hb dX12_readsStatement_119 (by decide) (fun c119 => ?_) (fun c119 => ?_)
        · have h := k_pos c119 h
          exact B126 r116.2.1 r116.2.2 H locs ls hP hD hS (lv_sub hl [1] rfl) h
        · have h := k_neg c119 h
          refine lv_iconst (v := 1) hx hb dX12_readsStatement_122 (by decide) ?_
          refine lv_goto (tgt := 127) hx hb dX12_readsStatement_123 (by decide) ?_
          exact B127 1 r116.2.1 r116.2.2 H locs ls hP hD hS (lv_sub hl [1] rfl) h
    · have h := k_neg s16_108 h
      by_cases s16_109 : r1 = 109
      · refine k_lkI (tgt := 68) (v := 109) hx hb dX12_readsStatement_16 s16_109 rfl rfl (by decide) ?_
        have h := k_pos s16_109 h
        refine lv_aload_n hx hb dX12_readsStatement_68 rfl (lv_at hl 1 rfl) ?_
        refine lv_iconst (v := 0) hx hb dX12_readsStatement_69 (by decide) ?_
        refine lv_iconst (v := 1) hx hb dX12_readsStatement_70 (by decide) ?_
        obtain ⟨r71, g71, h⟩ := k_bind h
        refine k_callV (As := [.int 0, .int 1]) (rest := []) (st1 := [.int r71.1]) (ws2 := (Wd43 cI aR q_hasImage r71.2.1 q_rowAt q_rowEnd q_seed q_thrown r71.2.2 q_element)) hx hb hml hown hts hK hN hA hP hD hS hl (c_MD_readsNumber l D cI cM cS cJ aR H.size 0 1 q_hasImage (q_place + 1) q_rowAt q_rowEnd q_seed q_thrown q_numbers q_element g71) gX12_readsStatement_X12_readsNumber rfl kdV_X12_readsNumber 0 12 rfl rfl rfl [0, 1, 2] ⟨rfl, rfl⟩ ⟨Nat.le_of_ble_eq_true rfl, Nat.le_of_ble_eq_true rfl⟩ ⟨Nat.zero_le _, Nat.zero_le _⟩ rfl rfl (by decide +kernel) (k_rp rfl (by decide +kernel)) rfl rfl (Nat.le_of_ble_eq_true rfl) dX12_readsStatement_71 rfl (fun H locs hP hD hS => ?_)
        have B100 : ∀ (v0 : Int32) (q_place : Int32) (q_numbers : Nat → Int32) (H : Heap) (locs : List Loc) (ls : Array Slot), va_P D vwCl (Wd43 cI aR q_hasImage q_place q_rowAt q_rowEnd q_seed q_thrown q_numbers q_element) H → va_D A (Wd43 cI aR q_hasImage q_place q_rowAt q_rowEnd q_seed q_thrown q_numbers q_element) → va_S A s.heap H locs → lv_has ls 3 [(0, .ref (aR 0))] → S_MD_readsStatement_J100 v0 q_rowAt q_rowEnd q_element q_place q_numbers = some o → W p l e rm_X12_readsStatement s m ([.ref (aR 0)] : List Value).toArray below meth c H locs 0 0 Q (F0 m 100 ls [.int v0]) := by
          intro v0 q_place q_numbers H locs ls hP hD hS hl h
          rw [S_MD_readsStatement_J100] at h
          refine lv_istore_n (lv' := [(2, .int v0), (0, .ref (aR 0))]) hx hb dX12_readsStatement_100 rfl hl (by decide) rfl (fun ls hl => ?_)
          refine lv_goto (tgt := 190) hx hb dX12_readsStatement_101 (by decide) ?_
          exact B190 v0 q_place q_numbers H locs ls hP hD hS (lv_sub hl [1, 0] rfl) h
        have B99 : ∀ (q_place : Int32) (q_numbers : Nat → Int32) (H : Heap) (locs : List Loc) (ls : Array Slot), va_P D vwCl (Wd43 cI aR q_hasImage q_place q_rowAt q_rowEnd q_seed q_thrown q_numbers q_element) H → va_D A (Wd43 cI aR q_hasImage q_place q_rowAt q_rowEnd q_seed q_thrown q_numbers q_element) → va_S A s.heap H locs → lv_has ls 3 [(0, .ref (aR 0))] → S_MD_readsStatement_J99 q_rowAt q_rowEnd q_element q_place q_numbers = some o → W p l e rm_X12_readsStatement s m ([.ref (aR 0)] : List Value).toArray below meth c H locs 0 0 Q (F0 m 99 ls []) := by
          intro q_place q_numbers H locs ls hP hD hS hl h
          rw [S_MD_readsStatement_J99] at h
          refine lv_iconst (v := 0) hx hb dX12_readsStatement_99 (by decide) ?_
          exact B100 0 q_place q_numbers H locs ls hP hD hS hl h
        refine lv_if_eq (tgt := 99) hx hb dX12_readsStatement_74 (by decide) (fun c74 => ?_) (fun c74 => ?_)
        · have h := k_pos c74 h
          exact B99 r71.2.1 r71.2.2 H locs ls hP hD hS (lv_sub hl [1] rfl) h
        · have h := k_neg c74 h
          refine lv_aload_n hx hb dX12_readsStatement_77 rfl (lv_at hl 1 rfl) ?_
          refine lv_iconst (v := 1) hx hb dX12_readsStatement_78 (by decide) ?_
          refine lv_iconst (v := 1) hx hb dX12_readsStatement_79 (by decide) ?_
          obtain ⟨r80, g80, h⟩ := k_bind h
          refine k_callV (As := [.int 1, .int 1]) (rest := []) (st1 := [.int r80.1]) (ws2 := (Wd43 cI aR q_hasImage r80.2.1 q_rowAt q_rowEnd q_seed q_thrown r80.2.2 q_element)) hx hb hml hown hts hK hN hA hP hD hS hl (c_MD_readsNumber l D cI cM cS cJ aR H.size 1 1 q_hasImage r71.2.1 q_rowAt q_rowEnd q_seed q_thrown r71.2.2 q_element g80) gX12_readsStatement_X12_readsNumber rfl kdV_X12_readsNumber 0 12 rfl rfl rfl [0, 1, 2] ⟨rfl, rfl⟩ ⟨Nat.le_of_ble_eq_true rfl, Nat.le_of_ble_eq_true rfl⟩ ⟨Nat.zero_le _, Nat.zero_le _⟩ rfl rfl (by decide +kernel) (k_rp rfl (by decide +kernel)) rfl rfl (Nat.le_of_ble_eq_true rfl) dX12_readsStatement_80 rfl (fun H locs hP hD hS => ?_)
          refine lv_if_eq (tgt := 99) hx hb dX12_readsStatement_83 (by decide) (fun c83 => ?_) (fun c83 => ?_)
          · have h := k_pos c83 h
            exact B99 r80.2.1 r80.2.2 H locs ls hP hD hS (lv_sub hl [1] rfl) h
          · have h := k_neg c83 h
            refine lv_aload_n hx hb dX12_readsStatement_86 rfl (lv_at hl 1 rfl) ?_
            refine lv_iconst (v := 2) hx hb dX12_readsStatement_87 (by decide) ?_
            refine lv_iconst (v := 2) hx hb dX12_readsStatement_88 (by decide) ?_
            obtain ⟨r89, g89, h⟩ := k_bind h
            refine k_callV (As := [.int 2, .int 2]) (rest := []) (st1 := [.int r89.1]) (ws2 := (Wd43 cI aR q_hasImage r89.2.1 q_rowAt q_rowEnd q_seed q_thrown r89.2.2 q_element)) hx hb hml hown hts hK hN hA hP hD hS hl (c_MD_readsNumber l D cI cM cS cJ aR H.size 2 2 q_hasImage r80.2.1 q_rowAt q_rowEnd q_seed q_thrown r80.2.2 q_element g89) gX12_readsStatement_X12_readsNumber rfl kdV_X12_readsNumber 0 12 rfl rfl rfl [0, 1, 2] ⟨rfl, rfl⟩ ⟨Nat.le_of_ble_eq_true rfl, Nat.le_of_ble_eq_true rfl⟩ ⟨Nat.zero_le _, Nat.zero_le _⟩ rfl rfl (by decide +kernel) (k_rp rfl (by decide +kernel)) rfl rfl (Nat.le_of_ble_eq_true rfl) dX12_readsStatement_89 rfl (fun H locs hP hD hS => ?_)
            refine lv_if_eq (tgt := 99) hx hb dX12_readsStatement_92 (by decide) (fun c92 => ?_) (fun c92 => ?_)
            · have h := k_pos c92 h
              exact B99 r89.2.1 r89.2.2 H locs ls hP hD hS (lv_sub hl [1] rfl) h
            · have h := k_neg c92 h
              refine lv_iconst (v := 1) hx hb dX12_readsStatement_95 (by decide) ?_
              refine lv_goto (tgt := 100) hx hb dX12_readsStatement_96 (by decide) ?_
              exact B100 1 r89.2.1 r89.2.2 H locs ls hP hD hS (lv_sub hl [1] rfl) h
      · have h := k_neg s16_109 h
        by_cases s16_114 : r1 = 114
        · refine k_lkI (tgt := 131) (v := 114) hx hb dX12_readsStatement_16 s16_114 rfl rfl (by decide) ?_
          have h := k_pos s16_114 h
          refine lv_aload_n hx hb dX12_readsStatement_131 rfl (lv_at hl 1 rfl) ?_
          refine lv_iconst (v := 0) hx hb dX12_readsStatement_132 (by decide) ?_
          refine lv_iconst (v := 1) hx hb dX12_readsStatement_133 (by decide) ?_
          obtain ⟨r134, g134, h⟩ := k_bind h
          refine k_callV (As := [.int 0, .int 1]) (rest := []) (st1 := [.int r134.1]) (ws2 := (Wd43 cI aR q_hasImage r134.2.1 q_rowAt q_rowEnd q_seed q_thrown r134.2.2 q_element)) hx hb hml hown hts hK hN hA hP hD hS hl (c_MD_readsNumber l D cI cM cS cJ aR H.size 0 1 q_hasImage (q_place + 1) q_rowAt q_rowEnd q_seed q_thrown q_numbers q_element g134) gX12_readsStatement_X12_readsNumber rfl kdV_X12_readsNumber 0 12 rfl rfl rfl [0, 1, 2] ⟨rfl, rfl⟩ ⟨Nat.le_of_ble_eq_true rfl, Nat.le_of_ble_eq_true rfl⟩ ⟨Nat.zero_le _, Nat.zero_le _⟩ rfl rfl (by decide +kernel) (k_rp rfl (by decide +kernel)) rfl rfl (Nat.le_of_ble_eq_true rfl) dX12_readsStatement_134 rfl (fun H locs hP hD hS => ?_)
          refine lv_istore_n (lv' := [(2, .int r134.1), (1, .int r1), (0, .ref (aR 0))]) hx hb dX12_readsStatement_137 rfl hl (by decide) rfl (fun ls hl => ?_)
          refine lv_goto (tgt := 190) hx hb dX12_readsStatement_138 (by decide) ?_
          exact B190 r134.1 r134.2.1 r134.2.2 H locs ls hP hD hS (lv_sub hl [2, 0] rfl) h
        · have h := k_neg s16_114 h
          by_cases s16_119 : r1 = 119
          · refine k_lkI (tgt := 141) (v := 119) hx hb dX12_readsStatement_16 s16_119 rfl rfl (by decide) ?_
            have h := k_pos s16_119 h
            refine lv_aload_n hx hb dX12_readsStatement_141 rfl (lv_at hl 1 rfl) ?_
            refine lv_iconst (v := 0) hx hb dX12_readsStatement_142 (by decide) ?_
            refine lv_iconst (v := 1) hx hb dX12_readsStatement_143 (by decide) ?_
            obtain ⟨r144, g144, h⟩ := k_bind h
            refine k_callV (As := [.int 0, .int 1]) (rest := []) (st1 := [.int r144.1]) (ws2 := (Wd43 cI aR q_hasImage r144.2.1 q_rowAt q_rowEnd q_seed q_thrown r144.2.2 q_element)) hx hb hml hown hts hK hN hA hP hD hS hl (c_MD_readsNumber l D cI cM cS cJ aR H.size 0 1 q_hasImage (q_place + 1) q_rowAt q_rowEnd q_seed q_thrown q_numbers q_element g144) gX12_readsStatement_X12_readsNumber rfl kdV_X12_readsNumber 0 12 rfl rfl rfl [0, 1, 2] ⟨rfl, rfl⟩ ⟨Nat.le_of_ble_eq_true rfl, Nat.le_of_ble_eq_true rfl⟩ ⟨Nat.zero_le _, Nat.zero_le _⟩ rfl rfl (by decide +kernel) (k_rp rfl (by decide +kernel)) rfl rfl (Nat.le_of_ble_eq_true rfl) dX12_readsStatement_144 rfl (fun H locs hP hD hS => ?_)
            have B164 : ∀ (v0 : Int32) (q_place : Int32) (q_numbers : Nat → Int32) (H : Heap) (locs : List Loc) (ls : Array Slot), va_P D vwCl (Wd43 cI aR q_hasImage q_place q_rowAt q_rowEnd q_seed q_thrown q_numbers q_element) H → va_D A (Wd43 cI aR q_hasImage q_place q_rowAt q_rowEnd q_seed q_thrown q_numbers q_element) → va_S A s.heap H locs → lv_has ls 3 [(0, .ref (aR 0))] → S_MD_readsStatement_J164 v0 q_rowAt q_rowEnd q_element q_place q_numbers = some o → W p l e rm_X12_readsStatement s m ([.ref (aR 0)] : List Value).toArray below meth c H locs 0 0 Q (F0 m 164 ls [.int v0]) := by
              intro v0 q_place q_numbers H locs ls hP hD hS hl h
              rw [S_MD_readsStatement_J164] at h
              refine lv_istore_n (lv' := [(2, .int v0), (0, .ref (aR 0))]) hx hb dX12_readsStatement_164 rfl hl (by decide) rfl (fun ls hl => ?_)
              refine lv_goto (tgt := 190) hx hb dX12_readsStatement_165 (by decide) ?_
              exact B190 v0 q_place q_numbers H locs ls hP hD hS (lv_sub hl [1, 0] rfl) h
            have B163 : ∀ (q_place : Int32) (q_numbers : Nat → Int32) (H : Heap) (locs : List Loc) (ls : Array Slot), va_P D vwCl (Wd43 cI aR q_hasImage q_place q_rowAt q_rowEnd q_seed q_thrown q_numbers q_element) H → va_D A (Wd43 cI aR q_hasImage q_place q_rowAt q_rowEnd q_seed q_thrown q_numbers q_element) → va_S A s.heap H locs → lv_has ls 3 [(0, .ref (aR 0))] → S_MD_readsStatement_J163 q_rowAt q_rowEnd q_element q_place q_numbers = some o → W p l e rm_X12_readsStatement s m ([.ref (aR 0)] : List Value).toArray below meth c H locs 0 0 Q (F0 m 163 ls []) := by
              intro q_place q_numbers H locs ls hP hD hS hl h
              rw [S_MD_readsStatement_J163] at h
              refine lv_iconst (v := 0) hx hb dX12_readsStatement_163 (by decide) ?_
              exact B164 0 q_place q_numbers H locs ls hP hD hS hl h
            refine lv_if_eq (tgt := 163) hx hb dX12_readsStatement_147 (by decide) (fun c147 => ?_) (fun c147 => ?_)
            · have h := k_pos c147 h
              exact B163 r144.2.1 r144.2.2 H locs ls hP hD hS (lv_sub hl [1] rfl) h
            · have h := k_neg c147 h
              refine lv_aload_n hx hb dX12_readsStatement_150 rfl (lv_at hl 1 rfl) ?_
              refine lv_iconst (v := 1) hx hb dX12_readsStatement_151 (by decide) ?_
              refine lv_iconst (v := 1) hx hb dX12_readsStatement_152 (by decide) ?_
              obtain ⟨r153, g153, h⟩ := k_bind h
              refine k_callV (As := [.int 1, .int 1]) (rest := []) (st1 := [.int r153.1]) (ws2 := (Wd43 cI aR q_hasImage r153.2.1 q_rowAt q_rowEnd q_seed q_thrown r153.2.2 q_element)) hx hb hml hown hts hK hN hA hP hD hS hl (c_MD_readsNumber l D cI cM cS cJ aR H.size 1 1 q_hasImage r144.2.1 q_rowAt q_rowEnd q_seed q_thrown r144.2.2 q_element g153) gX12_readsStatement_X12_readsNumber rfl kdV_X12_readsNumber 0 12 rfl rfl rfl [0, 1, 2] ⟨rfl, rfl⟩ ⟨Nat.le_of_ble_eq_true rfl, Nat.le_of_ble_eq_true rfl⟩ ⟨Nat.zero_le _, Nat.zero_le _⟩ rfl rfl (by decide +kernel) (k_rp rfl (by decide +kernel)) rfl rfl (Nat.le_of_ble_eq_true rfl) dX12_readsStatement_153 rfl (fun H locs hP hD hS => ?_)
              refine lv_if_eq (tgt := 163) hx hb dX12_readsStatement_156 (by decide) (fun c156 => ?_) (fun c156 => ?_)
              · have h := k_pos c156 h
                exact B163 r153.2.1 r153.2.2 H locs ls hP hD hS (lv_sub hl [1] rfl) h
              · have h := k_neg c156 h
                refine lv_iconst (v := 1) hx hb dX12_readsStatement_159 (by decide) ?_
                refine lv_goto (tgt := 164) hx hb dX12_readsStatement_160 (by decide) ?_
                exact B164 1 r153.2.1 r153.2.2 H locs ls hP hD hS (lv_sub hl [1] rfl) h
          · have h := k_neg s16_119 h
            refine lv_lookup (tgt := 178) hx hb dX12_readsStatement_16 rfl (k_lkN _ _ _ (List.forall_mem_cons.mpr ⟨k_ne s16_100 rfl, (List.forall_mem_cons.mpr ⟨k_ne s16_108 rfl, (List.forall_mem_cons.mpr ⟨k_ne s16_109 rfl, (List.forall_mem_cons.mpr ⟨k_ne s16_114 rfl, (List.forall_mem_cons.mpr ⟨k_ne s16_119 rfl, (fun _ z => absurd z List.not_mem_nil)⟩)⟩)⟩)⟩)⟩)) (by decide) ?_
            refine lv_aload_n hx hb dX12_readsStatement_178 rfl (lv_at hl 1 rfl) ?_
            refine lv_dup hx hb dX12_readsStatement_179 rfl ?_
            refine va_get (D := D) (ci := 12) (v := .int (q_place + 1)) (C := RX12) (T := TX12) (N := 18) hx hb hts hiX12 hown hK hP 0 rfl rfl 5 (by decide) hf112 (fun _ z => z) rfl dX12_readsStatement_180 ?_
            refine lv_iconst (v := 1) hx hb dX12_readsStatement_183 (by decide) ?_
            refine lv_isub hx hb dX12_readsStatement_184 ?_
            refine va_put (D := D) (ci := 12) (v := .int ((q_place + 1) - 1)) (ty := .int) (C := RX12) (T := TX12) (N := 18) hx hb hts hiX12 tyX12 tyX12_ok nmX12 hown hK hP hD hS 0 rfl rfl 5 (by decide) hf112 (fun _ z => z) rfl (by decide +kernel) rfl rfl (Nat.le_of_ble_eq_true rfl) dX12_readsStatement_185 (fun H locs hP hD hS => ?_)
            replace hP : va_P D vwCl (Wd43 cI aR q_hasImage ((q_place + 1) - 1) q_rowAt q_rowEnd q_seed q_thrown q_numbers q_element) H := hP
            replace hD : va_D A (Wd43 cI aR q_hasImage ((q_place + 1) - 1) q_rowAt q_rowEnd q_seed q_thrown q_numbers q_element) := hD
            refine lv_iconst (v := 0) hx hb dX12_readsStatement_188 (by decide) ?_
            have h := Option.some.inj h; subst h
            exact hret _ _ _ _ (k_z01 (fun z => z (Or.inl rfl))) hP hS dX12_readsStatement_189
abbrev rm_X12_adds : Room := { frames := 1, cells := 0, slots := 0, locals := 21 }
set_option maxHeartbeats 4000000 in
set_option maxRecDepth 100000 in
theorem c_MD_adds (l : Launch) (D : va_G) (cI cM cS cJ : ClassId) (aR : Nat → Nat) (sz : Nat) (x1 : Int32) (x2 : Int32) (x3 : Int32) (q_hasImage : Int32) (q_place : Int32) (q_rowAt : Int32) (q_rowEnd : Int32) (q_seed : Int32) (q_thrown : Int32) (q_s : Nat → Int32) {o : (Nat → Int32)} (hsem : S_MD_adds x1 x2 x3 q_s = some o) : kMet l yX12_adds wsX12_adds rm_X12_adds [.ref (aR 0), .int x1, .int x2, .int x3] D (kT cI cM cS cJ) (Wd40 cI aR q_hasImage q_place q_rowAt q_rowEnd q_seed q_thrown q_s) sz none (Wd40 cI aR q_hasImage q_place q_rowAt q_rowEnd q_seed q_thrown o) := by
  refine k_metV (by decide) rfl rfl (Nat.le_of_ble_eq_true rfl) ?_
  intro p e s m below meth c ls Q A hx hb hml hts hown hK hN hA hP hD hS hl hsz hnm hret
  have hown : s.vm.findClass RX12 = some m.cls := hown
  have hf9 := hts (.fieldLink RX12 9 "PlumbLineModel" "s" "[I") (List.mem_of_getElem? (i := 1) rfl)
  have hiX12 : ∀ w ∈ u_ws RX12 TX12 18, w ∈ wsX12_adds := fun w h => List.mem_cons_of_mem _ (List.mem_append_right _ h)
  replace hl : lv_has ls 5 [(0, .ref (aR 0)), (1, .int x1), (2, .int x2), (3, .int x3)] := hl
  have h := hsem
  clear hsem
  rw [S_MD_adds] at h
  refine lv_aload_n hx hb dX12_adds_0 rfl (lv_at hl 0 rfl) ?_
  refine va_get (D := D) (ci := 12) (v := .ref (aR 1)) (C := RX12) (T := TX12) (N := 18) hx hb hts hiX12 hown hK hP 0 rfl rfl 0 (by decide) hf9 (fun _ z => z) rfl dX12_adds_1 ?_
  refine lv_iconst (v := 0) hx hb dX12_adds_4 (by decide) ?_
  refine va_iald hx hb hK hP 1 0 rfl rfl (show ¬ ((0 : Int32) < 0 ∨ 37 ≤ (0 : Int32).toNatClampNeg) by decide) dX12_adds_5 ?_
  refine lv_istore (lv' := [(4, .int (q_s (0 : Int32).toNatClampNeg)), (0, .ref (aR 0)), (1, .int x1), (2, .int x2), (3, .int x3)]) hx hb dX12_adds_6 hl (by decide) rfl (fun ls hl => ?_)
  refine lv_aload_n hx hb dX12_adds_8 rfl (lv_at hl 1 rfl) ?_
  refine va_get (D := D) (ci := 12) (v := .ref (aR 1)) (C := RX12) (T := TX12) (N := 18) hx hb hts hiX12 hown hK hP 0 rfl rfl 0 (by decide) hf9 (fun _ z => z) rfl dX12_adds_9 ?_
  refine lv_iload hx hb dX12_adds_12 (lv_at hl 0 rfl) ?_
  refine lv_iconst (v := 0) hx hb dX12_adds_14 (by decide) ?_
  refine k_callS (As := [.int (q_s (0 : Int32).toNatClampNeg), .int 0]) (rest := [.ref (aR 1)]) (st1 := [.int (S_MD_of (q_s (0 : Int32).toNatClampNeg) 0), .ref (aR 1)]) (ws2 := (Wd40 cI aR q_hasImage q_place q_rowAt q_rowEnd q_seed q_thrown q_s)) hx hb hml hown hts hK hN hA hP hD hS hl (c_MD_of l D cI cM cS cJ s.heap.size (q_s (0 : Int32).toNatClampNeg) 0 rfl) gX12_adds_X12_of rfl kdS_X12_of [] ⟨rfl, rfl⟩ ⟨Nat.le_of_ble_eq_true rfl, Nat.le_of_ble_eq_true rfl⟩ ⟨Nat.zero_le _, Nat.zero_le _⟩ rfl rfl (by decide +kernel) (k_rp rfl (by decide +kernel)) rfl rfl (Nat.le_of_ble_eq_true rfl) dX12_adds_15 rfl (fun H locs hP hD hS => ?_)
  refine lv_iload_n hx hb dX12_adds_18 rfl (lv_at hl 2 rfl) ?_
  obtain ⟨g19, h⟩ := k_guard h
  refine va_iast hx hb hK hP hD hS 1 0 rfl rfl g19 dX12_adds_19 (fun H locs hP hD hS => ?_)
  replace hP : va_P D vwCl (Wd40 cI aR q_hasImage q_place q_rowAt q_rowEnd q_seed q_thrown (upd q_s (S_MD_of (q_s (0 : Int32).toNatClampNeg) 0).toNatClampNeg x1)) H := hP
  replace hD : va_D A (Wd40 cI aR q_hasImage q_place q_rowAt q_rowEnd q_seed q_thrown (upd q_s (S_MD_of (q_s (0 : Int32).toNatClampNeg) 0).toNatClampNeg x1)) := hD
  refine lv_aload_n hx hb dX12_adds_20 rfl (lv_at hl 1 rfl) ?_
  refine va_get (D := D) (ci := 12) (v := .ref (aR 1)) (C := RX12) (T := TX12) (N := 18) hx hb hts hiX12 hown hK hP 0 rfl rfl 0 (by decide) hf9 (fun _ z => z) rfl dX12_adds_21 ?_
  refine lv_iload hx hb dX12_adds_24 (lv_at hl 0 rfl) ?_
  refine lv_iconst (v := 1) hx hb dX12_adds_26 (by decide) ?_
  refine k_callS (As := [.int (q_s (0 : Int32).toNatClampNeg), .int 1]) (rest := [.ref (aR 1)]) (st1 := [.int (S_MD_of (q_s (0 : Int32).toNatClampNeg) 1), .ref (aR 1)]) (ws2 := (Wd40 cI aR q_hasImage q_place q_rowAt q_rowEnd q_seed q_thrown (upd q_s (S_MD_of (q_s (0 : Int32).toNatClampNeg) 0).toNatClampNeg x1))) hx hb hml hown hts hK hN hA hP hD hS hl (c_MD_of l D cI cM cS cJ H.size (q_s (0 : Int32).toNatClampNeg) 1 rfl) gX12_adds_X12_of rfl kdS_X12_of [] ⟨rfl, rfl⟩ ⟨Nat.le_of_ble_eq_true rfl, Nat.le_of_ble_eq_true rfl⟩ ⟨Nat.zero_le _, Nat.zero_le _⟩ rfl rfl (by decide +kernel) (k_rp rfl (by decide +kernel)) rfl rfl (Nat.le_of_ble_eq_true rfl) dX12_adds_27 rfl (fun H locs hP hD hS => ?_)
  refine lv_iload_n hx hb dX12_adds_30 rfl (lv_at hl 3 rfl) ?_
  obtain ⟨g31, h⟩ := k_guard h
  refine va_iast hx hb hK hP hD hS 1 0 rfl rfl g31 dX12_adds_31 (fun H locs hP hD hS => ?_)
  replace hP : va_P D vwCl (Wd40 cI aR q_hasImage q_place q_rowAt q_rowEnd q_seed q_thrown (upd (upd q_s (S_MD_of (q_s (0 : Int32).toNatClampNeg) 0).toNatClampNeg x1) (S_MD_of (q_s (0 : Int32).toNatClampNeg) 1).toNatClampNeg x2)) H := hP
  replace hD : va_D A (Wd40 cI aR q_hasImage q_place q_rowAt q_rowEnd q_seed q_thrown (upd (upd q_s (S_MD_of (q_s (0 : Int32).toNatClampNeg) 0).toNatClampNeg x1) (S_MD_of (q_s (0 : Int32).toNatClampNeg) 1).toNatClampNeg x2)) := hD
  refine lv_aload_n hx hb dX12_adds_32 rfl (lv_at hl 1 rfl) ?_
  refine va_get (D := D) (ci := 12) (v := .ref (aR 1)) (C := RX12) (T := TX12) (N := 18) hx hb hts hiX12 hown hK hP 0 rfl rfl 0 (by decide) hf9 (fun _ z => z) rfl dX12_adds_33 ?_
  refine lv_iload hx hb dX12_adds_36 (lv_at hl 0 rfl) ?_
  refine lv_iconst (v := 2) hx hb dX12_adds_38 (by decide) ?_
  refine k_callS (As := [.int (q_s (0 : Int32).toNatClampNeg), .int 2]) (rest := [.ref (aR 1)]) (st1 := [.int (S_MD_of (q_s (0 : Int32).toNatClampNeg) 2), .ref (aR 1)]) (ws2 := (Wd40 cI aR q_hasImage q_place q_rowAt q_rowEnd q_seed q_thrown (upd (upd q_s (S_MD_of (q_s (0 : Int32).toNatClampNeg) 0).toNatClampNeg x1) (S_MD_of (q_s (0 : Int32).toNatClampNeg) 1).toNatClampNeg x2))) hx hb hml hown hts hK hN hA hP hD hS hl (c_MD_of l D cI cM cS cJ H.size (q_s (0 : Int32).toNatClampNeg) 2 rfl) gX12_adds_X12_of rfl kdS_X12_of [] ⟨rfl, rfl⟩ ⟨Nat.le_of_ble_eq_true rfl, Nat.le_of_ble_eq_true rfl⟩ ⟨Nat.zero_le _, Nat.zero_le _⟩ rfl rfl (by decide +kernel) (k_rp rfl (by decide +kernel)) rfl rfl (Nat.le_of_ble_eq_true rfl) dX12_adds_39 rfl (fun H locs hP hD hS => ?_)
  refine lv_iload_n hx hb dX12_adds_42 rfl (lv_at hl 4 rfl) ?_
  obtain ⟨g43, h⟩ := k_guard h
  refine va_iast hx hb hK hP hD hS 1 0 rfl rfl g43 dX12_adds_43 (fun H locs hP hD hS => ?_)
  replace hP : va_P D vwCl (Wd40 cI aR q_hasImage q_place q_rowAt q_rowEnd q_seed q_thrown (upd (upd (upd q_s (S_MD_of (q_s (0 : Int32).toNatClampNeg) 0).toNatClampNeg x1) (S_MD_of (q_s (0 : Int32).toNatClampNeg) 1).toNatClampNeg x2) (S_MD_of (q_s (0 : Int32).toNatClampNeg) 2).toNatClampNeg x3)) H := hP
  replace hD : va_D A (Wd40 cI aR q_hasImage q_place q_rowAt q_rowEnd q_seed q_thrown (upd (upd (upd q_s (S_MD_of (q_s (0 : Int32).toNatClampNeg) 0).toNatClampNeg x1) (S_MD_of (q_s (0 : Int32).toNatClampNeg) 1).toNatClampNeg x2) (S_MD_of (q_s (0 : Int32).toNatClampNeg) 2).toNatClampNeg x3)) := hD
  refine lv_aload_n hx hb dX12_adds_44 rfl (lv_at hl 1 rfl) ?_
  refine va_get (D := D) (ci := 12) (v := .ref (aR 1)) (C := RX12) (T := TX12) (N := 18) hx hb hts hiX12 hown hK hP 0 rfl rfl 0 (by decide) hf9 (fun _ z => z) rfl dX12_adds_45 ?_
  refine lv_iload hx hb dX12_adds_48 (lv_at hl 0 rfl) ?_
  refine lv_iconst (v := 3) hx hb dX12_adds_50 (by decide) ?_
  refine k_callS (As := [.int (q_s (0 : Int32).toNatClampNeg), .int 3]) (rest := [.ref (aR 1)]) (st1 := [.int (S_MD_of (q_s (0 : Int32).toNatClampNeg) 3), .ref (aR 1)]) (ws2 := (Wd40 cI aR q_hasImage q_place q_rowAt q_rowEnd q_seed q_thrown (upd (upd (upd q_s (S_MD_of (q_s (0 : Int32).toNatClampNeg) 0).toNatClampNeg x1) (S_MD_of (q_s (0 : Int32).toNatClampNeg) 1).toNatClampNeg x2) (S_MD_of (q_s (0 : Int32).toNatClampNeg) 2).toNatClampNeg x3))) hx hb hml hown hts hK hN hA hP hD hS hl (c_MD_of l D cI cM cS cJ H.size (q_s (0 : Int32).toNatClampNeg) 3 rfl) gX12_adds_X12_of rfl kdS_X12_of [] ⟨rfl, rfl⟩ ⟨Nat.le_of_ble_eq_true rfl, Nat.le_of_ble_eq_true rfl⟩ ⟨Nat.zero_le _, Nat.zero_le _⟩ rfl rfl (by decide +kernel) (k_rp rfl (by decide +kernel)) rfl rfl (Nat.le_of_ble_eq_true rfl) dX12_adds_51 rfl (fun H locs hP hD hS => ?_)
  refine lv_iconst (v := 0) hx hb dX12_adds_54 (by decide) ?_
  obtain ⟨g55, h⟩ := k_guard h
  refine va_iast hx hb hK hP hD hS 1 0 rfl rfl g55 dX12_adds_55 (fun H locs hP hD hS => ?_)
  replace hP : va_P D vwCl (Wd40 cI aR q_hasImage q_place q_rowAt q_rowEnd q_seed q_thrown (upd (upd (upd (upd q_s (S_MD_of (q_s (0 : Int32).toNatClampNeg) 0).toNatClampNeg x1) (S_MD_of (q_s (0 : Int32).toNatClampNeg) 1).toNatClampNeg x2) (S_MD_of (q_s (0 : Int32).toNatClampNeg) 2).toNatClampNeg x3) (S_MD_of (q_s (0 : Int32).toNatClampNeg) 3).toNatClampNeg 0)) H := hP
  replace hD : va_D A (Wd40 cI aR q_hasImage q_place q_rowAt q_rowEnd q_seed q_thrown (upd (upd (upd (upd q_s (S_MD_of (q_s (0 : Int32).toNatClampNeg) 0).toNatClampNeg x1) (S_MD_of (q_s (0 : Int32).toNatClampNeg) 1).toNatClampNeg x2) (S_MD_of (q_s (0 : Int32).toNatClampNeg) 2).toNatClampNeg x3) (S_MD_of (q_s (0 : Int32).toNatClampNeg) 3).toNatClampNeg 0)) := hD
  refine lv_aload_n hx hb dX12_adds_56 rfl (lv_at hl 1 rfl) ?_
  refine va_get (D := D) (ci := 12) (v := .ref (aR 1)) (C := RX12) (T := TX12) (N := 18) hx hb hts hiX12 hown hK hP 0 rfl rfl 0 (by decide) hf9 (fun _ z => z) rfl dX12_adds_57 ?_
  refine lv_iconst (v := 0) hx hb dX12_adds_60 (by decide) ?_
  refine lv_dup2_11 hx hb dX12_adds_61 rfl rfl ?_
  refine va_iald hx hb hK hP 1 0 rfl rfl (show ¬ ((0 : Int32) < 0 ∨ 37 ≤ (0 : Int32).toNatClampNeg) by decide) dX12_adds_62 ?_
  refine lv_iconst (v := 1) hx hb dX12_adds_63 (by decide) ?_
  refine lv_iadd hx hb dX12_adds_64 ?_
  refine va_iast hx hb hK hP hD hS 1 0 rfl rfl (show ¬ ((0 : Int32) < 0 ∨ 37 ≤ (0 : Int32).toNatClampNeg) by decide) dX12_adds_65 (fun H locs hP hD hS => ?_)
  replace hP : va_P D vwCl (Wd40 cI aR q_hasImage q_place q_rowAt q_rowEnd q_seed q_thrown (upd (upd (upd (upd (upd q_s (S_MD_of (q_s (0 : Int32).toNatClampNeg) 0).toNatClampNeg x1) (S_MD_of (q_s (0 : Int32).toNatClampNeg) 1).toNatClampNeg x2) (S_MD_of (q_s (0 : Int32).toNatClampNeg) 2).toNatClampNeg x3) (S_MD_of (q_s (0 : Int32).toNatClampNeg) 3).toNatClampNeg 0) (0 : Int32).toNatClampNeg (((upd (upd (upd (upd q_s (S_MD_of (q_s (0 : Int32).toNatClampNeg) 0).toNatClampNeg x1) (S_MD_of (q_s (0 : Int32).toNatClampNeg) 1).toNatClampNeg x2) (S_MD_of (q_s (0 : Int32).toNatClampNeg) 2).toNatClampNeg x3) (S_MD_of (q_s (0 : Int32).toNatClampNeg) 3).toNatClampNeg 0) (0 : Int32).toNatClampNeg) + 1))) H := hP
  replace hD : va_D A (Wd40 cI aR q_hasImage q_place q_rowAt q_rowEnd q_seed q_thrown (upd (upd (upd (upd (upd q_s (S_MD_of (q_s (0 : Int32).toNatClampNeg) 0).toNatClampNeg x1) (S_MD_of (q_s (0 : Int32).toNatClampNeg) 1).toNatClampNeg x2) (S_MD_of (q_s (0 : Int32).toNatClampNeg) 2).toNatClampNeg x3) (S_MD_of (q_s (0 : Int32).toNatClampNeg) 3).toNatClampNeg 0) (0 : Int32).toNatClampNeg (((upd (upd (upd (upd q_s (S_MD_of (q_s (0 : Int32).toNatClampNeg) 0).toNatClampNeg x1) (S_MD_of (q_s (0 : Int32).toNatClampNeg) 1).toNatClampNeg x2) (S_MD_of (q_s (0 : Int32).toNatClampNeg) 2).toNatClampNeg x3) (S_MD_of (q_s (0 : Int32).toNatClampNeg) 3).toNatClampNeg 0) (0 : Int32).toNatClampNeg) + 1))) := hD
  have h := Option.some.inj h; subst h
  exact hret _ _ _ _ hP hS dX12_adds_66
abbrev Wd44 (cI : ClassId) (aR : Nat → Nat) (q_hasImage : Int32) (q_place : Int32) (q_rowAt : Int32) (q_rowEnd : Int32) (q_seed : Int32) (q_thrown : Int32) (q_s : Nat → Int32) (q_numbers : Nat → Int32) : va_W := [((aR 0), .inr (12, [.ref (aR 1), .ref (aR 2), .ref (aR 3), .ref (aR 4), .int q_hasImage, .int q_place, .int q_rowAt, .int q_rowEnd, .ref (aR 5), .ref (aR 6), .int q_seed, .ref (aR 7), .ref (aR 8), .ref (aR 9), .ref (aR 10), .ref (aR 11), .ref (aR 12), .int q_thrown])), ((aR 1), .inl (cI, 37, .inl q_s)), ((aR 5), .inl (cI, 3, .inl q_numbers))]
theorem kdV_X12_adds : yX12_adds.cls = RX12 ∧ yX12_adds.cls ≠ "java/lang/invoke/MethodHandle" ∧ yX12_adds.cls ≠ "java/lang/invoke/VarHandle" ∧ (parseMethodDescriptor yX12_adds.desc).map (fun d => d.parameters.length) = some 3 := by decide +kernel
theorem kdS_X12_daysOn : yX12_daysOn.cls ≠ "java/lang/invoke/MethodHandle" ∧ yX12_daysOn.cls ≠ "java/lang/invoke/VarHandle" ∧ (parseMethodDescriptor yX12_daysOn.desc).map (fun d => d.parameters.length) = some 2 := by decide +kernel
abbrev rm_X12_isDone : Room := { frames := 5, cells := 0, slots := 0, locals := 112 }
set_option maxHeartbeats 4000000 in
set_option maxRecDepth 100000 in
theorem c_MD_isDone (l : Launch) (D : va_G) (cI cM cS cJ : ClassId) (aR : Nat → Nat) (sz : Nat) (x1 : Int32) (q_hasImage : Int32) (q_place : Int32) (q_rowAt : Int32) (q_rowEnd : Int32) (q_seed : Int32) (q_thrown : Int32) (q_s : Nat → Int32) (q_numbers : Nat → Int32) {o : (Int32) × (Nat → Int32)} (hsem : S_MD_isDone x1 q_s q_numbers = some o) : kMet l yX12_isDone wsX12_isDone rm_X12_isDone [.ref (aR 0), .int x1] D (kT cI cM cS cJ) (Wd44 cI aR q_hasImage q_place q_rowAt q_rowEnd q_seed q_thrown q_s q_numbers) sz (some (.int o.1)) (Wd44 cI aR q_hasImage q_place q_rowAt q_rowEnd q_seed q_thrown o.2 q_numbers) := by
  refine k_metZ (by decide) rfl rfl (Nat.le_of_ble_eq_true rfl) ?_
  intro p e s m below meth c ls Q A hx hb hml hts hown hK hN hA hP hD hS hl hsz hnm hret
  have hown : s.vm.findClass RX12 = some m.cls := hown
  have hf22 := hts (.fieldLink RX12 22 "PlumbLineModel" "numbers" "[I") (List.mem_of_getElem? (i := 1) rfl)
  have hf9 := hts (.fieldLink RX12 9 "PlumbLineModel" "s" "[I") (List.mem_of_getElem? (i := 2) rfl)
  have hiX12 : ∀ w ∈ u_ws RX12 TX12 18, w ∈ wsX12_isDone := fun w h => List.mem_cons_of_mem _ (List.mem_append_right _ h)
  replace hl : lv_has ls 4 [(0, .ref (aR 0)), (1, .int x1)] := hl
  have h := hsem
  clear hsem
  rw [S_MD_isDone] at h
  refine lv_aload_n hx hb dX12_isDone_0 rfl (lv_at hl 0 rfl) ?_
  refine va_get (D := D) (ci := 12) (v := .ref (aR 5)) (C := RX12) (T := TX12) (N := 18) hx hb hts hiX12 hown hK hP 0 rfl rfl 8 (by decide) hf22 (fun _ z => z) rfl dX12_isDone_1 ?_
  refine lv_iconst (v := 0) hx hb dX12_isDone_4 (by decide) ?_
  refine va_iald hx hb hK hP 2 0 rfl rfl (show ¬ ((0 : Int32) < 0 ∨ 3 ≤ (0 : Int32).toNatClampNeg) by decide) dX12_isDone_5 ?_
  refine lv_istore_n (lv' := [(2, .int (q_numbers (0 : Int32).toNatClampNeg)), (0, .ref (aR 0)), (1, .int x1)]) hx hb dX12_isDone_6 rfl hl (by decide) rfl (fun ls hl => ?_)
  refine lv_aload_n hx hb dX12_isDone_7 rfl (lv_at hl 1 rfl) ?_
  refine va_get (D := D) (ci := 12) (v := .ref (aR 5)) (C := RX12) (T := TX12) (N := 18) hx hb hts hiX12 hown hK hP 0 rfl rfl 8 (by decide) hf22 (fun _ z => z) rfl dX12_isDone_8 ?_
  refine lv_iconst (v := 1) hx hb dX12_isDone_11 (by decide) ?_
  refine va_iald hx hb hK hP 2 0 rfl rfl (show ¬ ((1 : Int32) < 0 ∨ 3 ≤ (1 : Int32).toNatClampNeg) by decide) dX12_isDone_12 ?_
  refine lv_istore_n (lv' := [(3, .int (q_numbers (1 : Int32).toNatClampNeg)), (2, .int (q_numbers (0 : Int32).toNatClampNeg)), (0, .ref (aR 0)), (1, .int x1)]) hx hb dX12_isDone_13 rfl hl (by decide) rfl (fun ls hl => ?_)
  refine lv_iload_n hx hb dX12_isDone_14 rfl (lv_at hl 3 rfl) ?_
  by_cases s15_108 : x1 = 108
  · refine k_lkI (tgt := 103) (v := 108) hx hb dX12_isDone_15 s15_108 rfl rfl (by decide) ?_
    have h := k_pos s15_108 h
    refine lv_aload_n hx hb dX12_isDone_103 rfl (lv_at hl 2 rfl) ?_
    refine lv_iload_n hx hb dX12_isDone_104 rfl (lv_at hl 1 rfl) ?_
    obtain ⟨r105, g105, h⟩ := k_bind h
    refine k_callV (As := [.int (q_numbers (0 : Int32).toNatClampNeg)]) (rest := []) (st1 := [.int r105]) (ws2 := (Wd44 cI aR q_hasImage q_place q_rowAt q_rowEnd q_seed q_thrown q_s q_numbers)) hx hb hml hown hts hK hN hA hP hD hS hl (c_MD_isMan l D cI cM cS cJ aR s.heap.size (q_numbers (0 : Int32).toNatClampNeg) q_hasImage q_place q_rowAt q_rowEnd q_seed q_thrown q_s g105) gX12_isDone_X12_isMan rfl kdV_X12_isMan 0 12 rfl rfl rfl [0, 1] ⟨rfl, rfl⟩ ⟨Nat.le_of_ble_eq_true rfl, Nat.le_of_ble_eq_true rfl⟩ ⟨Nat.zero_le _, Nat.zero_le _⟩ rfl rfl (by decide +kernel) (k_rp rfl (by decide +kernel)) rfl rfl (Nat.le_of_ble_eq_true rfl) dX12_isDone_105 rfl (fun H locs hP hD hS => ?_)
    refine lv_if_eq (tgt := 117) hx hb dX12_isDone_108 (by decide) (fun c108 => ?_) (fun c108 => ?_)
    · have h := k_pos c108 h
      refine lv_iconst (v := 0) hx hb dX12_isDone_117 (by decide) ?_
      have h := Option.some.inj h; subst h
      exact hret _ _ _ _ (k_z01 (fun z => z (Or.inl rfl))) hP hS dX12_isDone_118
    · have h := k_neg c108 h
      refine lv_iload_n hx hb dX12_isDone_111 rfl (lv_at hl 0 rfl) ?_
      refine lv_bipush (v := 90) hx hb dX12_isDone_112 (by decide) ?_
      refine lv_icmp_le (tgt := 119) hx hb dX12_isDone_114 (by decide) (fun c114 => ?_) (fun c114 => ?_)
      · have h := k_pos c114 h
        refine lv_aload_n hx hb dX12_isDone_119 rfl (lv_at hl 2 rfl) ?_
        refine va_get (D := D) (ci := 12) (v := .ref (aR 1)) (C := RX12) (T := TX12) (N := 18) hx hb hts hiX12 hown hK hP 0 rfl rfl 0 (by decide) hf9 (fun _ z => z) rfl dX12_isDone_120 ?_
        refine lv_iload_n hx hb dX12_isDone_123 rfl (lv_at hl 1 rfl) ?_
        refine lv_iconst (v := 2) hx hb dX12_isDone_124 (by decide) ?_
        refine k_callS (As := [.int (q_numbers (0 : Int32).toNatClampNeg), .int 2]) (rest := [.ref (aR 1)]) (st1 := [.int (S_MD_of (q_numbers (0 : Int32).toNatClampNeg) 2), .ref (aR 1)]) (ws2 := (Wd44 cI aR q_hasImage q_place q_rowAt q_rowEnd q_seed q_thrown q_s q_numbers)) hx hb hml hown hts hK hN hA hP hD hS hl (c_MD_of l D cI cM cS cJ H.size (q_numbers (0 : Int32).toNatClampNeg) 2 rfl) gX12_isDone_X12_of rfl kdS_X12_of [] ⟨rfl, rfl⟩ ⟨Nat.le_of_ble_eq_true rfl, Nat.le_of_ble_eq_true rfl⟩ ⟨Nat.zero_le _, Nat.zero_le _⟩ rfl rfl (by decide +kernel) (k_rp rfl (by decide +kernel)) rfl rfl (Nat.le_of_ble_eq_true rfl) dX12_isDone_125 rfl (fun H locs hP hD hS => ?_)
        refine lv_iload_n hx hb dX12_isDone_128 rfl (lv_at hl 0 rfl) ?_
        refine lv_bipush (v := 45) hx hb dX12_isDone_129 (by decide) ?_
        refine lv_isub hx hb dX12_isDone_131 ?_
        obtain ⟨g132, h⟩ := k_guard h
        refine va_iast hx hb hK hP hD hS 1 0 rfl rfl g132 dX12_isDone_132 (fun H locs hP hD hS => ?_)
        replace hP : va_P D vwCl (Wd44 cI aR q_hasImage q_place q_rowAt q_rowEnd q_seed q_thrown (upd q_s (S_MD_of (q_numbers (0 : Int32).toNatClampNeg) 2).toNatClampNeg ((q_numbers (1 : Int32).toNatClampNeg) - 45)) q_numbers) H := hP
        replace hD : va_D A (Wd44 cI aR q_hasImage q_place q_rowAt q_rowEnd q_seed q_thrown (upd q_s (S_MD_of (q_numbers (0 : Int32).toNatClampNeg) 2).toNatClampNeg ((q_numbers (1 : Int32).toNatClampNeg) - 45)) q_numbers) := hD
        refine lv_iconst (v := 1) hx hb dX12_isDone_133 (by decide) ?_
        have h := Option.some.inj h; subst h
        exact hret _ _ _ _ (k_z01 (fun z => z (Or.inr rfl))) hP hS dX12_isDone_134
      · have h := k_neg c114 h
        refine lv_iconst (v := 0) hx hb dX12_isDone_117 (by decide) ?_
        have h := Option.some.inj h; subst h
        exact hret _ _ _ _ (k_z01 (fun z => z (Or.inl rfl))) hP hS dX12_isDone_118
  · have h := k_neg s15_108 h
    by_cases s15_109 : x1 = 109
    · refine k_lkI (tgt := 56) (v := 109) hx hb dX12_isDone_15 s15_109 rfl rfl (by decide) ?_
      have h := k_pos s15_109 h
      refine lv_iload_n hx hb dX12_isDone_56 rfl (lv_at hl 1 rfl) ?_
      refine lv_bipush (v := 8) hx hb dX12_isDone_57 (by decide) ?_
      refine lv_icmp_ge (tgt := 84) hx hb dX12_isDone_59 (by decide) (fun c59 => ?_) (fun c59 => ?_)
      · have h := k_pos c59 h
        refine lv_iconst (v := 0) hx hb dX12_isDone_84 (by decide) ?_
        have h := Option.some.inj h; subst h
        exact hret _ _ _ _ (k_z01 (fun z => z (Or.inl rfl))) hP hS dX12_isDone_85
      · have h := k_neg c59 h
        refine lv_aload_n hx hb dX12_isDone_62 rfl (lv_at hl 2 rfl) ?_
        refine va_get (D := D) (ci := 12) (v := .ref (aR 5)) (C := RX12) (T := TX12) (N := 18) hx hb hts hiX12 hown hK hP 0 rfl rfl 8 (by decide) hf22 (fun _ z => z) rfl dX12_isDone_63 ?_
        refine lv_iconst (v := 2) hx hb dX12_isDone_66 (by decide) ?_
        refine va_iald hx hb hK hP 2 0 rfl rfl (show ¬ ((2 : Int32) < 0 ∨ 3 ≤ (2 : Int32).toNatClampNeg) by decide) dX12_isDone_67 ?_
        refine lv_bipush (v := 90) hx hb dX12_isDone_68 (by decide) ?_
        refine lv_icmp_gt (tgt := 84) hx hb dX12_isDone_70 (by decide) (fun c70 => ?_) (fun c70 => ?_)
        · have h := k_pos c70 h
          refine lv_iconst (v := 0) hx hb dX12_isDone_84 (by decide) ?_
          have h := Option.some.inj h; subst h
          exact hret _ _ _ _ (k_z01 (fun z => z (Or.inl rfl))) hP hS dX12_isDone_85
        · have h := k_neg c70 h
          refine lv_aload_n hx hb dX12_isDone_73 rfl (lv_at hl 2 rfl) ?_
          refine va_get (D := D) (ci := 12) (v := .ref (aR 1)) (C := RX12) (T := TX12) (N := 18) hx hb hts hiX12 hown hK hP 0 rfl rfl 0 (by decide) hf9 (fun _ z => z) rfl dX12_isDone_74 ?_
          refine lv_iconst (v := 0) hx hb dX12_isDone_77 (by decide) ?_
          refine va_iald hx hb hK hP 1 0 rfl rfl (show ¬ ((0 : Int32) < 0 ∨ 37 ≤ (0 : Int32).toNatClampNeg) by decide) dX12_isDone_78 ?_
          refine lv_bipush (v := 8) hx hb dX12_isDone_79 (by decide) ?_
          refine lv_icmp_ne (tgt := 86) hx hb dX12_isDone_81 (by decide) (fun c81 => ?_) (fun c81 => ?_)
          · have h := k_neg c81 h
            refine lv_aload_n hx hb dX12_isDone_86 rfl (lv_at hl 2 rfl) ?_
            refine lv_iload_n hx hb dX12_isDone_87 rfl (lv_at hl 1 rfl) ?_
            refine lv_iload_n hx hb dX12_isDone_88 rfl (lv_at hl 0 rfl) ?_
            refine lv_aload_n hx hb dX12_isDone_89 rfl (lv_at hl 2 rfl) ?_
            refine va_get (D := D) (ci := 12) (v := .ref (aR 5)) (C := RX12) (T := TX12) (N := 18) hx hb hts hiX12 hown hK hP 0 rfl rfl 8 (by decide) hf22 (fun _ z => z) rfl dX12_isDone_90 ?_
            refine lv_iconst (v := 2) hx hb dX12_isDone_93 (by decide) ?_
            refine va_iald hx hb hK hP 2 0 rfl rfl (show ¬ ((2 : Int32) < 0 ∨ 3 ≤ (2 : Int32).toNatClampNeg) by decide) dX12_isDone_94 ?_
            refine lv_bipush (v := 45) hx hb dX12_isDone_95 (by decide) ?_
            refine lv_isub hx hb dX12_isDone_97 ?_
            obtain ⟨r98, g98, h⟩ := k_bind h
            refine k_callV (As := [.int (q_numbers (0 : Int32).toNatClampNeg), .int (q_numbers (1 : Int32).toNatClampNeg), .int ((q_numbers (2 : Int32).toNatClampNeg) - 45)]) (rest := []) (st1 := []) (ws2 := (Wd44 cI aR q_hasImage q_place q_rowAt q_rowEnd q_seed q_thrown r98 q_numbers)) hx hb hml hown hts hK hN hA hP hD hS hl (c_MD_adds l D cI cM cS cJ aR s.heap.size (q_numbers (0 : Int32).toNatClampNeg) (q_numbers (1 : Int32).toNatClampNeg) ((q_numbers (2 : Int32).toNatClampNeg) - 45) q_hasImage q_place q_rowAt q_rowEnd q_seed q_thrown q_s g98) gX12_isDone_X12_adds rfl kdV_X12_adds 0 12 rfl rfl rfl [0, 1] ⟨rfl, rfl⟩ ⟨Nat.le_of_ble_eq_true rfl, Nat.le_of_ble_eq_true rfl⟩ ⟨Nat.zero_le _, Nat.zero_le _⟩ rfl rfl (by decide +kernel) (k_rp rfl (by decide +kernel)) rfl rfl (Nat.le_of_ble_eq_true rfl) dX12_isDone_98 rfl (fun H locs hP hD hS => ?_)
            refine lv_iconst (v := 1) hx hb dX12_isDone_101 (by decide) ?_
            have h := Option.some.inj h; subst h
            exact hret _ _ _ _ (k_z01 (fun z => z (Or.inr rfl))) hP hS dX12_isDone_102
          · have h := k_pos c81 h
            refine lv_iconst (v := 0) hx hb dX12_isDone_84 (by decide) ?_
            have h := Option.some.inj h; subst h
            exact hret _ _ _ _ (k_z01 (fun z => z (Or.inl rfl))) hP hS dX12_isDone_85
    · have h := k_neg s15_109 h
      by_cases s15_114 : x1 = 114
      · refine k_lkI (tgt := 135) (v := 114) hx hb dX12_isDone_15 s15_114 rfl rfl (by decide) ?_
        have h := k_pos s15_114 h
        refine lv_aload_n hx hb dX12_isDone_135 rfl (lv_at hl 2 rfl) ?_
        refine lv_iload_n hx hb dX12_isDone_136 rfl (lv_at hl 1 rfl) ?_
        obtain ⟨r137, g137, h⟩ := k_bind h
        refine k_callV (As := [.int (q_numbers (0 : Int32).toNatClampNeg)]) (rest := []) (st1 := [.int r137]) (ws2 := (Wd44 cI aR q_hasImage q_place q_rowAt q_rowEnd q_seed q_thrown q_s q_numbers)) hx hb hml hown hts hK hN hA hP hD hS hl (c_MD_isMan l D cI cM cS cJ aR s.heap.size (q_numbers (0 : Int32).toNatClampNeg) q_hasImage q_place q_rowAt q_rowEnd q_seed q_thrown q_s g137) gX12_isDone_X12_isMan rfl kdV_X12_isMan 0 12 rfl rfl rfl [0, 1] ⟨rfl, rfl⟩ ⟨Nat.le_of_ble_eq_true rfl, Nat.le_of_ble_eq_true rfl⟩ ⟨Nat.zero_le _, Nat.zero_le _⟩ rfl rfl (by decide +kernel) (k_rp rfl (by decide +kernel)) rfl rfl (Nat.le_of_ble_eq_true rfl) dX12_isDone_137 rfl (fun H locs hP hD hS => ?_)
        refine lv_if_ne (tgt := 145) hx hb dX12_isDone_140 (by decide) (fun c140 => ?_) (fun c140 => ?_)
        · have h := k_neg c140 h
          refine lv_aload_n hx hb dX12_isDone_145 rfl (lv_at hl 2 rfl) ?_
          refine va_get (D := D) (ci := 12) (v := .ref (aR 1)) (C := RX12) (T := TX12) (N := 18) hx hb hts hiX12 hown hK hP 0 rfl rfl 0 (by decide) hf9 (fun _ z => z) rfl dX12_isDone_146 ?_
          refine lv_iload_n hx hb dX12_isDone_149 rfl (lv_at hl 1 rfl) ?_
          refine lv_iconst (v := 3) hx hb dX12_isDone_150 (by decide) ?_
          refine k_callS (As := [.int (q_numbers (0 : Int32).toNatClampNeg), .int 3]) (rest := [.ref (aR 1)]) (st1 := [.int (S_MD_of (q_numbers (0 : Int32).toNatClampNeg) 3), .ref (aR 1)]) (ws2 := (Wd44 cI aR q_hasImage q_place q_rowAt q_rowEnd q_seed q_thrown q_s q_numbers)) hx hb hml hown hts hK hN hA hP hD hS hl (c_MD_of l D cI cM cS cJ H.size (q_numbers (0 : Int32).toNatClampNeg) 3 rfl) gX12_isDone_X12_of rfl kdS_X12_of [] ⟨rfl, rfl⟩ ⟨Nat.le_of_ble_eq_true rfl, Nat.le_of_ble_eq_true rfl⟩ ⟨Nat.zero_le _, Nat.zero_le _⟩ rfl rfl (by decide +kernel) (k_rp rfl (by decide +kernel)) rfl rfl (Nat.le_of_ble_eq_true rfl) dX12_isDone_151 rfl (fun H locs hP hD hS => ?_)
          refine lv_dup2_11 hx hb dX12_isDone_154 rfl rfl ?_
          obtain ⟨g155, h⟩ := k_guard h
          refine va_iald hx hb hK hP 1 0 rfl rfl g155 dX12_isDone_155 ?_
          refine lv_iconst (v := 1) hx hb dX12_isDone_156 (by decide) ?_
          refine lv_ixor hx hb dX12_isDone_157 ?_
          refine va_iast hx hb hK hP hD hS 1 0 rfl rfl g155 dX12_isDone_158 (fun H locs hP hD hS => ?_)
          replace hP : va_P D vwCl (Wd44 cI aR q_hasImage q_place q_rowAt q_rowEnd q_seed q_thrown (upd q_s (S_MD_of (q_numbers (0 : Int32).toNatClampNeg) 3).toNatClampNeg ((q_s (S_MD_of (q_numbers (0 : Int32).toNatClampNeg) 3).toNatClampNeg) ^^^ 1)) q_numbers) H := hP
          replace hD : va_D A (Wd44 cI aR q_hasImage q_place q_rowAt q_rowEnd q_seed q_thrown (upd q_s (S_MD_of (q_numbers (0 : Int32).toNatClampNeg) 3).toNatClampNeg ((q_s (S_MD_of (q_numbers (0 : Int32).toNatClampNeg) 3).toNatClampNeg) ^^^ 1)) q_numbers) := hD
          refine lv_iconst (v := 1) hx hb dX12_isDone_159 (by decide) ?_
          have h := Option.some.inj h; subst h
          exact hret _ _ _ _ (k_z01 (fun z => z (Or.inr rfl))) hP hS dX12_isDone_160
        · have h := k_pos c140 h
          refine lv_iconst (v := 0) hx hb dX12_isDone_143 (by decide) ?_
          have h := Option.some.inj h; subst h
          exact hret _ _ _ _ (k_z01 (fun z => z (Or.inl rfl))) hP hS dX12_isDone_144
      · have h := k_neg s15_114 h
        by_cases s15_119 : x1 = 119
        · refine k_lkI (tgt := 161) (v := 119) hx hb dX12_isDone_15 s15_119 rfl rfl (by decide) ?_
          have h := k_pos s15_119 h
          refine lv_iload_n hx hb dX12_isDone_161 rfl (lv_at hl 0 rfl) ?_
          refine lv_bipush (v := 8) hx hb dX12_isDone_162 (by decide) ?_
          refine lv_icmp_lt (tgt := 169) hx hb dX12_isDone_164 (by decide) (fun c164 => ?_) (fun c164 => ?_)
          · have h := k_pos c164 h
            refine lv_aload_n hx hb dX12_isDone_169 rfl (lv_at hl 2 rfl) ?_
            refine va_get (D := D) (ci := 12) (v := .ref (aR 1)) (C := RX12) (T := TX12) (N := 18) hx hb hts hiX12 hown hK hP 0 rfl rfl 0 (by decide) hf9 (fun _ z => z) rfl dX12_isDone_170 ?_
            refine lv_iconst (v := 3) hx hb dX12_isDone_173 (by decide) ?_
            refine lv_iload_n hx hb dX12_isDone_174 rfl (lv_at hl 1 rfl) ?_
            refine va_iast hx hb hK hP hD hS 1 0 rfl rfl (show ¬ ((3 : Int32) < 0 ∨ 37 ≤ (3 : Int32).toNatClampNeg) by decide) dX12_isDone_175 (fun H locs hP hD hS => ?_)
            replace hP : va_P D vwCl (Wd44 cI aR q_hasImage q_place q_rowAt q_rowEnd q_seed q_thrown (upd q_s (3 : Int32).toNatClampNeg (q_numbers (0 : Int32).toNatClampNeg)) q_numbers) H := hP
            replace hD : va_D A (Wd44 cI aR q_hasImage q_place q_rowAt q_rowEnd q_seed q_thrown (upd q_s (3 : Int32).toNatClampNeg (q_numbers (0 : Int32).toNatClampNeg)) q_numbers) := hD
            refine lv_aload_n hx hb dX12_isDone_176 rfl (lv_at hl 2 rfl) ?_
            refine va_get (D := D) (ci := 12) (v := .ref (aR 1)) (C := RX12) (T := TX12) (N := 18) hx hb hts hiX12 hown hK hP 0 rfl rfl 0 (by decide) hf9 (fun _ z => z) rfl dX12_isDone_177 ?_
            refine lv_iconst (v := 2) hx hb dX12_isDone_180 (by decide) ?_
            refine lv_iload_n hx hb dX12_isDone_181 rfl (lv_at hl 0 rfl) ?_
            refine va_iast hx hb hK hP hD hS 1 0 rfl rfl (show ¬ ((2 : Int32) < 0 ∨ 37 ≤ (2 : Int32).toNatClampNeg) by decide) dX12_isDone_182 (fun H locs hP hD hS => ?_)
            replace hP : va_P D vwCl (Wd44 cI aR q_hasImage q_place q_rowAt q_rowEnd q_seed q_thrown (upd (upd q_s (3 : Int32).toNatClampNeg (q_numbers (0 : Int32).toNatClampNeg)) (2 : Int32).toNatClampNeg (q_numbers (1 : Int32).toNatClampNeg)) q_numbers) H := hP
            replace hD : va_D A (Wd44 cI aR q_hasImage q_place q_rowAt q_rowEnd q_seed q_thrown (upd (upd q_s (3 : Int32).toNatClampNeg (q_numbers (0 : Int32).toNatClampNeg)) (2 : Int32).toNatClampNeg (q_numbers (1 : Int32).toNatClampNeg)) q_numbers) := hD
            refine lv_iconst (v := 1) hx hb dX12_isDone_183 (by decide) ?_
            have h := Option.some.inj h; subst h
            exact hret _ _ _ _ (k_z01 (fun z => z (Or.inr rfl))) hP hS dX12_isDone_184
          · have h := k_neg c164 h
            refine lv_iconst (v := 0) hx hb dX12_isDone_167 (by decide) ?_
            have h := Option.some.inj h; subst h
            exact hret _ _ _ _ (k_z01 (fun z => z (Or.inl rfl))) hP hS dX12_isDone_168
        · have h := k_neg s15_119 h
          refine lv_lookup (tgt := 185) hx hb dX12_isDone_15 rfl (k_lkN _ _ _ (List.forall_mem_cons.mpr ⟨k_ne s15_108 rfl, (List.forall_mem_cons.mpr ⟨k_ne s15_109 rfl, (List.forall_mem_cons.mpr ⟨k_ne s15_114 rfl, (List.forall_mem_cons.mpr ⟨k_ne s15_119 rfl, (fun _ z => absurd z List.not_mem_nil)⟩)⟩)⟩)⟩)) (by decide) ?_
          refine lv_iload_n hx hb dX12_isDone_185 rfl (lv_at hl 1 rfl) ?_
          refine lv_iconst (v := 1) hx hb dX12_isDone_186 (by decide) ?_
          refine lv_bipush (v := 60) hx hb dX12_isDone_187 (by decide) ?_
          refine k_callS (As := [.int (q_numbers (0 : Int32).toNatClampNeg), .int 1, .int 60]) (rest := []) (st1 := [.int (S_MD_isIn (q_numbers (0 : Int32).toNatClampNeg) 1 60)]) (ws2 := (Wd44 cI aR q_hasImage q_place q_rowAt q_rowEnd q_seed q_thrown q_s q_numbers)) hx hb hml hown hts hK hN hA hP hD hS hl (c_MD_isIn l D cI cM cS cJ s.heap.size (q_numbers (0 : Int32).toNatClampNeg) 1 60 rfl) gX12_isDone_X12_isIn rfl kdS_X12_isIn [] ⟨rfl, rfl⟩ ⟨Nat.le_of_ble_eq_true rfl, Nat.le_of_ble_eq_true rfl⟩ ⟨Nat.zero_le _, Nat.zero_le _⟩ rfl rfl (by decide +kernel) (k_rp rfl (by decide +kernel)) rfl rfl (Nat.le_of_ble_eq_true rfl) dX12_isDone_189 rfl (fun H locs hP hD hS => ?_)
          refine lv_if_eq (tgt := 209) hx hb dX12_isDone_192 (by decide) (fun c192 => ?_) (fun c192 => ?_)
          · have h := k_pos c192 h
            refine lv_iconst (v := 0) hx hb dX12_isDone_209 (by decide) ?_
            have h := Option.some.inj h; subst h
            exact hret _ _ _ _ (k_z01 (fun z => z (Or.inl rfl))) hP hS dX12_isDone_210
          · have h := k_neg c192 h
            refine lv_aload_n hx hb dX12_isDone_195 rfl (lv_at hl 2 rfl) ?_
            refine va_get (D := D) (ci := 12) (v := .ref (aR 1)) (C := RX12) (T := TX12) (N := 18) hx hb hts hiX12 hown hK hP 0 rfl rfl 0 (by decide) hf9 (fun _ z => z) rfl dX12_isDone_196 ?_
            refine lv_iconst (v := 1) hx hb dX12_isDone_199 (by decide) ?_
            refine va_iald hx hb hK hP 1 0 rfl rfl (show ¬ ((1 : Int32) < 0 ∨ 37 ≤ (1 : Int32).toNatClampNeg) by decide) dX12_isDone_200 ?_
            refine lv_iload_n hx hb dX12_isDone_201 rfl (lv_at hl 1 rfl) ?_
            refine lv_iadd hx hb dX12_isDone_202 ?_
            refine lv_sipush (v := 999) hx hb dX12_isDone_203 (by decide) ?_
            refine lv_icmp_le (tgt := 211) hx hb dX12_isDone_206 (by decide) (fun c206 => ?_) (fun c206 => ?_)
            · have h := k_pos c206 h
              refine lv_aload_n hx hb dX12_isDone_211 rfl (lv_at hl 2 rfl) ?_
              refine va_get (D := D) (ci := 12) (v := .ref (aR 1)) (C := RX12) (T := TX12) (N := 18) hx hb hts hiX12 hown hK hP 0 rfl rfl 0 (by decide) hf9 (fun _ z => z) rfl dX12_isDone_212 ?_
              refine lv_iload_n hx hb dX12_isDone_215 rfl (lv_at hl 1 rfl) ?_
              obtain ⟨r216, g216, h⟩ := k_bind h
              refine k_callS (As := [.ref (aR 1), .int (q_numbers (0 : Int32).toNatClampNeg)]) (rest := []) (st1 := []) (ws2 := (Wd44 cI aR q_hasImage q_place q_rowAt q_rowEnd q_seed q_thrown r216 q_numbers)) hx hb hml hown hts hK hN hA hP hD hS hl (c_MD_daysOn l D cI cM cS cJ (aR 1) H.size (q_numbers (0 : Int32).toNatClampNeg) q_s g216) gX12_isDone_X12_daysOn rfl kdS_X12_daysOn [1] ⟨rfl, rfl⟩ ⟨Nat.le_of_ble_eq_true rfl, Nat.le_of_ble_eq_true rfl⟩ ⟨Nat.zero_le _, Nat.zero_le _⟩ rfl rfl (by decide +kernel) (k_rp rfl (by decide +kernel)) rfl rfl (Nat.le_of_ble_eq_true rfl) dX12_isDone_216 rfl (fun H locs hP hD hS => ?_)
              refine lv_iconst (v := 1) hx hb dX12_isDone_219 (by decide) ?_
              have h := Option.some.inj h; subst h
              exact hret _ _ _ _ (k_z01 (fun z => z (Or.inr rfl))) hP hS dX12_isDone_220
            · have h := k_neg c206 h
              refine lv_iconst (v := 0) hx hb dX12_isDone_209 (by decide) ?_
              have h := Option.some.inj h; subst h
              exact hret _ _ _ _ (k_z01 (fun z => z (Or.inl rfl))) hP hS dX12_isDone_210
