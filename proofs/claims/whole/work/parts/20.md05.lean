abbrev rm_X12_isShelf : Room := { frames := 1, cells := 0, slots := 0, locals := 22 }
set_option maxHeartbeats 4000000 in
set_option maxRecDepth 100000 in
theorem c_MD_isShelf (l : Launch) (D : va_G) (cI cM cS cJ : ClassId) (sz : Nat) (x0 : Int32) {o : (Int32)} (hsem : S_MD_isShelf x0 = some o) : kMet l yX12_isShelf wsX12_isShelf rm_X12_isShelf [.int x0] D (kT cI cM cS cJ) (Wd0) sz (some (.int o)) (Wd0) := by
  refine k_metZ (by decide) rfl rfl (Nat.le_of_ble_eq_true rfl) ?_
  intro p e s m below meth c ls Q A hx hb hml hts hown hK hN hA hP hD hS hl hsz hnm hret
  have hown : s.vm.findClass RX12 = some m.cls := hown
  replace hl : lv_has ls 1 [(0, .int x0)] := hl
  have h := hsem
  clear hsem
  rw [S_MD_isShelf] at h
  refine lv_iload_n hx hb dX12_isShelf_0 rfl (lv_at hl 0 rfl) ?_
  refine lv_iconst (v := 0) hx hb dX12_isShelf_1 (by decide) ?_
  refine lv_bipush (v := 7) hx hb dX12_isShelf_2 (by decide) ?_
  refine k_callS (As := [.int x0, .int 0, .int 7]) (rest := []) (st1 := [.int (S_MD_isIn x0 0 7)]) (ws2 := (Wd0)) hx hb hml hown hts hK hN hA hP hD hS hl (c_MD_isIn l D cI cM cS cJ s.heap.size x0 0 7 rfl) gX12_isShelf_X12_isIn rfl kdS_X12_isIn [] ⟨rfl, rfl⟩ ⟨Nat.le_of_ble_eq_true rfl, Nat.le_of_ble_eq_true rfl⟩ ⟨Nat.zero_le _, Nat.zero_le _⟩ rfl rfl (by decide +kernel) rfl rfl rfl (Nat.le_of_ble_eq_true rfl) dX12_isShelf_4 rfl (fun H locs hP hD hS => ?_)
  obtain ⟨g7, h⟩ := k_guard h
  have h := Option.some.inj h; subst h
  exact hret _ _ _ _ (k_z01 g7) hP hS dX12_isShelf_7
abbrev Wd45 (cI : ClassId) (aR : Nat → Nat) (q_hasImage : Int32) (q_place : Int32) (q_rowAt : Int32) (q_rowEnd : Int32) (q_seed : Int32) (q_thrown : Int32) (q_kept : Nat → Int32) (q_sort : Nat → Int32) : va_W := [((aR 0), .inr (12, [.ref (aR 1), .ref (aR 2), .ref (aR 3), .ref (aR 4), .int q_hasImage, .int q_place, .int q_rowAt, .int q_rowEnd, .ref (aR 5), .ref (aR 6), .int q_seed, .ref (aR 7), .ref (aR 8), .ref (aR 9), .ref (aR 10), .ref (aR 11), .ref (aR 12), .int q_thrown])), ((aR 7), .inl (cI, 8, .inl q_kept)), ((aR 10), .inl (cI, 8, .inl q_sort))]
theorem kdS_X12_isShelf : yX12_isShelf.cls ≠ "java/lang/invoke/MethodHandle" ∧ yX12_isShelf.cls ≠ "java/lang/invoke/VarHandle" ∧ (parseMethodDescriptor yX12_isShelf.desc).map (fun d => d.parameters.length) = some 1 := by decide +kernel
abbrev rm_X12_wrongRow : Room := { frames := 2, cells := 0, slots := 0, locals := 42 }
set_option maxHeartbeats 4000000 in
set_option maxRecDepth 100000 in
theorem c_MD_wrongRow (l : Launch) (D : va_G) (cI cM cS cJ : ClassId) (aR : Nat → Nat) (sz : Nat) (x1 : Int32) (x2 : Int32) (q_hasImage : Int32) (q_place : Int32) (q_rowAt : Int32) (q_rowEnd : Int32) (q_seed : Int32) (q_thrown : Int32) (q_kept : Nat → Int32) (q_sort : Nat → Int32) {o : (Int32)} (hsem : S_MD_wrongRow x1 x2 q_kept q_sort = some o) : kMet l yX12_wrongRow wsX12_wrongRow rm_X12_wrongRow [.ref (aR 0), .int x1, .int x2] D (kT cI cM cS cJ) (Wd45 cI aR q_hasImage q_place q_rowAt q_rowEnd q_seed q_thrown q_kept q_sort) sz (some (.int o)) (Wd45 cI aR q_hasImage q_place q_rowAt q_rowEnd q_seed q_thrown q_kept q_sort) := by
  refine k_metI (by decide) rfl rfl (Nat.le_of_ble_eq_true rfl) ?_
  intro p e s m below meth c ls Q A hx hb hml hts hown hK hN hA hP hD hS hl hsz hnm hret
  have hown : s.vm.findClass RX12 = some m.cls := hown
  have hf28 := hts (.fieldLink RX12 28 "PlumbLineModel" "kept" "[I") (List.mem_of_getElem? (i := 1) rfl)
  have hf37 := hts (.fieldLink RX12 37 "PlumbLineModel" "sort" "[I") (List.mem_of_getElem? (i := 2) rfl)
  have hiX12 : ∀ w ∈ u_ws RX12 TX12 18, w ∈ wsX12_wrongRow := fun w h => List.mem_cons_of_mem _ (List.mem_append_right _ h)
  replace hl : lv_has ls 3 [(0, .ref (aR 0)), (1, .int x1), (2, .int x2)] := hl
  have h := hsem
  clear hsem
  rw [S_MD_wrongRow] at h
  refine lv_iload_n hx hb dX12_wrongRow_0 rfl (lv_at hl 1 rfl) ?_
  obtain ⟨r1, g1, h⟩ := k_bind h
  refine k_callS (As := [.int x1]) (rest := []) (st1 := [.int r1]) (ws2 := (Wd45 cI aR q_hasImage q_place q_rowAt q_rowEnd q_seed q_thrown q_kept q_sort)) hx hb hml hown hts hK hN hA hP hD hS hl (c_MD_isShelf l D cI cM cS cJ s.heap.size x1 g1) gX12_wrongRow_X12_isShelf rfl kdS_X12_isShelf [] ⟨rfl, rfl⟩ ⟨Nat.le_of_ble_eq_true rfl, Nat.le_of_ble_eq_true rfl⟩ ⟨Nat.zero_le _, Nat.zero_le _⟩ rfl rfl (by decide +kernel) (k_rp rfl (by decide +kernel)) rfl rfl (Nat.le_of_ble_eq_true rfl) dX12_wrongRow_1 rfl (fun H locs hP hD hS => ?_)
  refine lv_if_ne (tgt := 11) hx hb dX12_wrongRow_4 (by decide) (fun c4 => ?_) (fun c4 => ?_)
  · have h := k_neg c4 h
    refine lv_aload_n hx hb dX12_wrongRow_11 rfl (lv_at hl 0 rfl) ?_
    refine va_get (D := D) (ci := 12) (v := .ref (aR 7)) (C := RX12) (T := TX12) (N := 18) hx hb hts hiX12 hown hK hP 0 rfl rfl 11 (by decide) hf28 (fun _ z => z) rfl dX12_wrongRow_12 ?_
    refine lv_iload_n hx hb dX12_wrongRow_15 rfl (lv_at hl 1 rfl) ?_
    obtain ⟨g16, h⟩ := k_guard h
    refine va_iald hx hb hK hP 1 0 rfl rfl g16 dX12_wrongRow_16 ?_
    refine lv_if_ne (tgt := 25) hx hb dX12_wrongRow_17 (by decide) (fun c17 => ?_) (fun c17 => ?_)
    · have h := k_neg c17 h
      refine lv_aload_n hx hb dX12_wrongRow_25 rfl (lv_at hl 0 rfl) ?_
      refine va_get (D := D) (ci := 12) (v := .ref (aR 7)) (C := RX12) (T := TX12) (N := 18) hx hb hts hiX12 hown hK hP 0 rfl rfl 11 (by decide) hf28 (fun _ z => z) rfl dX12_wrongRow_26 ?_
      refine lv_iload_n hx hb dX12_wrongRow_29 rfl (lv_at hl 1 rfl) ?_
      refine va_iald hx hb hK hP 1 0 rfl rfl g16 dX12_wrongRow_30 ?_
      refine lv_iconst (v := 2) hx hb dX12_wrongRow_31 (by decide) ?_
      refine lv_icmp_ne (tgt := 49) hx hb dX12_wrongRow_32 (by decide) (fun c32 => ?_) (fun c32 => ?_)
      · have h := k_neg c32 h
        refine lv_bipush (v := (-12)) hx hb dX12_wrongRow_49 (by decide) ?_
        refine lv_goto (tgt := 55) hx hb dX12_wrongRow_51 (by decide) ?_
        have h := Option.some.inj h; subst h
        exact hret _ _ _ _ hP hS dX12_wrongRow_55
      · have h := k_pos c32 h
        refine lv_iload_n hx hb dX12_wrongRow_35 rfl (lv_at hl 2 rfl) ?_
        refine lv_if_lt (tgt := 54) hx hb dX12_wrongRow_36 (by decide) (fun c36 => ?_) (fun c36 => ?_)
        · have h := k_pos c36 h
          refine lv_iconst (v := 0) hx hb dX12_wrongRow_54 (by decide) ?_
          have h := Option.some.inj h; subst h
          exact hret _ _ _ _ hP hS dX12_wrongRow_55
        · have h := k_neg c36 h
          refine lv_aload_n hx hb dX12_wrongRow_39 rfl (lv_at hl 0 rfl) ?_
          refine va_get (D := D) (ci := 12) (v := .ref (aR 10)) (C := RX12) (T := TX12) (N := 18) hx hb hts hiX12 hown hK hP 0 rfl rfl 14 (by decide) hf37 (fun _ z => z) rfl dX12_wrongRow_40 ?_
          refine lv_iload_n hx hb dX12_wrongRow_43 rfl (lv_at hl 1 rfl) ?_
          refine va_iald hx hb hK hP 2 0 rfl rfl g16 dX12_wrongRow_44 ?_
          refine lv_iload_n hx hb dX12_wrongRow_45 rfl (lv_at hl 2 rfl) ?_
          refine lv_icmp_eq (tgt := 54) hx hb dX12_wrongRow_46 (by decide) (fun c46 => ?_) (fun c46 => ?_)
          · have h := k_pos c46 h
            refine lv_iconst (v := 0) hx hb dX12_wrongRow_54 (by decide) ?_
            have h := Option.some.inj h; subst h
            exact hret _ _ _ _ hP hS dX12_wrongRow_55
          · have h := k_neg c46 h
            refine lv_bipush (v := (-12)) hx hb dX12_wrongRow_49 (by decide) ?_
            refine lv_goto (tgt := 55) hx hb dX12_wrongRow_51 (by decide) ?_
            have h := Option.some.inj h; subst h
            exact hret _ _ _ _ hP hS dX12_wrongRow_55
    · have h := k_pos c17 h
      refine lv_bipush (v := (-11)) hx hb dX12_wrongRow_20 (by decide) ?_
      refine lv_goto (tgt := 55) hx hb dX12_wrongRow_22 (by decide) ?_
      have h := Option.some.inj h; subst h
      exact hret _ _ _ _ hP hS dX12_wrongRow_55
  · have h := k_pos c4 h
    refine lv_iconst (v := (-1)) hx hb dX12_wrongRow_7 (by decide) ?_
    refine lv_goto (tgt := 55) hx hb dX12_wrongRow_8 (by decide) ?_
    have h := Option.some.inj h; subst h
    exact hret _ _ _ _ hP hS dX12_wrongRow_55
abbrev Wd46 (cI : ClassId) (aR : Nat → Nat) (q_hasImage : Int32) (q_place : Int32) (q_rowAt : Int32) (q_rowEnd : Int32) (q_seed : Int32) (q_thrown : Int32) (q_s : Nat → Int32) (q_was : Nat → Int32) (q_numbers : Nat → Int32) (q_kept : Nat → Int32) (q_sort : Nat → Int32) (q_size : Nat → Int32) (q_element : Nat → Int32) : va_W := [((aR 0), .inr (12, [.ref (aR 1), .ref (aR 2), .ref (aR 3), .ref (aR 4), .int q_hasImage, .int q_place, .int q_rowAt, .int q_rowEnd, .ref (aR 5), .ref (aR 6), .int q_seed, .ref (aR 7), .ref (aR 8), .ref (aR 9), .ref (aR 10), .ref (aR 11), .ref (aR 12), .int q_thrown])), ((aR 1), .inl (cI, 37, .inl q_s)), ((aR 4), .inl (cI, 37, .inl q_was)), ((aR 5), .inl (cI, 3, .inl q_numbers)), ((aR 7), .inl (cI, 8, .inl q_kept)), ((aR 10), .inl (cI, 8, .inl q_sort)), ((aR 11), .inl (cI, 8, .inl q_size)), ((aR 12), .inl (cI, 800, .inl q_element))]
theorem kdV_X12_wrongRow : yX12_wrongRow.cls = RX12 ∧ yX12_wrongRow.cls ≠ "java/lang/invoke/MethodHandle" ∧ yX12_wrongRow.cls ≠ "java/lang/invoke/VarHandle" ∧ (parseMethodDescriptor yX12_wrongRow.desc).map (fun d => d.parameters.length) = some 2 := by decide +kernel
theorem kdV_X12_readsStatement : yX12_readsStatement.cls = RX12 ∧ yX12_readsStatement.cls ≠ "java/lang/invoke/MethodHandle" ∧ yX12_readsStatement.cls ≠ "java/lang/invoke/VarHandle" ∧ (parseMethodDescriptor yX12_readsStatement.desc).map (fun d => d.parameters.length) = some 0 := by decide +kernel
theorem kdS_X12_copies : yX12_copies.cls ≠ "java/lang/invoke/MethodHandle" ∧ yX12_copies.cls ≠ "java/lang/invoke/VarHandle" ∧ (parseMethodDescriptor yX12_copies.desc).map (fun d => d.parameters.length) = some 2 := by decide +kernel
theorem kdV_X12_isDone : yX12_isDone.cls = RX12 ∧ yX12_isDone.cls ≠ "java/lang/invoke/MethodHandle" ∧ yX12_isDone.cls ≠ "java/lang/invoke/VarHandle" ∧ (parseMethodDescriptor yX12_isDone.desc).map (fun d => d.parameters.length) = some 1 := by decide +kernel
abbrev rm_X12_city : Room := { frames := 6, cells := 0, slots := 0, locals := 135 }
set_option maxHeartbeats 4000000 in
set_option maxRecDepth 100000 in
theorem c_MD_city (l : Launch) (D : va_G) (cI cM cS cJ : ClassId) (aR : Nat → Nat) (sz : Nat) (x1 : Int32) (q_hasImage : Int32) (q_place : Int32) (q_rowAt : Int32) (q_rowEnd : Int32) (q_seed : Int32) (q_thrown : Int32) (q_s : Nat → Int32) (q_was : Nat → Int32) (q_numbers : Nat → Int32) (q_kept : Nat → Int32) (q_sort : Nat → Int32) (q_size : Nat → Int32) (q_element : Nat → Int32) {o : (Int32) × (Int32) × (Int32) × (Int32) × (Nat → Int32) × (Nat → Int32) × (Nat → Int32)} (hsem : S_MD_city x1 q_place q_rowAt q_rowEnd q_s q_was q_numbers q_kept q_sort q_size q_element = some o) : kMet l yX12_city wsX12_city rm_X12_city [.ref (aR 0), .int x1] D (kT cI cM cS cJ) (Wd46 cI aR q_hasImage q_place q_rowAt q_rowEnd q_seed q_thrown q_s q_was q_numbers q_kept q_sort q_size q_element) sz (some (.int o.1)) (Wd46 cI aR q_hasImage o.2.1 o.2.2.1 o.2.2.2.1 q_seed q_thrown o.2.2.2.2.1 o.2.2.2.2.2.1 o.2.2.2.2.2.2 q_kept q_sort q_size q_element) := by
  refine k_metI (by decide) rfl rfl (Nat.le_of_ble_eq_true rfl) ?_
  intro p e s m below meth c ls Q A hx hb hml hts hown hK hN hA hP hD hS hl hsz hnm hret
  have hown : s.vm.findClass RX12 = some m.cls := hown
  have hf119 := hts (.fieldLink RX12 119 "PlumbLineModel" "rowAt" "I") (List.mem_of_getElem? (i := 1) rfl)
  have hf40 := hts (.fieldLink RX12 40 "PlumbLineModel" "size" "[I") (List.mem_of_getElem? (i := 2) rfl)
  have hf116 := hts (.fieldLink RX12 116 "PlumbLineModel" "rowEnd" "I") (List.mem_of_getElem? (i := 3) rfl)
  have hf112 := hts (.fieldLink RX12 112 "PlumbLineModel" "place" "I") (List.mem_of_getElem? (i := 4) rfl)
  have hf9 := hts (.fieldLink RX12 9 "PlumbLineModel" "s" "[I") (List.mem_of_getElem? (i := 5) rfl)
  have hf19 := hts (.fieldLink RX12 19 "PlumbLineModel" "was" "[I") (List.mem_of_getElem? (i := 6) rfl)
  have hiX12 : ∀ w ∈ u_ws RX12 TX12 18, w ∈ wsX12_city := fun w h => List.mem_cons_of_mem _ (List.mem_append_right _ h)
  replace hl : lv_has ls 8 [(0, .ref (aR 0)), (1, .int x1)] := hl
  have h := hsem
  clear hsem
  rw [S_MD_city] at h
  refine lv_aload_n hx hb dX12_city_0 rfl (lv_at hl 0 rfl) ?_
  refine lv_iload_n hx hb dX12_city_1 rfl (lv_at hl 1 rfl) ?_
  refine lv_iconst (v := 0) hx hb dX12_city_2 (by decide) ?_
  obtain ⟨r3, g3, h⟩ := k_bind h
  refine k_callV (As := [.int x1, .int 0]) (rest := []) (st1 := [.int r3]) (ws2 := (Wd46 cI aR q_hasImage q_place q_rowAt q_rowEnd q_seed q_thrown q_s q_was q_numbers q_kept q_sort q_size q_element)) hx hb hml hown hts hK hN hA hP hD hS hl (c_MD_wrongRow l D cI cM cS cJ aR s.heap.size x1 0 q_hasImage q_place q_rowAt q_rowEnd q_seed q_thrown q_kept q_sort g3) gX12_city_X12_wrongRow rfl kdV_X12_wrongRow 0 12 rfl rfl rfl [0, 4, 5] ⟨rfl, rfl⟩ ⟨Nat.le_of_ble_eq_true rfl, Nat.le_of_ble_eq_true rfl⟩ ⟨Nat.zero_le _, Nat.zero_le _⟩ rfl rfl (by decide +kernel) (k_rp rfl (by decide +kernel)) rfl rfl (Nat.le_of_ble_eq_true rfl) dX12_city_3 rfl (fun H locs hP hD hS => ?_)
  refine lv_istore_n (lv' := [(2, .int r3), (0, .ref (aR 0)), (1, .int x1)]) hx hb dX12_city_6 rfl hl (by decide) rfl (fun ls hl => ?_)
  refine lv_iload_n hx hb dX12_city_7 rfl (lv_at hl 0 rfl) ?_
  refine lv_if_eq (tgt := 13) hx hb dX12_city_8 (by decide) (fun c8 => ?_) (fun c8 => ?_)
  · have h := k_pos c8 h
    refine lv_aload_n hx hb dX12_city_13 rfl (lv_at hl 1 rfl) ?_
    refine lv_bipush (v := 100) hx hb dX12_city_14 (by decide) ?_
    refine lv_iload_n hx hb dX12_city_16 rfl (lv_at hl 2 rfl) ?_
    refine lv_imul hx hb dX12_city_17 ?_
    refine va_put (D := D) (ci := 12) (v := .int ((100 : Int32) * x1)) (ty := .int) (C := RX12) (T := TX12) (N := 18) hx hb hts hiX12 tyX12 tyX12_ok nmX12 hown hK hP hD hS 0 rfl rfl 6 (by decide) hf119 (fun _ z => z) rfl (by decide +kernel) rfl rfl (Nat.le_of_ble_eq_true rfl) dX12_city_18 (fun H locs hP hD hS => ?_)
    replace hP : va_P D vwCl (Wd46 cI aR q_hasImage q_place ((100 : Int32) * x1) q_rowEnd q_seed q_thrown q_s q_was q_numbers q_kept q_sort q_size q_element) H := hP
    replace hD : va_D A (Wd46 cI aR q_hasImage q_place ((100 : Int32) * x1) q_rowEnd q_seed q_thrown q_s q_was q_numbers q_kept q_sort q_size q_element) := hD
    refine lv_aload_n hx hb dX12_city_21 rfl (lv_at hl 1 rfl) ?_
    refine lv_aload_n hx hb dX12_city_22 rfl (lv_at hl 1 rfl) ?_
    refine va_get (D := D) (ci := 12) (v := .ref (aR 11)) (C := RX12) (T := TX12) (N := 18) hx hb hts hiX12 hown hK hP 0 rfl rfl 15 (by decide) hf40 (fun _ z => z) rfl dX12_city_23 ?_
    refine lv_iload_n hx hb dX12_city_26 rfl (lv_at hl 2 rfl) ?_
    obtain ⟨g27, h⟩ := k_guard h
    refine va_iald hx hb hK hP 6 0 rfl rfl g27 dX12_city_27 ?_
    refine va_put (D := D) (ci := 12) (v := .int (q_size x1.toNatClampNeg)) (ty := .int) (C := RX12) (T := TX12) (N := 18) hx hb hts hiX12 tyX12 tyX12_ok nmX12 hown hK hP hD hS 0 rfl rfl 7 (by decide) hf116 (fun _ z => z) rfl (by decide +kernel) rfl rfl (Nat.le_of_ble_eq_true rfl) dX12_city_28 (fun H locs hP hD hS => ?_)
    replace hP : va_P D vwCl (Wd46 cI aR q_hasImage q_place ((100 : Int32) * x1) (q_size x1.toNatClampNeg) q_seed q_thrown q_s q_was q_numbers q_kept q_sort q_size q_element) H := hP
    replace hD : va_D A (Wd46 cI aR q_hasImage q_place ((100 : Int32) * x1) (q_size x1.toNatClampNeg) q_seed q_thrown q_s q_was q_numbers q_kept q_sort q_size q_element) := hD
    refine lv_aload_n hx hb dX12_city_31 rfl (lv_at hl 1 rfl) ?_
    refine lv_iconst (v := 0) hx hb dX12_city_32 (by decide) ?_
    refine va_put (D := D) (ci := 12) (v := .int 0) (ty := .int) (C := RX12) (T := TX12) (N := 18) hx hb hts hiX12 tyX12 tyX12_ok nmX12 hown hK hP hD hS 0 rfl rfl 5 (by decide) hf112 (fun _ z => z) rfl (by decide +kernel) rfl rfl (Nat.le_of_ble_eq_true rfl) dX12_city_33 (fun H locs hP hD hS => ?_)
    replace hP : va_P D vwCl (Wd46 cI aR q_hasImage 0 ((100 : Int32) * x1) (q_size x1.toNatClampNeg) q_seed q_thrown q_s q_was q_numbers q_kept q_sort q_size q_element) H := hP
    replace hD : va_D A (Wd46 cI aR q_hasImage 0 ((100 : Int32) * x1) (q_size x1.toNatClampNeg) q_seed q_thrown q_s q_was q_numbers q_kept q_sort q_size q_element) := hD
    refine lv_iconst (v := 0) hx hb dX12_city_36 (by decide) ?_
    refine lv_istore_n (lv' := [(3, .int 0), (2, .int r3), (0, .ref (aR 0)), (1, .int x1)]) hx hb dX12_city_37 rfl hl (by decide) rfl (fun ls hl => ?_)
    refine lv_iconst (v := 0) hx hb dX12_city_38 (by decide) ?_
    have B41 : ∀ (q_rowAt : Int32) (q_rowEnd : Int32) (q_s : Nat → Int32) (q_was : Nat → Int32) (n41 : Nat) (y3 : Int32) (y4 : Int32) (q_place : Int32) (q_numbers : Nat → Int32) (H : Heap) (locs : List Loc) (ls : Array Slot), va_P D vwCl (Wd46 cI aR q_hasImage q_place q_rowAt q_rowEnd q_seed q_thrown q_s q_was q_numbers q_kept q_sort q_size q_element) H → va_D A (Wd46 cI aR q_hasImage q_place q_rowAt q_rowEnd q_seed q_thrown q_s q_was q_numbers q_kept q_sort q_size q_element) → va_S A s.heap H locs → lv_has ls 8 [(0, .ref (aR 0)), (3, .int y3), (4, .int y4)] → S_MD_city_L41 q_element q_rowAt q_rowEnd q_s q_was n41 y3 y4 q_place q_numbers = some o → W p l e rm_X12_city s m ([.ref (aR 0), .int x1] : List Value).toArray below meth c H locs 0 0 Q (F0 m 41 ls []) := by
      intro q_rowAt q_rowEnd q_s q_was
      intro n41
      induction n41 with
      | zero => intro y3 y4 q_place q_numbers H locs ls hP hD hS hl h; exact absurd h (by simp [S_MD_city_L41])
      | succ n41 ih41 =>
        intro y3 y4 q_place q_numbers H locs ls hP hD hS hl h
        rw [S_MD_city_L41] at h
        refine lv_aload_n hx hb dX12_city_41 rfl (lv_at hl 0 rfl) ?_
        obtain ⟨r42, g42, h⟩ := k_bind h
        refine k_callV (As := []) (rest := []) (st1 := [.int r42.1]) (ws2 := (Wd46 cI aR q_hasImage r42.2.1 q_rowAt q_rowEnd q_seed q_thrown q_s q_was r42.2.2 q_kept q_sort q_size q_element)) hx hb hml hown hts hK hN hA hP hD hS hl (c_MD_readsStatement l D cI cM cS cJ aR H.size q_hasImage q_place q_rowAt q_rowEnd q_seed q_thrown q_numbers q_element g42) gX12_city_X12_readsStatement rfl kdV_X12_readsStatement 0 12 rfl rfl rfl [0, 3, 7] ⟨rfl, rfl⟩ ⟨Nat.le_of_ble_eq_true rfl, Nat.le_of_ble_eq_true rfl⟩ ⟨Nat.zero_le _, Nat.zero_le _⟩ rfl rfl (by decide +kernel) (k_rp rfl (by decide +kernel)) rfl rfl (Nat.le_of_ble_eq_true rfl) dX12_city_42 rfl (fun H locs hP hD hS => ?_)
        have B58 : ∀ (y3 : Int32) (y4 : Int32) (q_place : Int32) (q_numbers : Nat → Int32) (H : Heap) (locs : List Loc) (ls : Array Slot), va_P D vwCl (Wd46 cI aR q_hasImage q_place q_rowAt q_rowEnd q_seed q_thrown q_s q_was q_numbers q_kept q_sort q_size q_element) H → va_D A (Wd46 cI aR q_hasImage q_place q_rowAt q_rowEnd q_seed q_thrown q_s q_was q_numbers q_kept q_sort q_size q_element) → va_S A s.heap H locs → lv_has ls 8 [(0, .ref (aR 0)), (3, .int y3), (4, .int y4)] → S_MD_city_J58 (S_MD_city_L41 q_element q_rowAt q_rowEnd q_s q_was n41) y3 y4 q_rowAt q_rowEnd q_s q_was q_element q_place q_numbers = some o → W p l e rm_X12_city s m ([.ref (aR 0), .int x1] : List Value).toArray below meth c H locs 0 0 Q (F0 m 58 ls []) := by
          intro y3 y4 q_place q_numbers H locs ls hP hD hS hl h
          rw [S_MD_city_J58] at h
          refine lv_iinc (v := (y3 + 1)) (lv' := [(3, .int (y3 + 1)), (0, .ref (aR 0)), (4, .int y4)]) hx hb dX12_city_58 hl (k := 1) rfl (by first | rfl | decide) (by decide) rfl (fun ls hl => ?_)
          refine lv_iload hx hb dX12_city_61 (lv_at hl 2 rfl) ?_
          have B77 : ∀ (y3 : Int32) (y4 : Int32) (q_place : Int32) (q_rowAt : Int32) (q_rowEnd : Int32) (q_s : Nat → Int32) (q_was : Nat → Int32) (q_numbers : Nat → Int32) (H : Heap) (locs : List Loc) (ls : Array Slot), va_P D vwCl (Wd46 cI aR q_hasImage q_place q_rowAt q_rowEnd q_seed q_thrown q_s q_was q_numbers q_kept q_sort q_size q_element) H → va_D A (Wd46 cI aR q_hasImage q_place q_rowAt q_rowEnd q_seed q_thrown q_s q_was q_numbers q_kept q_sort q_size q_element) → va_S A s.heap H locs → lv_has ls 8 [(0, .ref (aR 0)), (3, .int y3), (4, .int y4)] → S_MD_city_J77 y3 y4 q_element q_rowAt q_rowEnd q_s q_was q_numbers = some o → W p l e rm_X12_city s m ([.ref (aR 0), .int x1] : List Value).toArray below meth c H locs 0 0 Q (F0 m 77 ls []) := by
            intro y3 y4 q_place q_rowAt q_rowEnd q_s q_was q_numbers H locs ls hP hD hS hl h
            rw [S_MD_city_J77] at h
            refine lv_aload_n hx hb dX12_city_77 rfl (lv_at hl 0 rfl) ?_
            refine va_get (D := D) (ci := 12) (v := .ref (aR 1)) (C := RX12) (T := TX12) (N := 18) hx hb hts hiX12 hown hK hP 0 rfl rfl 0 (by decide) hf9 (fun _ z => z) rfl dX12_city_78 ?_
            refine lv_aload_n hx hb dX12_city_81 rfl (lv_at hl 0 rfl) ?_
            refine va_get (D := D) (ci := 12) (v := .ref (aR 4)) (C := RX12) (T := TX12) (N := 18) hx hb hts hiX12 hown hK hP 0 rfl rfl 3 (by decide) hf19 (fun _ z => z) rfl dX12_city_82 ?_
            obtain ⟨r85, g85, h⟩ := k_bind h
            refine k_callS (As := [.ref (aR 1), .ref (aR 4)]) (rest := []) (st1 := []) (ws2 := (Wd46 cI aR q_hasImage q_place q_rowAt q_rowEnd q_seed q_thrown q_s r85 q_numbers q_kept q_sort q_size q_element)) hx hb hml hown hts hK hN hA hP hD hS hl (c_MD_copies l D cI cM cS cJ (aR 1) (aR 4) H.size q_s q_was g85) gX12_city_X12_copies rfl kdS_X12_copies [1, 2] ⟨rfl, rfl⟩ ⟨Nat.le_of_ble_eq_true rfl, Nat.le_of_ble_eq_true rfl⟩ ⟨Nat.zero_le _, Nat.zero_le _⟩ rfl rfl (by decide +kernel) (k_rp rfl (by decide +kernel)) rfl rfl (Nat.le_of_ble_eq_true rfl) dX12_city_85 rfl (fun H locs hP hD hS => ?_)
            refine lv_aload_n hx hb dX12_city_88 rfl (lv_at hl 0 rfl) ?_
            refine lv_iconst (v := 0) hx hb dX12_city_89 (by decide) ?_
            have B93 : ∀ (y3 : Int32) (q_rowAt : Int32) (q_rowEnd : Int32) (q_was : Nat → Int32) (n93 : Nat) (y4 : Int32) (q_place : Int32) (q_s : Nat → Int32) (q_numbers : Nat → Int32) (H : Heap) (locs : List Loc) (ls : Array Slot), va_P D vwCl (Wd46 cI aR q_hasImage q_place q_rowAt q_rowEnd q_seed q_thrown q_s q_was q_numbers q_kept q_sort q_size q_element) H → va_D A (Wd46 cI aR q_hasImage q_place q_rowAt q_rowEnd q_seed q_thrown q_s q_was q_numbers q_kept q_sort q_size q_element) → va_S A s.heap H locs → lv_has ls 8 [(0, .ref (aR 0)), (3, .int y3), (4, .int y4)] → S_MD_city_L93 y3 q_element q_rowAt q_rowEnd q_was n93 y4 q_place q_s q_numbers = some o → W p l e rm_X12_city s m ([.ref (aR 0), .int x1] : List Value).toArray below meth c H locs 0 0 Q (F0 m 93 ls []) := by
              intro y3 q_rowAt q_rowEnd q_was
              intro n93
              induction n93 with
              | zero => intro y4 q_place q_s q_numbers H locs ls hP hD hS hl h; exact absurd h (by simp [S_MD_city_L93])
              | succ n93 ih93 =>
                intro y4 q_place q_s q_numbers H locs ls hP hD hS hl h
                rw [S_MD_city_L93] at h
                refine lv_iload hx hb dX12_city_93 (lv_at hl 2 rfl) ?_
                refine lv_if_ne (tgt := 161) hx hb dX12_city_95 (by decide) (fun c95 => ?_) (fun c95 => ?_)
                · have h := k_neg c95 h
                  refine lv_iload hx hb dX12_city_161 (lv_at hl 2 rfl) ?_
                  refine lv_if_ne (tgt := 170) hx hb dX12_city_163 (by decide) (fun c163 => ?_) (fun c163 => ?_)
                  · have h := k_neg c163 h
                    refine lv_iload hx hb dX12_city_170 (lv_at hl 2 rfl) ?_
                    have h := Option.some.inj h; subst h
                    exact hret _ _ _ _ hP hS dX12_city_172
                  · have h := k_pos c163 h
                    refine lv_iload_n hx hb dX12_city_166 rfl (lv_at hl 1 rfl) ?_
                    refine lv_goto (tgt := 172) hx hb dX12_city_167 (by decide) ?_
                    have h := Option.some.inj h; subst h
                    exact hret _ _ _ _ hP hS dX12_city_172
                · have h := k_pos c95 h
                  refine lv_aload_n hx hb dX12_city_98 rfl (lv_at hl 0 rfl) ?_
                  refine va_get (D := D) (ci := 12) (v := .int q_place) (C := RX12) (T := TX12) (N := 18) hx hb hts hiX12 hown hK hP 0 rfl rfl 5 (by decide) hf112 (fun _ z => z) rfl dX12_city_99 ?_
                  refine lv_aload_n hx hb dX12_city_102 rfl (lv_at hl 0 rfl) ?_
                  refine va_get (D := D) (ci := 12) (v := .int q_rowEnd) (C := RX12) (T := TX12) (N := 18) hx hb hts hiX12 hown hK hP 0 rfl rfl 7 (by decide) hf116 (fun _ z => z) rfl dX12_city_103 ?_
                  refine lv_icmp_ge (tgt := 161) hx hb dX12_city_106 (by decide) (fun c106 => ?_) (fun c106 => ?_)
                  · have h := k_pos c106 h
                    refine lv_iload hx hb dX12_city_161 (lv_at hl 2 rfl) ?_
                    refine lv_if_ne (tgt := 170) hx hb dX12_city_163 (by decide) (fun c163 => ?_) (fun c163 => ?_)
                    · have h := k_neg c163 h
                      refine lv_iload hx hb dX12_city_170 (lv_at hl 2 rfl) ?_
                      have h := Option.some.inj h; subst h
                      exact hret _ _ _ _ hP hS dX12_city_172
                    · have h := k_pos c163 h
                      refine lv_iload_n hx hb dX12_city_166 rfl (lv_at hl 1 rfl) ?_
                      refine lv_goto (tgt := 172) hx hb dX12_city_167 (by decide) ?_
                      have h := Option.some.inj h; subst h
                      exact hret _ _ _ _ hP hS dX12_city_172
                  · have h := k_neg c106 h
                    refine lv_aload_n hx hb dX12_city_109 rfl (lv_at hl 0 rfl) ?_
                    refine va_get (D := D) (ci := 12) (v := .int q_place) (C := RX12) (T := TX12) (N := 18) hx hb hts hiX12 hown hK hP 0 rfl rfl 5 (by decide) hf112 (fun _ z => z) rfl dX12_city_110 ?_
                    refine lv_istore (lv' := [(5, .int q_place), (0, .ref (aR 0)), (3, .int y3), (4, .int y4)]) hx hb dX12_city_113 hl (by decide) rfl (fun ls hl => ?_)
                    refine lv_aload_n hx hb dX12_city_115 rfl (lv_at hl 1 rfl) ?_
                    obtain ⟨r116, g116, h⟩ := k_bind h
                    refine k_callV (As := []) (rest := []) (st1 := [.int r116]) (ws2 := (Wd46 cI aR q_hasImage q_place q_rowAt q_rowEnd q_seed q_thrown q_s q_was q_numbers q_kept q_sort q_size q_element)) hx hb hml hown hts hK hN hA hP hD hS hl (c_MD_here l D cI cM cS cJ aR H.size q_hasImage q_place q_rowAt q_rowEnd q_seed q_thrown q_element g116) gX12_city_X12_here rfl kdV_X12_here 0 12 rfl rfl rfl [0, 7] ⟨rfl, rfl⟩ ⟨Nat.le_of_ble_eq_true rfl, Nat.le_of_ble_eq_true rfl⟩ ⟨Nat.zero_le _, Nat.zero_le _⟩ rfl rfl (by decide +kernel) (k_rp rfl (by decide +kernel)) rfl rfl (Nat.le_of_ble_eq_true rfl) dX12_city_116 rfl (fun H locs hP hD hS => ?_)
                    refine lv_istore (lv' := [(6, .int r116), (5, .int q_place), (0, .ref (aR 0)), (3, .int y3), (4, .int y4)]) hx hb dX12_city_119 hl (by decide) rfl (fun ls hl => ?_)
                    refine lv_aload_n hx hb dX12_city_121 rfl (lv_at hl 2 rfl) ?_
                    obtain ⟨r122, g122, h⟩ := k_bind h
                    refine k_callV (As := []) (rest := []) (st1 := [.int r122.1]) (ws2 := (Wd46 cI aR q_hasImage r122.2.1 q_rowAt q_rowEnd q_seed q_thrown q_s q_was r122.2.2 q_kept q_sort q_size q_element)) hx hb hml hown hts hK hN hA hP hD hS hl (c_MD_readsStatement l D cI cM cS cJ aR H.size q_hasImage q_place q_rowAt q_rowEnd q_seed q_thrown q_numbers q_element g122) gX12_city_X12_readsStatement rfl kdV_X12_readsStatement 0 12 rfl rfl rfl [0, 3, 7] ⟨rfl, rfl⟩ ⟨Nat.le_of_ble_eq_true rfl, Nat.le_of_ble_eq_true rfl⟩ ⟨Nat.zero_le _, Nat.zero_le _⟩ rfl rfl (by decide +kernel) (k_rp rfl (by decide +kernel)) rfl rfl (Nat.le_of_ble_eq_true rfl) dX12_city_122 rfl (fun H locs hP hD hS => ?_)
                    refine lv_istore (lv' := [(7, .int r122.1), (6, .int r116), (5, .int q_place), (0, .ref (aR 0)), (3, .int y3), (4, .int y4)]) hx hb dX12_city_125 hl (by decide) rfl (fun ls hl => ?_)
                    refine lv_aload_n hx hb dX12_city_127 rfl (lv_at hl 3 rfl) ?_
                    refine lv_iload hx hb dX12_city_128 (lv_at hl 1 rfl) ?_
                    obtain ⟨r130, g130, h⟩ := k_bind h
                    refine k_callV (As := [.int r116]) (rest := []) (st1 := [.int r130.1]) (ws2 := (Wd46 cI aR q_hasImage r122.2.1 q_rowAt q_rowEnd q_seed q_thrown r130.2 q_was r122.2.2 q_kept q_sort q_size q_element)) hx hb hml hown hts hK hN hA hP hD hS hl (c_MD_isDone l D cI cM cS cJ aR H.size r116 q_hasImage r122.2.1 q_rowAt q_rowEnd q_seed q_thrown q_s r122.2.2 g130) gX12_city_X12_isDone rfl kdV_X12_isDone 0 12 rfl rfl rfl [0, 1, 3] ⟨rfl, rfl⟩ ⟨Nat.le_of_ble_eq_true rfl, Nat.le_of_ble_eq_true rfl⟩ ⟨Nat.zero_le _, Nat.zero_le _⟩ rfl rfl (by decide +kernel) (k_rp rfl (by decide +kernel)) rfl rfl (Nat.le_of_ble_eq_true rfl) dX12_city_130 rfl (fun H locs hP hD hS => ?_)
                    refine lv_if_eq (tgt := 139) hx hb dX12_city_133 (by decide) (fun c133 => ?_) (fun c133 => ?_)
                    · have h := k_pos c133 h
                      refine lv_sipush (v := (-2000)) hx hb dX12_city_139 (by decide) ?_
                      refine lv_iload hx hb dX12_city_142 (lv_at hl 2 rfl) ?_
                      refine lv_isub hx hb dX12_city_144 ?_
                      refine lv_istore (lv' := [(4, .int (((-2000) : Int32) - q_place)), (7, .int r122.1), (6, .int r116), (5, .int q_place), (0, .ref (aR 0)), (3, .int y3)]) hx hb dX12_city_145 hl (by decide) rfl (fun ls hl => ?_)
                      refine lv_aload_n hx hb dX12_city_147 rfl (lv_at hl 4 rfl) ?_
                      refine va_get (D := D) (ci := 12) (v := .ref (aR 4)) (C := RX12) (T := TX12) (N := 18) hx hb hts hiX12 hown hK hP 0 rfl rfl 3 (by decide) hf19 (fun _ z => z) rfl dX12_city_148 ?_
                      refine lv_aload_n hx hb dX12_city_151 rfl (lv_at hl 4 rfl) ?_
                      refine va_get (D := D) (ci := 12) (v := .ref (aR 1)) (C := RX12) (T := TX12) (N := 18) hx hb hts hiX12 hown hK hP 0 rfl rfl 0 (by decide) hf9 (fun _ z => z) rfl dX12_city_152 ?_
                      obtain ⟨r155, g155, h⟩ := k_bind h
                      refine k_callS (As := [.ref (aR 4), .ref (aR 1)]) (rest := []) (st1 := []) (ws2 := (Wd46 cI aR q_hasImage r122.2.1 q_rowAt q_rowEnd q_seed q_thrown r155 q_was r122.2.2 q_kept q_sort q_size q_element)) hx hb hml hown hts hK hN hA hP hD hS hl (c_MD_copies l D cI cM cS cJ (aR 4) (aR 1) H.size q_was r130.2 g155) gX12_city_X12_copies rfl kdS_X12_copies [2, 1] ⟨rfl, rfl⟩ ⟨Nat.le_of_ble_eq_true rfl, Nat.le_of_ble_eq_true rfl⟩ ⟨Nat.zero_le _, Nat.zero_le _⟩ rfl rfl (by decide +kernel) (k_rp rfl (by decide +kernel)) rfl rfl (Nat.le_of_ble_eq_true rfl) dX12_city_155 rfl (fun H locs hP hD hS => ?_)
                      refine lv_goto (tgt := 93) hx hb dX12_city_158 (by decide) ?_
                      exact ih93 (((-2000) : Int32) - q_place) r122.2.1 r155 r122.2.2 H locs ls hP hD hS (lv_sub hl [4, 5, 0] rfl) h
                    · have h := k_neg c133 h
                      refine lv_goto (tgt := 93) hx hb dX12_city_136 (by decide) ?_
                      exact ih93 y4 r122.2.1 r130.2 r122.2.2 H locs ls hP hD hS (lv_sub hl [3, 4, 5] rfl) h
            refine va_put (D := D) (ci := 12) (v := .int 0) (ty := .int) (C := RX12) (T := TX12) (N := 18) hx hb hts hiX12 tyX12 tyX12_ok nmX12 hown hK hP hD hS 0 rfl rfl 5 (by decide) hf112 (fun _ z => z) rfl (by decide +kernel) rfl rfl (Nat.le_of_ble_eq_true rfl) dX12_city_90 (fun H locs hP hD hS => ?_)
            replace hP : va_P D vwCl (Wd46 cI aR q_hasImage 0 q_rowAt q_rowEnd q_seed q_thrown q_s r85 q_numbers q_kept q_sort q_size q_element) H := hP
            replace hD : va_D A (Wd46 cI aR q_hasImage 0 q_rowAt q_rowEnd q_seed q_thrown q_s r85 q_numbers q_kept q_sort q_size q_element) := hD
            exact B93 y3 q_rowAt q_rowEnd r85 lfu y4 0 q_s q_numbers H locs ls hP hD hS hl h
          refine lv_if_ne (tgt := 77) hx hb dX12_city_63 (by decide) (fun c63 => ?_) (fun c63 => ?_)
          · have h := k_neg c63 h
            exact B77 (y3 + 1) y4 q_place q_rowAt q_rowEnd q_s q_was q_numbers H locs ls hP hD hS (lv_sub hl [1, 0, 2] rfl) h
          · have h := k_pos c63 h
            refine lv_aload_n hx hb dX12_city_66 rfl (lv_at hl 1 rfl) ?_
            refine va_get (D := D) (ci := 12) (v := .int q_place) (C := RX12) (T := TX12) (N := 18) hx hb hts hiX12 hown hK hP 0 rfl rfl 5 (by decide) hf112 (fun _ z => z) rfl dX12_city_67 ?_
            refine lv_aload_n hx hb dX12_city_70 rfl (lv_at hl 1 rfl) ?_
            refine va_get (D := D) (ci := 12) (v := .int q_rowEnd) (C := RX12) (T := TX12) (N := 18) hx hb hts hiX12 hown hK hP 0 rfl rfl 7 (by decide) hf116 (fun _ z => z) rfl dX12_city_71 ?_
            refine lv_icmp_lt (tgt := 41) hx hb dX12_city_74 (by decide) (fun c74 => ?_) (fun c74 => ?_)
            · have h := k_pos c74 h
              exact ih41 (y3 + 1) y4 q_place q_numbers H locs ls hP hD hS (lv_sub hl [1, 0, 2] rfl) h
            · have h := k_neg c74 h
              exact B77 (y3 + 1) y4 q_place q_rowAt q_rowEnd q_s q_was q_numbers H locs ls hP hD hS (lv_sub hl [1, 0, 2] rfl) h
        refine lv_if_ne (tgt := 58) hx hb dX12_city_45 (by decide) (fun c45 => ?_) (fun c45 => ?_)
        · have h := k_neg c45 h
          exact B58 y3 y4 r42.2.1 r42.2.2 H locs ls hP hD hS hl h
        · have h := k_pos c45 h
          refine lv_sipush (v := (-1000)) hx hb dX12_city_48 (by decide) ?_
          refine lv_aload_n hx hb dX12_city_51 rfl (lv_at hl 0 rfl) ?_
          refine va_get (D := D) (ci := 12) (v := .int r42.2.1) (C := RX12) (T := TX12) (N := 18) hx hb hts hiX12 hown hK hP 0 rfl rfl 5 (by decide) hf112 (fun _ z => z) rfl dX12_city_52 ?_
          refine lv_isub hx hb dX12_city_55 ?_
          refine lv_istore (lv' := [(4, .int (((-1000) : Int32) - r42.2.1)), (0, .ref (aR 0)), (3, .int y3)]) hx hb dX12_city_56 hl (by decide) rfl (fun ls hl => ?_)
          exact B58 y3 (((-1000) : Int32) - r42.2.1) r42.2.1 r42.2.2 H locs ls hP hD hS (lv_sub hl [1, 2, 0] rfl) h
    refine lv_istore (lv' := [(4, .int 0), (3, .int 0), (2, .int r3), (0, .ref (aR 0)), (1, .int x1)]) hx hb dX12_city_39 hl (by decide) rfl (fun ls hl => ?_)
    exact B41 ((100 : Int32) * x1) (q_size x1.toNatClampNeg) q_s q_was lfu 0 0 0 q_numbers H locs ls hP hD hS (lv_sub hl [3, 1, 0] rfl) h
  · have h := k_neg c8 h
    refine lv_iload_n hx hb dX12_city_11 rfl (lv_at hl 0 rfl) ?_
    have h := Option.some.inj h; subst h
    exact hret _ _ _ _ hP hS dX12_city_12
abbrev rm_X12_doesTrust : Room := { frames := 1, cells := 0, slots := 0, locals := 21 }
set_option maxHeartbeats 4000000 in
set_option maxRecDepth 100000 in
theorem c_MD_doesTrust (l : Launch) (D : va_G) (cI cM cS cJ : ClassId) (aR : Nat → Nat) (sz : Nat) (x1 : Int32) (x2 : Int32) (q_hasImage : Int32) (q_place : Int32) (q_rowAt : Int32) (q_rowEnd : Int32) (q_seed : Int32) (q_thrown : Int32) (q_s : Nat → Int32) {o : (Int32)} (hsem : S_MD_doesTrust x1 x2 q_s = some o) : kMet l yX12_doesTrust wsX12_doesTrust rm_X12_doesTrust [.ref (aR 0), .int x1, .int x2] D (kT cI cM cS cJ) (Wd40 cI aR q_hasImage q_place q_rowAt q_rowEnd q_seed q_thrown q_s) sz (some (.int o)) (Wd40 cI aR q_hasImage q_place q_rowAt q_rowEnd q_seed q_thrown q_s) := by
  refine k_metZ (by decide) rfl rfl (Nat.le_of_ble_eq_true rfl) ?_
  intro p e s m below meth c ls Q A hx hb hml hts hown hK hN hA hP hD hS hl hsz hnm hret
  have hown : s.vm.findClass RX12 = some m.cls := hown
  have hf9 := hts (.fieldLink RX12 9 "PlumbLineModel" "s" "[I") (List.mem_of_getElem? (i := 1) rfl)
  have hiX12 : ∀ w ∈ u_ws RX12 TX12 18, w ∈ wsX12_doesTrust := fun w h => List.mem_cons_of_mem _ (List.mem_append_right _ h)
  replace hl : lv_has ls 5 [(0, .ref (aR 0)), (1, .int x1), (2, .int x2)] := hl
  have h := hsem
  clear hsem
  rw [S_MD_doesTrust] at h
  refine lv_aload_n hx hb dX12_doesTrust_0 rfl (lv_at hl 0 rfl) ?_
  refine va_get (D := D) (ci := 12) (v := .ref (aR 1)) (C := RX12) (T := TX12) (N := 18) hx hb hts hiX12 hown hK hP 0 rfl rfl 0 (by decide) hf9 (fun _ z => z) rfl dX12_doesTrust_1 ?_
  refine lv_iload_n hx hb dX12_doesTrust_4 rfl (lv_at hl 1 rfl) ?_
  refine lv_iconst (v := 2) hx hb dX12_doesTrust_5 (by decide) ?_
  refine k_callS (As := [.int x1, .int 2]) (rest := [.ref (aR 1)]) (st1 := [.int (S_MD_of x1 2), .ref (aR 1)]) (ws2 := (Wd40 cI aR q_hasImage q_place q_rowAt q_rowEnd q_seed q_thrown q_s)) hx hb hml hown hts hK hN hA hP hD hS hl (c_MD_of l D cI cM cS cJ s.heap.size x1 2 rfl) gX12_doesTrust_X12_of rfl kdS_X12_of [] ⟨rfl, rfl⟩ ⟨Nat.le_of_ble_eq_true rfl, Nat.le_of_ble_eq_true rfl⟩ ⟨Nat.zero_le _, Nat.zero_le _⟩ rfl rfl (by decide +kernel) (k_rp rfl (by decide +kernel)) rfl rfl (Nat.le_of_ble_eq_true rfl) dX12_doesTrust_6 rfl (fun H locs hP hD hS => ?_)
  obtain ⟨g9, h⟩ := k_guard h
  refine va_iald hx hb hK hP 1 0 rfl rfl g9 dX12_doesTrust_9 ?_
  refine lv_istore_n (lv' := [(3, .int (q_s (S_MD_of x1 2).toNatClampNeg)), (0, .ref (aR 0)), (1, .int x1), (2, .int x2)]) hx hb dX12_doesTrust_10 rfl hl (by decide) rfl (fun ls hl => ?_)
  refine lv_aload_n hx hb dX12_doesTrust_11 rfl (lv_at hl 1 rfl) ?_
  refine va_get (D := D) (ci := 12) (v := .ref (aR 1)) (C := RX12) (T := TX12) (N := 18) hx hb hts hiX12 hown hK hP 0 rfl rfl 0 (by decide) hf9 (fun _ z => z) rfl dX12_doesTrust_12 ?_
  refine lv_iload_n hx hb dX12_doesTrust_15 rfl (lv_at hl 3 rfl) ?_
  refine lv_iconst (v := 2) hx hb dX12_doesTrust_16 (by decide) ?_
  refine k_callS (As := [.int x2, .int 2]) (rest := [.ref (aR 1)]) (st1 := [.int (S_MD_of x2 2), .ref (aR 1)]) (ws2 := (Wd40 cI aR q_hasImage q_place q_rowAt q_rowEnd q_seed q_thrown q_s)) hx hb hml hown hts hK hN hA hP hD hS hl (c_MD_of l D cI cM cS cJ H.size x2 2 rfl) gX12_doesTrust_X12_of rfl kdS_X12_of [] ⟨rfl, rfl⟩ ⟨Nat.le_of_ble_eq_true rfl, Nat.le_of_ble_eq_true rfl⟩ ⟨Nat.zero_le _, Nat.zero_le _⟩ rfl rfl (by decide +kernel) (k_rp rfl (by decide +kernel)) rfl rfl (Nat.le_of_ble_eq_true rfl) dX12_doesTrust_17 rfl (fun H locs hP hD hS => ?_)
  obtain ⟨g20, h⟩ := k_guard h
  refine va_iald hx hb hK hP 1 0 rfl rfl g20 dX12_doesTrust_20 ?_
  refine lv_istore (lv' := [(4, .int (q_s (S_MD_of x2 2).toNatClampNeg)), (3, .int (q_s (S_MD_of x1 2).toNatClampNeg)), (0, .ref (aR 0)), (1, .int x1), (2, .int x2)]) hx hb dX12_doesTrust_21 hl (by decide) rfl (fun ls hl => ?_)
  refine lv_iload_n hx hb dX12_doesTrust_23 rfl (lv_at hl 3 rfl) ?_
  refine lv_iload_n hx hb dX12_doesTrust_24 rfl (lv_at hl 4 rfl) ?_
  refine lv_icmp_eq (tgt := 59) hx hb dX12_doesTrust_25 (by decide) (fun c25 => ?_) (fun c25 => ?_)
  · have h := k_pos c25 h
    refine lv_iconst (v := 0) hx hb dX12_doesTrust_59 (by decide) ?_
    have h := Option.some.inj h; subst h
    exact hret _ _ _ _ rfl hP hS dX12_doesTrust_60
  · have h := k_neg c25 h
    refine lv_iload_n hx hb dX12_doesTrust_28 rfl (lv_at hl 1 rfl) ?_
    refine k_callS (As := [.int (q_s (S_MD_of x1 2).toNatClampNeg)]) (rest := []) (st1 := [.int (S_MD_signOf (q_s (S_MD_of x1 2).toNatClampNeg))]) (ws2 := (Wd40 cI aR q_hasImage q_place q_rowAt q_rowEnd q_seed q_thrown q_s)) hx hb hml hown hts hK hN hA hP hD hS hl (c_MD_signOf l D cI cM cS cJ H.size (q_s (S_MD_of x1 2).toNatClampNeg) rfl) gX12_doesTrust_X12_signOf rfl kdS_X12_signOf [] ⟨rfl, rfl⟩ ⟨Nat.le_of_ble_eq_true rfl, Nat.le_of_ble_eq_true rfl⟩ ⟨Nat.zero_le _, Nat.zero_le _⟩ rfl rfl (by decide +kernel) (k_rp rfl (by decide +kernel)) rfl rfl (Nat.le_of_ble_eq_true rfl) dX12_doesTrust_29 rfl (fun H locs hP hD hS => ?_)
    refine lv_iload hx hb dX12_doesTrust_32 (lv_at hl 0 rfl) ?_
    refine k_callS (As := [.int (q_s (S_MD_of x2 2).toNatClampNeg)]) (rest := [.int (S_MD_signOf (q_s (S_MD_of x1 2).toNatClampNeg))]) (st1 := [.int (S_MD_signOf (q_s (S_MD_of x2 2).toNatClampNeg)), .int (S_MD_signOf (q_s (S_MD_of x1 2).toNatClampNeg))]) (ws2 := (Wd40 cI aR q_hasImage q_place q_rowAt q_rowEnd q_seed q_thrown q_s)) hx hb hml hown hts hK hN hA hP hD hS hl (c_MD_signOf l D cI cM cS cJ H.size (q_s (S_MD_of x2 2).toNatClampNeg) rfl) gX12_doesTrust_X12_signOf rfl kdS_X12_signOf [] ⟨rfl, rfl⟩ ⟨Nat.le_of_ble_eq_true rfl, Nat.le_of_ble_eq_true rfl⟩ ⟨Nat.zero_le _, Nat.zero_le _⟩ rfl rfl (by decide +kernel) (k_rp rfl (by decide +kernel)) rfl rfl (Nat.le_of_ble_eq_true rfl) dX12_doesTrust_34 rfl (fun H locs hP hD hS => ?_)
    refine lv_icmp_ne (tgt := 59) hx hb dX12_doesTrust_37 (by decide) (fun c37 => ?_) (fun c37 => ?_)
    · have h := k_neg c37 h
      refine lv_iconst (v := 0) hx hb dX12_doesTrust_59 (by decide) ?_
      have h := Option.some.inj h; subst h
      exact hret _ _ _ _ rfl hP hS dX12_doesTrust_60
    · have h := k_pos c37 h
      refine lv_iload hx hb dX12_doesTrust_40 (lv_at hl 0 rfl) ?_
      refine k_callS (As := [.int (q_s (S_MD_of x2 2).toNatClampNeg)]) (rest := []) (st1 := [.int (S_MD_sized (q_s (S_MD_of x2 2).toNatClampNeg))]) (ws2 := (Wd40 cI aR q_hasImage q_place q_rowAt q_rowEnd q_seed q_thrown q_s)) hx hb hml hown hts hK hN hA hP hD hS hl (c_MD_sized l D cI cM cS cJ H.size (q_s (S_MD_of x2 2).toNatClampNeg) rfl) gX12_doesTrust_X12_sized rfl kdS_X12_sized [] ⟨rfl, rfl⟩ ⟨Nat.le_of_ble_eq_true rfl, Nat.le_of_ble_eq_true rfl⟩ ⟨Nat.zero_le _, Nat.zero_le _⟩ rfl rfl (by decide +kernel) (k_rp rfl (by decide +kernel)) rfl rfl (Nat.le_of_ble_eq_true rfl) dX12_doesTrust_42 rfl (fun H locs hP hD hS => ?_)
      refine lv_iload_n hx hb dX12_doesTrust_45 rfl (lv_at hl 1 rfl) ?_
      refine k_callS (As := [.int (q_s (S_MD_of x1 2).toNatClampNeg)]) (rest := [.int (S_MD_sized (q_s (S_MD_of x2 2).toNatClampNeg))]) (st1 := [.int (S_MD_sized (q_s (S_MD_of x1 2).toNatClampNeg)), .int (S_MD_sized (q_s (S_MD_of x2 2).toNatClampNeg))]) (ws2 := (Wd40 cI aR q_hasImage q_place q_rowAt q_rowEnd q_seed q_thrown q_s)) hx hb hml hown hts hK hN hA hP hD hS hl (c_MD_sized l D cI cM cS cJ H.size (q_s (S_MD_of x1 2).toNatClampNeg) rfl) gX12_doesTrust_X12_sized rfl kdS_X12_sized [] ⟨rfl, rfl⟩ ⟨Nat.le_of_ble_eq_true rfl, Nat.le_of_ble_eq_true rfl⟩ ⟨Nat.zero_le _, Nat.zero_le _⟩ rfl rfl (by decide +kernel) (k_rp rfl (by decide +kernel)) rfl rfl (Nat.le_of_ble_eq_true rfl) dX12_doesTrust_46 rfl (fun H locs hP hD hS => ?_)
      refine lv_bipush (v := 10) hx hb dX12_doesTrust_49 (by decide) ?_
      refine lv_iadd hx hb dX12_doesTrust_51 ?_
      refine lv_icmp_gt (tgt := 59) hx hb dX12_doesTrust_52 (by decide) (fun c52 => ?_) (fun c52 => ?_)
      · have h := k_pos c52 h
        refine lv_iconst (v := 0) hx hb dX12_doesTrust_59 (by decide) ?_
        have h := Option.some.inj h; subst h
        exact hret _ _ _ _ rfl hP hS dX12_doesTrust_60
      · have h := k_neg c52 h
        refine lv_iconst (v := 1) hx hb dX12_doesTrust_55 (by decide) ?_
        refine lv_goto (tgt := 60) hx hb dX12_doesTrust_56 (by decide) ?_
        have h := Option.some.inj h; subst h
        exact hret _ _ _ _ rfl hP hS dX12_doesTrust_60
theorem kdV_X12_doesTrust : yX12_doesTrust.cls = RX12 ∧ yX12_doesTrust.cls ≠ "java/lang/invoke/MethodHandle" ∧ yX12_doesTrust.cls ≠ "java/lang/invoke/VarHandle" ∧ (parseMethodDescriptor yX12_doesTrust.desc).map (fun d => d.parameters.length) = some 2 := by decide +kernel
abbrev rm_X12_trustedBy : Room := { frames := 2, cells := 0, slots := 0, locals := 45 }
set_option maxHeartbeats 4000000 in
set_option maxRecDepth 100000 in
theorem c_MD_trustedBy (l : Launch) (D : va_G) (cI cM cS cJ : ClassId) (aR : Nat → Nat) (sz : Nat) (x1 : Int32) (q_hasImage : Int32) (q_place : Int32) (q_rowAt : Int32) (q_rowEnd : Int32) (q_seed : Int32) (q_thrown : Int32) (q_s : Nat → Int32) {o : (Int32)} (hsem : S_MD_trustedBy x1 q_s = some o) : kMet l yX12_trustedBy wsX12_trustedBy rm_X12_trustedBy [.ref (aR 0), .int x1] D (kT cI cM cS cJ) (Wd40 cI aR q_hasImage q_place q_rowAt q_rowEnd q_seed q_thrown q_s) sz (some (.int o)) (Wd40 cI aR q_hasImage q_place q_rowAt q_rowEnd q_seed q_thrown q_s) := by
  refine k_metI (by decide) rfl rfl (Nat.le_of_ble_eq_true rfl) ?_
  intro p e s m below meth c ls Q A hx hb hml hts hown hK hN hA hP hD hS hl hsz hnm hret
  have hown : s.vm.findClass RX12 = some m.cls := hown
  have hf9 := hts (.fieldLink RX12 9 "PlumbLineModel" "s" "[I") (List.mem_of_getElem? (i := 1) rfl)
  have hiX12 : ∀ w ∈ u_ws RX12 TX12 18, w ∈ wsX12_trustedBy := fun w h => List.mem_cons_of_mem _ (List.mem_append_right _ h)
  replace hl : lv_has ls 4 [(0, .ref (aR 0)), (1, .int x1)] := hl
  have h := hsem
  clear hsem
  rw [S_MD_trustedBy] at h
  refine lv_iconst (v := 0) hx hb dX12_trustedBy_0 (by decide) ?_
  refine lv_istore_n (lv' := [(2, .int 0), (0, .ref (aR 0)), (1, .int x1)]) hx hb dX12_trustedBy_1 rfl hl (by decide) rfl (fun ls hl => ?_)
  refine lv_iconst (v := 0) hx hb dX12_trustedBy_2 (by decide) ?_
  have B4 : ∀ (n4 : Nat) (y2 : Int32) (y3 : Int32) (H : Heap) (locs : List Loc) (ls : Array Slot), va_P D vwCl (Wd40 cI aR q_hasImage q_place q_rowAt q_rowEnd q_seed q_thrown q_s) H → va_D A (Wd40 cI aR q_hasImage q_place q_rowAt q_rowEnd q_seed q_thrown q_s) → va_S A s.heap H locs → lv_has ls 4 [(0, .ref (aR 0)), (1, .int x1), (2, .int y2), (3, .int y3)] → S_MD_trustedBy_L4 x1 q_s n4 y2 y3 = some o → W p l e rm_X12_trustedBy s m ([.ref (aR 0), .int x1] : List Value).toArray below meth c H locs 0 0 Q (F0 m 4 ls []) := by
    intro n4
    induction n4 with
    | zero => intro y2 y3 H locs ls hP hD hS hl h; exact absurd h (by simp [S_MD_trustedBy_L4])
    | succ n4 ih4 =>
      intro y2 y3 H locs ls hP hD hS hl h
      rw [S_MD_trustedBy_L4] at h
      refine lv_iload_n hx hb dX12_trustedBy_4 rfl (lv_at hl 3 rfl) ?_
      refine lv_aload_n hx hb dX12_trustedBy_5 rfl (lv_at hl 0 rfl) ?_
      refine va_get (D := D) (ci := 12) (v := .ref (aR 1)) (C := RX12) (T := TX12) (N := 18) hx hb hts hiX12 hown hK hP 0 rfl rfl 0 (by decide) hf9 (fun _ z => z) rfl dX12_trustedBy_6 ?_
      refine lv_iconst (v := 0) hx hb dX12_trustedBy_9 (by decide) ?_
      refine va_iald hx hb hK hP 1 0 rfl rfl (show ¬ ((0 : Int32) < 0 ∨ 37 ≤ (0 : Int32).toNatClampNeg) by decide) dX12_trustedBy_10 ?_
      refine lv_icmp_ge (tgt := 39) hx hb dX12_trustedBy_11 (by decide) (fun c11 => ?_) (fun c11 => ?_)
      · have h := k_pos c11 h
        refine lv_iload_n hx hb dX12_trustedBy_39 rfl (lv_at hl 2 rfl) ?_
        have h := Option.some.inj h; subst h
        exact hret _ _ _ _ hP hS dX12_trustedBy_40
      · have h := k_neg c11 h
        refine lv_iload_n hx hb dX12_trustedBy_14 rfl (lv_at hl 2 rfl) ?_
        refine lv_aload_n hx hb dX12_trustedBy_15 rfl (lv_at hl 0 rfl) ?_
        refine lv_iload_n hx hb dX12_trustedBy_16 rfl (lv_at hl 3 rfl) ?_
        refine lv_iload_n hx hb dX12_trustedBy_17 rfl (lv_at hl 1 rfl) ?_
        obtain ⟨r18, g18, h⟩ := k_bind h
        refine k_callV (As := [.int y3, .int x1]) (rest := [.int y2]) (st1 := [.int r18, .int y2]) (ws2 := (Wd40 cI aR q_hasImage q_place q_rowAt q_rowEnd q_seed q_thrown q_s)) hx hb hml hown hts hK hN hA hP hD hS hl (c_MD_doesTrust l D cI cM cS cJ aR H.size y3 x1 q_hasImage q_place q_rowAt q_rowEnd q_seed q_thrown q_s g18) gX12_trustedBy_X12_doesTrust rfl kdV_X12_doesTrust 0 12 rfl rfl rfl [0, 1] ⟨rfl, rfl⟩ ⟨Nat.le_of_ble_eq_true rfl, Nat.le_of_ble_eq_true rfl⟩ ⟨Nat.zero_le _, Nat.zero_le _⟩ rfl rfl (by decide +kernel) (k_rp rfl (by decide +kernel)) rfl rfl (Nat.le_of_ble_eq_true rfl) dX12_trustedBy_18 rfl (fun H locs hP hD hS => ?_)
        refine lv_if_eq (tgt := 30) hx hb dX12_trustedBy_21 (by decide) (fun c21 => ?_) (fun c21 => ?_)
        · have h := k_pos c21 h
          refine lv_iconst (v := 0) hx hb dX12_trustedBy_30 (by decide) ?_
          refine lv_ior hx hb dX12_trustedBy_31 ?_
          refine lv_istore_n (lv' := [(2, .int (y2 ||| 0)), (0, .ref (aR 0)), (1, .int x1), (3, .int y3)]) hx hb dX12_trustedBy_32 rfl hl (by decide) rfl (fun ls hl => ?_)
          refine lv_iinc (v := (y3 + 1)) (lv' := [(3, .int (y3 + 1)), (2, .int (y2 ||| 0)), (0, .ref (aR 0)), (1, .int x1)]) hx hb dX12_trustedBy_33 hl (k := 3) rfl (by first | rfl | decide) (by decide) rfl (fun ls hl => ?_)
          refine lv_goto (tgt := 4) hx hb dX12_trustedBy_36 (by decide) ?_
          exact ih4 (y2 ||| 0) (y3 + 1) H locs ls hP hD hS (lv_sub hl [2, 3, 1, 0] rfl) h
        · have h := k_neg c21 h
          refine lv_iconst (v := 1) hx hb dX12_trustedBy_24 (by decide) ?_
          refine lv_iload_n hx hb dX12_trustedBy_25 rfl (lv_at hl 3 rfl) ?_
          refine lv_ishl hx hb dX12_trustedBy_26 ?_
          refine lv_goto (tgt := 31) hx hb dX12_trustedBy_27 (by decide) ?_
          refine lv_ior hx hb dX12_trustedBy_31 ?_
          refine lv_istore_n (lv' := [(2, .int (y2 ||| ((1 : Int32) <<< (y3 &&& 31)))), (0, .ref (aR 0)), (1, .int x1), (3, .int y3)]) hx hb dX12_trustedBy_32 rfl hl (by decide) rfl (fun ls hl => ?_)
          refine lv_iinc (v := (y3 + 1)) (lv' := [(3, .int (y3 + 1)), (2, .int (y2 ||| ((1 : Int32) <<< (y3 &&& 31)))), (0, .ref (aR 0)), (1, .int x1)]) hx hb dX12_trustedBy_33 hl (k := 3) rfl (by first | rfl | decide) (by decide) rfl (fun ls hl => ?_)
          refine lv_goto (tgt := 4) hx hb dX12_trustedBy_36 (by decide) ?_
          exact ih4 (y2 ||| ((1 : Int32) <<< (y3 &&& 31))) (y3 + 1) H locs ls hP hD hS (lv_sub hl [2, 3, 1, 0] rfl) h
  refine lv_istore_n (lv' := [(3, .int 0), (2, .int 0), (0, .ref (aR 0)), (1, .int x1)]) hx hb dX12_trustedBy_3 rfl hl (by decide) rfl (fun ls hl => ?_)
  exact B4 lfu 0 0 s.heap [] ls hP hD hS (lv_sub hl [2, 3, 1, 0] rfl) h
abbrev rm_X12_lean : Room := { frames := 2, cells := 0, slots := 0, locals := 43 }
set_option maxHeartbeats 4000000 in
set_option maxRecDepth 100000 in
theorem c_MD_lean (l : Launch) (D : va_G) (cI cM cS cJ : ClassId) (aR : Nat → Nat) (sz : Nat) (x1 : Int32) (q_hasImage : Int32) (q_place : Int32) (q_rowAt : Int32) (q_rowEnd : Int32) (q_seed : Int32) (q_thrown : Int32) (q_s : Nat → Int32) {o : (Int32)} (hsem : S_MD_lean x1 q_s = some o) : kMet l yX12_lean wsX12_lean rm_X12_lean [.ref (aR 0), .int x1] D (kT cI cM cS cJ) (Wd40 cI aR q_hasImage q_place q_rowAt q_rowEnd q_seed q_thrown q_s) sz (some (.int o)) (Wd40 cI aR q_hasImage q_place q_rowAt q_rowEnd q_seed q_thrown q_s) := by
  refine k_metI (by decide) rfl rfl (Nat.le_of_ble_eq_true rfl) ?_
  intro p e s m below meth c ls Q A hx hb hml hts hown hK hN hA hP hD hS hl hsz hnm hret
  have hown : s.vm.findClass RX12 = some m.cls := hown
  have hf9 := hts (.fieldLink RX12 9 "PlumbLineModel" "s" "[I") (List.mem_of_getElem? (i := 1) rfl)
  have hiX12 : ∀ w ∈ u_ws RX12 TX12 18, w ∈ wsX12_lean := fun w h => List.mem_cons_of_mem _ (List.mem_append_right _ h)
  replace hl : lv_has ls 2 [(0, .ref (aR 0)), (1, .int x1)] := hl
  have h := hsem
  clear hsem
  rw [S_MD_lean] at h
  refine lv_aload_n hx hb dX12_lean_0 rfl (lv_at hl 0 rfl) ?_
  refine lv_iload_n hx hb dX12_lean_1 rfl (lv_at hl 1 rfl) ?_
  obtain ⟨r2, g2, h⟩ := k_bind h
  refine k_callV (As := [.int x1]) (rest := []) (st1 := [.int r2]) (ws2 := (Wd40 cI aR q_hasImage q_place q_rowAt q_rowEnd q_seed q_thrown q_s)) hx hb hml hown hts hK hN hA hP hD hS hl (c_MD_isMan l D cI cM cS cJ aR s.heap.size x1 q_hasImage q_place q_rowAt q_rowEnd q_seed q_thrown q_s g2) gX12_lean_X12_isMan rfl kdV_X12_isMan 0 12 rfl rfl rfl [0, 1] ⟨rfl, rfl⟩ ⟨Nat.le_of_ble_eq_true rfl, Nat.le_of_ble_eq_true rfl⟩ ⟨Nat.zero_le _, Nat.zero_le _⟩ rfl rfl (by decide +kernel) (k_rp rfl (by decide +kernel)) rfl rfl (Nat.le_of_ble_eq_true rfl) dX12_lean_2 rfl (fun H locs hP hD hS => ?_)
  refine lv_if_eq (tgt := 21) hx hb dX12_lean_5 (by decide) (fun c5 => ?_) (fun c5 => ?_)
  · have h := k_pos c5 h
    refine lv_ldc (v := 1000000001) hx hb hown (hts (.constant RX12 155 1000000001) (List.mem_of_getElem? (i := 2) rfl)) dX12_lean_21 ?_
    have h := Option.some.inj h; subst h
    exact hret _ _ _ _ hP hS dX12_lean_23
  · have h := k_neg c5 h
    refine lv_aload_n hx hb dX12_lean_8 rfl (lv_at hl 0 rfl) ?_
    refine va_get (D := D) (ci := 12) (v := .ref (aR 1)) (C := RX12) (T := TX12) (N := 18) hx hb hts hiX12 hown hK hP 0 rfl rfl 0 (by decide) hf9 (fun _ z => z) rfl dX12_lean_9 ?_
    refine lv_iload_n hx hb dX12_lean_12 rfl (lv_at hl 1 rfl) ?_
    refine lv_iconst (v := 2) hx hb dX12_lean_13 (by decide) ?_
    refine k_callS (As := [.int x1, .int 2]) (rest := [.ref (aR 1)]) (st1 := [.int (S_MD_of x1 2), .ref (aR 1)]) (ws2 := (Wd40 cI aR q_hasImage q_place q_rowAt q_rowEnd q_seed q_thrown q_s)) hx hb hml hown hts hK hN hA hP hD hS hl (c_MD_of l D cI cM cS cJ H.size x1 2 rfl) gX12_lean_X12_of rfl kdS_X12_of [] ⟨rfl, rfl⟩ ⟨Nat.le_of_ble_eq_true rfl, Nat.le_of_ble_eq_true rfl⟩ ⟨Nat.zero_le _, Nat.zero_le _⟩ rfl rfl (by decide +kernel) (k_rp rfl (by decide +kernel)) rfl rfl (Nat.le_of_ble_eq_true rfl) dX12_lean_14 rfl (fun H locs hP hD hS => ?_)
    obtain ⟨g17, h⟩ := k_guard h
    refine va_iald hx hb hK hP 1 0 rfl rfl g17 dX12_lean_17 ?_
    refine lv_goto (tgt := 23) hx hb dX12_lean_18 (by decide) ?_
    have h := Option.some.inj h; subst h
    exact hret _ _ _ _ hP hS dX12_lean_23
