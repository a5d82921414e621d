abbrev rm_X12_put : Room := { frames := 3, cells := 0, slots := 0, locals := 64 }
set_option maxHeartbeats 4000000 in
set_option maxRecDepth 100000 in
theorem c_MD_put (l : Launch) (D : va_G) (cI cM cS cJ : ClassId) (aR : Nat → Nat) (sz : Nat) (x1 : Int32) (x2 : Int32) (x3 : Int32) (q_hasImage : Int32) (q_place : Int32) (q_rowAt : Int32) (q_rowEnd : Int32) (q_seed : Int32) (q_thrown : Int32) (q_kept : Nat → Int32) (q_sort : Nat → Int32) (q_size : Nat → Int32) (q_element : Nat → Int32) {o : (Int32) × (Nat → Int32)} (hsem : S_MD_put x1 x2 x3 q_kept q_sort q_size q_element = some o) : kMet l yX12_put wsX12_put rm_X12_put [.ref (aR 0), .int x1, .int x2, .int x3] D (kT cI cM cS cJ) (Wd60 cI aR q_hasImage q_place q_rowAt q_rowEnd q_seed q_thrown q_kept q_sort q_size q_element) sz (some (.int o.1)) (Wd60 cI aR q_hasImage q_place q_rowAt q_rowEnd q_seed q_thrown q_kept q_sort q_size o.2) := by
  refine k_metI (by decide) rfl rfl (Nat.le_of_ble_eq_true rfl) ?_
  intro p e s m below meth c ls Q A hx hb hml hts hown hK hN hA hP hD hS hl hsz hnm hret
  have hown : s.vm.findClass RX12 = some m.cls := hown
  have hf40 := hts (.fieldLink RX12 40 "PlumbLineModel" "size" "[I") (List.mem_of_getElem? (i := 1) rfl)
  have hf43 := hts (.fieldLink RX12 43 "PlumbLineModel" "element" "[I") (List.mem_of_getElem? (i := 2) rfl)
  have hf37 := hts (.fieldLink RX12 37 "PlumbLineModel" "sort" "[I") (List.mem_of_getElem? (i := 3) rfl)
  have hiX12 : ∀ w ∈ u_ws RX12 TX12 18, w ∈ wsX12_put := fun w h => List.mem_cons_of_mem _ (List.mem_append_right _ h)
  replace hl : lv_has ls 5 [(0, .ref (aR 0)), (1, .int x1), (2, .int x2), (3, .int x3)] := hl
  have h := hsem
  clear hsem
  rw [S_MD_put] at h
  refine lv_aload_n hx hb dX12_put_0 rfl (lv_at hl 0 rfl) ?_
  refine lv_iload_n hx hb dX12_put_1 rfl (lv_at hl 1 rfl) ?_
  refine lv_iconst (v := (-1)) hx hb dX12_put_2 (by decide) ?_
  obtain ⟨r3, g3, h⟩ := k_bind h
  refine k_callV (As := [.int x1, .int (-1)]) (rest := []) (st1 := [.int r3]) (ws2 := (Wd60 cI aR q_hasImage q_place q_rowAt q_rowEnd q_seed q_thrown q_kept q_sort q_size q_element)) hx hb hml hown hts hK hN hA hP hD hS hl (c_MD_wrongRow l D cI cM cS cJ aR s.heap.size x1 (-1) q_hasImage q_place q_rowAt q_rowEnd q_seed q_thrown q_kept q_sort g3) gX12_put_X12_wrongRow rfl kdV_X12_wrongRow 0 12 rfl rfl rfl [0, 1, 2] ⟨rfl, rfl⟩ ⟨Nat.le_of_ble_eq_true rfl, Nat.le_of_ble_eq_true rfl⟩ ⟨Nat.zero_le _, Nat.zero_le _⟩ rfl rfl (by decide +kernel) (k_rp rfl (by decide +kernel)) rfl rfl (Nat.le_of_ble_eq_true rfl) dX12_put_3 rfl (fun H locs hP hD hS => ?_)
  refine lv_istore (lv' := [(4, .int r3), (0, .ref (aR 0)), (1, .int x1), (2, .int x2), (3, .int x3)]) hx hb dX12_put_6 hl (by decide) rfl (fun ls hl => ?_)
  refine lv_iload hx hb dX12_put_8 (lv_at hl 0 rfl) ?_
  refine lv_if_eq (tgt := 16) hx hb dX12_put_10 (by decide) (fun c10 => ?_) (fun c10 => ?_)
  · have h := k_pos c10 h
    refine lv_iload_n hx hb dX12_put_16 rfl (lv_at hl 3 rfl) ?_
    refine lv_iconst (v := 0) hx hb dX12_put_17 (by decide) ?_
    refine lv_aload_n hx hb dX12_put_18 rfl (lv_at hl 1 rfl) ?_
    refine va_get (D := D) (ci := 12) (v := .ref (aR 11)) (C := RX12) (T := TX12) (N := 18) hx hb hts hiX12 hown hK hP 0 rfl rfl 15 (by decide) hf40 (fun _ z => z) rfl dX12_put_19 ?_
    refine lv_iload_n hx hb dX12_put_22 rfl (lv_at hl 2 rfl) ?_
    obtain ⟨g23, h⟩ := k_guard h
    refine va_iald hx hb hK hP 3 0 rfl rfl g23 dX12_put_23 ?_
    refine lv_iconst (v := 1) hx hb dX12_put_24 (by decide) ?_
    refine lv_isub hx hb dX12_put_25 ?_
    refine k_callS (As := [.int x2, .int 0, .int ((q_size x1.toNatClampNeg) - 1)]) (rest := []) (st1 := [.int (S_MD_isIn x2 0 ((q_size x1.toNatClampNeg) - 1))]) (ws2 := (Wd60 cI aR q_hasImage q_place q_rowAt q_rowEnd q_seed q_thrown q_kept q_sort q_size q_element)) hx hb hml hown hts hK hN hA hP hD hS hl (c_MD_isIn l D cI cM cS cJ H.size x2 0 ((q_size x1.toNatClampNeg) - 1) rfl) gX12_put_X12_isIn rfl kdS_X12_isIn [] ⟨rfl, rfl⟩ ⟨Nat.le_of_ble_eq_true rfl, Nat.le_of_ble_eq_true rfl⟩ ⟨Nat.zero_le _, Nat.zero_le _⟩ rfl rfl (by decide +kernel) (k_rp rfl (by decide +kernel)) rfl rfl (Nat.le_of_ble_eq_true rfl) dX12_put_26 rfl (fun H locs hP hD hS => ?_)
    refine lv_if_ne (tgt := 35) hx hb dX12_put_29 (by decide) (fun c29 => ?_) (fun c29 => ?_)
    · have h := k_neg c29 h
      refine lv_aload_n hx hb dX12_put_35 rfl (lv_at hl 1 rfl) ?_
      refine va_get (D := D) (ci := 12) (v := .ref (aR 12)) (C := RX12) (T := TX12) (N := 18) hx hb hts hiX12 hown hK hP 0 rfl rfl 16 (by decide) hf43 (fun _ z => z) rfl dX12_put_36 ?_
      refine lv_bipush (v := 100) hx hb dX12_put_39 (by decide) ?_
      refine lv_iload_n hx hb dX12_put_41 rfl (lv_at hl 2 rfl) ?_
      refine lv_imul hx hb dX12_put_42 ?_
      refine lv_iload_n hx hb dX12_put_43 rfl (lv_at hl 3 rfl) ?_
      refine lv_iadd hx hb dX12_put_44 ?_
      refine lv_aload_n hx hb dX12_put_45 rfl (lv_at hl 1 rfl) ?_
      refine va_get (D := D) (ci := 12) (v := .ref (aR 10)) (C := RX12) (T := TX12) (N := 18) hx hb hts hiX12 hown hK hP 0 rfl rfl 14 (by decide) hf37 (fun _ z => z) rfl dX12_put_46 ?_
      refine lv_iload_n hx hb dX12_put_49 rfl (lv_at hl 2 rfl) ?_
      refine va_iald hx hb hK hP 2 0 rfl rfl g23 dX12_put_50 ?_
      refine lv_if_ne (tgt := 59) hx hb dX12_put_51 (by decide) (fun c51 => ?_) (fun c51 => ?_)
      · have h := k_neg c51 h
        refine lv_aload_n hx hb dX12_put_59 rfl (lv_at hl 1 rfl) ?_
        refine va_get (D := D) (ci := 12) (v := .ref (aR 10)) (C := RX12) (T := TX12) (N := 18) hx hb hts hiX12 hown hK hP 0 rfl rfl 14 (by decide) hf37 (fun _ z => z) rfl dX12_put_60 ?_
        refine lv_iload_n hx hb dX12_put_63 rfl (lv_at hl 2 rfl) ?_
        refine va_iald hx hb hK hP 2 0 rfl rfl g23 dX12_put_64 ?_
        refine lv_iconst (v := 1) hx hb dX12_put_65 (by decide) ?_
        refine lv_icmp_ne (tgt := 74) hx hb dX12_put_66 (by decide) (fun c66 => ?_) (fun c66 => ?_)
        · have h := k_neg c66 h
          refine lv_iload_n hx hb dX12_put_74 rfl (lv_at hl 4 rfl) ?_
          obtain ⟨g75, h⟩ := k_guard h
          refine va_iast hx hb hK hP hD hS 4 0 rfl rfl g75 dX12_put_75 (fun H locs hP hD hS => ?_)
          replace hP : va_P D vwCl (Wd60 cI aR q_hasImage q_place q_rowAt q_rowEnd q_seed q_thrown q_kept q_sort q_size (upd q_element (((100 : Int32) * x1) + x2).toNatClampNeg x3)) H := hP
          replace hD : va_D A (Wd60 cI aR q_hasImage q_place q_rowAt q_rowEnd q_seed q_thrown q_kept q_sort q_size (upd q_element (((100 : Int32) * x1) + x2).toNatClampNeg x3)) := hD
          refine lv_iconst (v := 0) hx hb dX12_put_76 (by decide) ?_
          have h := Option.some.inj h; subst h
          exact hret _ _ _ _ hP hS dX12_put_77
        · have h := k_pos c66 h
          refine lv_iload_n hx hb dX12_put_69 rfl (lv_at hl 4 rfl) ?_
          refine lv_i2s (v := (x3 : Int32).toInt16.toInt32) hx hb dX12_put_70 rfl ?_
          refine lv_goto (tgt := 75) hx hb dX12_put_71 (by decide) ?_
          obtain ⟨g75, h⟩ := k_guard h
          refine va_iast hx hb hK hP hD hS 4 0 rfl rfl g75 dX12_put_75 (fun H locs hP hD hS => ?_)
          replace hP : va_P D vwCl (Wd60 cI aR q_hasImage q_place q_rowAt q_rowEnd q_seed q_thrown q_kept q_sort q_size (upd q_element (((100 : Int32) * x1) + x2).toNatClampNeg (x3 : Int32).toInt16.toInt32)) H := hP
          replace hD : va_D A (Wd60 cI aR q_hasImage q_place q_rowAt q_rowEnd q_seed q_thrown q_kept q_sort q_size (upd q_element (((100 : Int32) * x1) + x2).toNatClampNeg (x3 : Int32).toInt16.toInt32)) := hD
          refine lv_iconst (v := 0) hx hb dX12_put_76 (by decide) ?_
          have h := Option.some.inj h; subst h
          exact hret _ _ _ _ hP hS dX12_put_77
      · have h := k_pos c51 h
        refine lv_iload_n hx hb dX12_put_54 rfl (lv_at hl 4 rfl) ?_
        refine lv_i2b (v := (x3 : Int32).toInt8.toInt32) hx hb dX12_put_55 rfl ?_
        refine lv_goto (tgt := 75) hx hb dX12_put_56 (by decide) ?_
        obtain ⟨g75, h⟩ := k_guard h
        refine va_iast hx hb hK hP hD hS 4 0 rfl rfl g75 dX12_put_75 (fun H locs hP hD hS => ?_)
        replace hP : va_P D vwCl (Wd60 cI aR q_hasImage q_place q_rowAt q_rowEnd q_seed q_thrown q_kept q_sort q_size (upd q_element (((100 : Int32) * x1) + x2).toNatClampNeg (x3 : Int32).toInt8.toInt32)) H := hP
        replace hD : va_D A (Wd60 cI aR q_hasImage q_place q_rowAt q_rowEnd q_seed q_thrown q_kept q_sort q_size (upd q_element (((100 : Int32) * x1) + x2).toNatClampNeg (x3 : Int32).toInt8.toInt32)) := hD
        refine lv_iconst (v := 0) hx hb dX12_put_76 (by decide) ?_
        have h := Option.some.inj h; subst h
        exact hret _ _ _ _ hP hS dX12_put_77
    · have h := k_pos c29 h
      refine lv_bipush (v := (-13)) hx hb dX12_put_32 (by decide) ?_
      have h := Option.some.inj h; subst h
      exact hret _ _ _ _ hP hS dX12_put_34
  · have h := k_neg c10 h
    refine lv_iload hx hb dX12_put_13 (lv_at hl 0 rfl) ?_
    have h := Option.some.inj h; subst h
    exact hret _ _ _ _ hP hS dX12_put_15
abbrev Wd61 (cI : ClassId) (aR : Nat → Nat) (q_hasImage : Int32) (q_place : Int32) (q_rowAt : Int32) (q_rowEnd : Int32) (q_seed : Int32) (q_thrown : Int32) (q_kept : Nat → Int32) (q_size : Nat → Int32) (q_element : Nat → Int32) : va_W := [((aR 0), .inr (12, [.ref (aR 1), .ref (aR 2), .ref (aR 3), .ref (aR 4), .int q_hasImage, .int q_place, .int q_rowAt, .int q_rowEnd, .ref (aR 5), .ref (aR 6), .int q_seed, .ref (aR 7), .ref (aR 8), .ref (aR 9), .ref (aR 10), .ref (aR 11), .ref (aR 12), .int q_thrown])), ((aR 7), .inl (cI, 8, .inl q_kept)), ((aR 11), .inl (cI, 8, .inl q_size)), ((aR 12), .inl (cI, 800, .inl q_element))]
abbrev rm_X12_element : Room := { frames := 2, cells := 0, slots := 0, locals := 42 }
set_option maxHeartbeats 4000000 in
set_option maxRecDepth 100000 in
theorem c_MD_element (l : Launch) (D : va_G) (cI cM cS cJ : ClassId) (aR : Nat → Nat) (sz : Nat) (x1 : Int32) (x2 : Int32) (q_hasImage : Int32) (q_place : Int32) (q_rowAt : Int32) (q_rowEnd : Int32) (q_seed : Int32) (q_thrown : Int32) (q_kept : Nat → Int32) (q_size : Nat → Int32) (q_element : Nat → Int32) {o : (Int64) × (Int32)} (hsem : S_MD_element x1 x2 q_thrown q_kept q_size q_element = some o) : kMet l yX12_element wsX12_element rm_X12_element [.ref (aR 0), .int x1, .int x2] D (kT cI cM cS cJ) (Wd61 cI aR q_hasImage q_place q_rowAt q_rowEnd q_seed q_thrown q_kept q_size q_element) sz (some (.long o.1)) (Wd61 cI aR q_hasImage q_place q_rowAt q_rowEnd q_seed o.2 q_kept q_size q_element) := by
  refine k_metJ (by decide) rfl rfl (Nat.le_of_ble_eq_true rfl) ?_
  intro p e s m below meth c ls Q A hx hb hml hts hown hK hN hA hP hD hS hl hsz hnm hret
  have hown : s.vm.findClass RX12 = some m.cls := hown
  have hf28 := hts (.fieldLink RX12 28 "PlumbLineModel" "kept" "[I") (List.mem_of_getElem? (i := 1) rfl)
  have hf242 := hts (.fieldLink RX12 242 "PlumbLineModel" "thrown" "I") (List.mem_of_getElem? (i := 3) rfl)
  have hf43 := hts (.fieldLink RX12 43 "PlumbLineModel" "element" "[I") (List.mem_of_getElem? (i := 4) rfl)
  have hf40 := hts (.fieldLink RX12 40 "PlumbLineModel" "size" "[I") (List.mem_of_getElem? (i := 2) rfl)
  have hiX12 : ∀ w ∈ u_ws RX12 TX12 18, w ∈ wsX12_element := fun w h => List.mem_cons_of_mem _ (List.mem_append_right _ h)
  replace hl : lv_has ls 3 [(0, .ref (aR 0)), (1, .int x1), (2, .int x2)] := hl
  have h := hsem
  clear hsem
  rw [S_MD_element] at h
  refine lv_aload_n hx hb dX12_element_0 rfl (lv_at hl 0 rfl) ?_
  refine lv_iload_n hx hb dX12_element_1 rfl (lv_at hl 1 rfl) ?_
  obtain ⟨r2, g2, h⟩ := k_bind h
  refine k_callS (As := [.int x1]) (rest := [.ref (aR 0)]) (st1 := [.int r2, .ref (aR 0)]) (ws2 := (Wd61 cI aR q_hasImage q_place q_rowAt q_rowEnd q_seed q_thrown q_kept q_size q_element)) hx hb hml hown hts hK hN hA hP hD hS hl (c_MD_isShelf l D cI cM cS cJ s.heap.size x1 g2) gX12_element_X12_isShelf rfl kdS_X12_isShelf [] ⟨rfl, rfl⟩ ⟨Nat.le_of_ble_eq_true rfl, Nat.le_of_ble_eq_true rfl⟩ ⟨Nat.zero_le _, Nat.zero_le _⟩ rfl rfl (by decide +kernel) (k_rp rfl (by decide +kernel)) rfl rfl (Nat.le_of_ble_eq_true rfl) dX12_element_2 rfl (fun H locs hP hD hS => ?_)
  have B43 : ∀ (v1 : Int32) (q_thrown : Int32) (H : Heap) (locs : List Loc) (ls : Array Slot), va_P D vwCl (Wd61 cI aR q_hasImage q_place q_rowAt q_rowEnd q_seed q_thrown q_kept q_size q_element) H → va_D A (Wd61 cI aR q_hasImage q_place q_rowAt q_rowEnd q_seed q_thrown q_kept q_size q_element) → va_S A s.heap H locs → lv_has ls 3 [(0, .ref (aR 0)), (1, .int x1), (2, .int x2)] → S_MD_element_J43 x1 x2 v1 q_element = some o → W p l e rm_X12_element s m ([.ref (aR 0), .int x1, .int x2] : List Value).toArray below meth c H locs 0 0 Q (F0 m 43 ls [.int v1, .ref (aR 0)]) := by
    intro v1 q_thrown H locs ls hP hD hS hl h
    rw [S_MD_element_J43] at h
    refine va_put (D := D) (ci := 12) (v := .int v1) (ty := .int) (C := RX12) (T := TX12) (N := 18) hx hb hts hiX12 tyX12 tyX12_ok nmX12 hown hK hP hD hS 0 rfl rfl 17 (by decide) hf242 (fun _ z => z) rfl (by decide +kernel) rfl rfl (Nat.le_of_ble_eq_true rfl) dX12_element_43 (fun H locs hP hD hS => ?_)
    replace hP : va_P D vwCl (Wd61 cI aR q_hasImage q_place q_rowAt q_rowEnd q_seed v1 q_kept q_size q_element) H := hP
    replace hD : va_D A (Wd61 cI aR q_hasImage q_place q_rowAt q_rowEnd q_seed v1 q_kept q_size q_element) := hD
    refine lv_aload_n hx hb dX12_element_46 rfl (lv_at hl 0 rfl) ?_
    refine va_get (D := D) (ci := 12) (v := .int v1) (C := RX12) (T := TX12) (N := 18) hx hb hts hiX12 hown hK hP 0 rfl rfl 17 (by decide) hf242 (fun _ z => z) rfl dX12_element_47 ?_
    refine lv_if_ne (tgt := 68) hx hb dX12_element_50 (by decide) (fun c50 => ?_) (fun c50 => ?_)
    · have h := k_neg c50 h
      refine lv_lconst (v := 0) hx hb dX12_element_68 (by decide) ?_
      have h := Option.some.inj h; subst h
      exact hret _ _ _ _ hP hS dX12_element_69
    · have h := k_pos c50 h
      refine lv_aload_n hx hb dX12_element_53 rfl (lv_at hl 0 rfl) ?_
      refine va_get (D := D) (ci := 12) (v := .ref (aR 12)) (C := RX12) (T := TX12) (N := 18) hx hb hts hiX12 hown hK hP 0 rfl rfl 16 (by decide) hf43 (fun _ z => z) rfl dX12_element_54 ?_
      refine lv_bipush (v := 100) hx hb dX12_element_57 (by decide) ?_
      refine lv_iload_n hx hb dX12_element_59 rfl (lv_at hl 1 rfl) ?_
      refine lv_imul hx hb dX12_element_60 ?_
      refine lv_iload_n hx hb dX12_element_61 rfl (lv_at hl 2 rfl) ?_
      refine lv_iadd hx hb dX12_element_62 ?_
      obtain ⟨g63, h⟩ := k_guard h
      refine va_iald hx hb hK hP 3 0 rfl rfl g63 dX12_element_63 ?_
      refine lv_i2l (v := ((q_element (((100 : Int32) * x1) + x2).toNatClampNeg) : Int32).toInt64) hx hb dX12_element_64 rfl ?_
      refine lv_goto (tgt := 69) hx hb dX12_element_65 (by decide) ?_
      have h := Option.some.inj h; subst h
      exact hret _ _ _ _ hP hS dX12_element_69
  refine lv_if_ne (tgt := 12) hx hb dX12_element_5 (by decide) (fun c5 => ?_) (fun c5 => ?_)
  · have h := k_neg c5 h
    refine lv_aload_n hx hb dX12_element_12 rfl (lv_at hl 0 rfl) ?_
    refine va_get (D := D) (ci := 12) (v := .ref (aR 7)) (C := RX12) (T := TX12) (N := 18) hx hb hts hiX12 hown hK hP 0 rfl rfl 11 (by decide) hf28 (fun _ z => z) rfl dX12_element_13 ?_
    refine lv_iload_n hx hb dX12_element_16 rfl (lv_at hl 1 rfl) ?_
    obtain ⟨g17, h⟩ := k_guard h
    refine va_iald hx hb hK hP 1 0 rfl rfl g17 dX12_element_17 ?_
    refine lv_iconst (v := 2) hx hb dX12_element_18 (by decide) ?_
    have B38 : ∀ (q_thrown : Int32) (H : Heap) (locs : List Loc) (ls : Array Slot), va_P D vwCl (Wd61 cI aR q_hasImage q_place q_rowAt q_rowEnd q_seed q_thrown q_kept q_size q_element) H → va_D A (Wd61 cI aR q_hasImage q_place q_rowAt q_rowEnd q_seed q_thrown q_kept q_size q_element) → va_S A s.heap H locs → lv_has ls 3 [(0, .ref (aR 0)), (1, .int x1), (2, .int x2)] → S_MD_element_J38 x1 x2 q_element = some o → W p l e rm_X12_element s m ([.ref (aR 0), .int x1, .int x2] : List Value).toArray below meth c H locs 0 0 Q (F0 m 38 ls [.ref (aR 0)]) := by
      intro q_thrown H locs ls hP hD hS hl h
      rw [S_MD_element_J38] at h
      refine lv_iconst (v := 2) hx hb dX12_element_38 (by decide) ?_
      refine lv_goto (tgt := 43) hx hb dX12_element_39 (by decide) ?_
      exact B43 2 q_thrown H locs ls hP hD hS hl h
    refine lv_icmp_ne (tgt := 38) hx hb dX12_element_19 (by decide) (fun c19 => ?_) (fun c19 => ?_)
    · have h := k_neg c19 h
      exact B38 q_thrown H locs ls hP hD hS hl h
    · have h := k_pos c19 h
      refine lv_iload_n hx hb dX12_element_22 rfl (lv_at hl 2 rfl) ?_
      refine lv_iconst (v := 0) hx hb dX12_element_23 (by decide) ?_
      refine lv_aload_n hx hb dX12_element_24 rfl (lv_at hl 0 rfl) ?_
      refine va_get (D := D) (ci := 12) (v := .ref (aR 11)) (C := RX12) (T := TX12) (N := 18) hx hb hts hiX12 hown hK hP 0 rfl rfl 15 (by decide) hf40 (fun _ z => z) rfl dX12_element_25 ?_
      refine lv_iload_n hx hb dX12_element_28 rfl (lv_at hl 1 rfl) ?_
      refine va_iald hx hb hK hP 2 0 rfl rfl g17 dX12_element_29 ?_
      refine lv_iconst (v := 1) hx hb dX12_element_30 (by decide) ?_
      refine lv_isub hx hb dX12_element_31 ?_
      refine k_callS (As := [.int x2, .int 0, .int ((q_size x1.toNatClampNeg) - 1)]) (rest := [.ref (aR 0)]) (st1 := [.int (S_MD_isIn x2 0 ((q_size x1.toNatClampNeg) - 1)), .ref (aR 0)]) (ws2 := (Wd61 cI aR q_hasImage q_place q_rowAt q_rowEnd q_seed q_thrown q_kept q_size q_element)) hx hb hml hown hts hK hN hA hP hD hS hl (c_MD_isIn l D cI cM cS cJ H.size x2 0 ((q_size x1.toNatClampNeg) - 1) rfl) gX12_element_X12_isIn rfl kdS_X12_isIn [] ⟨rfl, rfl⟩ ⟨Nat.le_of_ble_eq_true rfl, Nat.le_of_ble_eq_true rfl⟩ ⟨Nat.zero_le _, Nat.zero_le _⟩ rfl rfl (by decide +kernel) (k_rp rfl (by decide +kernel)) rfl rfl (Nat.le_of_ble_eq_true rfl) dX12_element_32 rfl (fun H locs hP hD hS => ?_)
      refine lv_if_ne (tgt := 42) hx hb dX12_element_35 (by decide) (fun c35 => ?_) (fun c35 => ?_)
      · have h := k_neg c35 h
        refine lv_iconst (v := 0) hx hb dX12_element_42 (by decide) ?_
        exact B43 0 q_thrown H locs ls hP hD hS hl h
      · have h := k_pos c35 h
        exact B38 q_thrown H locs ls hP hD hS hl h
  · have h := k_pos c5 h
    refine lv_iconst (v := 1) hx hb dX12_element_8 (by decide) ?_
    refine lv_goto (tgt := 43) hx hb dX12_element_9 (by decide) ?_
    exact B43 1 q_thrown H locs ls hP hD hS hl h
abbrev rm_X12_copy : Room := { frames := 2, cells := 0, slots := 0, locals := 42 }
set_option maxHeartbeats 4000000 in
set_option maxRecDepth 100000 in
theorem c_MD_copy (l : Launch) (D : va_G) (cI cM cS cJ : ClassId) (aR : Nat → Nat) (sz : Nat) (x1 : Int32) (x2 : Int32) (x3 : Int32) (x4 : Int32) (x5 : Int32) (q_hasImage : Int32) (q_place : Int32) (q_rowAt : Int32) (q_rowEnd : Int32) (q_seed : Int32) (q_thrown : Int32) (q_kept : Nat → Int32) (q_sort : Nat → Int32) (q_size : Nat → Int32) (q_element : Nat → Int32) {o : (Int32) × (Nat → Int32)} (hsem : S_MD_copy x1 x2 x3 x4 x5 q_kept q_sort q_size q_element = some o) : kMet l yX12_copy wsX12_copy rm_X12_copy [.ref (aR 0), .int x1, .int x2, .int x3, .int x4, .int x5] D (kT cI cM cS cJ) (Wd60 cI aR q_hasImage q_place q_rowAt q_rowEnd q_seed q_thrown q_kept q_sort q_size q_element) sz (some (.int o.1)) (Wd60 cI aR q_hasImage q_place q_rowAt q_rowEnd q_seed q_thrown q_kept q_sort q_size o.2) := by
  refine k_metI (by decide) rfl rfl (Nat.le_of_ble_eq_true rfl) ?_
  intro p e s m below meth c ls Q A hx hb hml hts hown hK hN hA hP hD hS hl hsz hnm hret
  have hown : s.vm.findClass RX12 = some m.cls := hown
  have hf28 := hts (.fieldLink RX12 28 "PlumbLineModel" "kept" "[I") (List.mem_of_getElem? (i := 1) rfl)
  have hf37 := hts (.fieldLink RX12 37 "PlumbLineModel" "sort" "[I") (List.mem_of_getElem? (i := 2) rfl)
  have hf40 := hts (.fieldLink RX12 40 "PlumbLineModel" "size" "[I") (List.mem_of_getElem? (i := 3) rfl)
  have hf43 := hts (.fieldLink RX12 43 "PlumbLineModel" "element" "[I") (List.mem_of_getElem? (i := 4) rfl)
  have hiX12 : ∀ w ∈ u_ws RX12 TX12 18, w ∈ wsX12_copy := fun w h => List.mem_cons_of_mem _ (List.mem_append_right _ h)
  replace hl : lv_has ls 8 [(0, .ref (aR 0)), (1, .int x1), (2, .int x2), (3, .int x3), (4, .int x4), (5, .int x5)] := hl
  have h := hsem
  clear hsem
  rw [S_MD_copy] at h
  refine lv_iload_n hx hb dX12_copy_0 rfl (lv_at hl 1 rfl) ?_
  obtain ⟨r1, g1, h⟩ := k_bind h
  refine k_callS (As := [.int x1]) (rest := []) (st1 := [.int r1]) (ws2 := (Wd60 cI aR q_hasImage q_place q_rowAt q_rowEnd q_seed q_thrown q_kept q_sort q_size q_element)) hx hb hml hown hts hK hN hA hP hD hS hl (c_MD_isShelf l D cI cM cS cJ s.heap.size x1 g1) gX12_copy_X12_isShelf rfl kdS_X12_isShelf [] ⟨rfl, rfl⟩ ⟨Nat.le_of_ble_eq_true rfl, Nat.le_of_ble_eq_true rfl⟩ ⟨Nat.zero_le _, Nat.zero_le _⟩ rfl rfl (by decide +kernel) (k_rp rfl (by decide +kernel)) rfl rfl (Nat.le_of_ble_eq_true rfl) dX12_copy_1 rfl (fun H locs hP hD hS => ?_)
  refine lv_if_eq (tgt := 14) hx hb dX12_copy_4 (by decide) (fun c4 => ?_) (fun c4 => ?_)
  · have h := k_pos c4 h
    refine lv_iconst (v := (-1)) hx hb dX12_copy_14 (by decide) ?_
    have h := Option.some.inj h; subst h
    exact hret _ _ _ _ hP hS dX12_copy_15
  · have h := k_neg c4 h
    refine lv_iload_n hx hb dX12_copy_7 rfl (lv_at hl 3 rfl) ?_
    obtain ⟨r8, g8, h⟩ := k_bind h
    refine k_callS (As := [.int x3]) (rest := []) (st1 := [.int r8]) (ws2 := (Wd60 cI aR q_hasImage q_place q_rowAt q_rowEnd q_seed q_thrown q_kept q_sort q_size q_element)) hx hb hml hown hts hK hN hA hP hD hS hl (c_MD_isShelf l D cI cM cS cJ H.size x3 g8) gX12_copy_X12_isShelf rfl kdS_X12_isShelf [] ⟨rfl, rfl⟩ ⟨Nat.le_of_ble_eq_true rfl, Nat.le_of_ble_eq_true rfl⟩ ⟨Nat.zero_le _, Nat.zero_le _⟩ rfl rfl (by decide +kernel) (k_rp rfl (by decide +kernel)) rfl rfl (Nat.le_of_ble_eq_true rfl) dX12_copy_8 rfl (fun H locs hP hD hS => ?_)
    refine lv_if_ne (tgt := 16) hx hb dX12_copy_11 (by decide) (fun c11 => ?_) (fun c11 => ?_)
    · have h := k_neg c11 h
      refine lv_aload_n hx hb dX12_copy_16 rfl (lv_at hl 0 rfl) ?_
      refine va_get (D := D) (ci := 12) (v := .ref (aR 7)) (C := RX12) (T := TX12) (N := 18) hx hb hts hiX12 hown hK hP 0 rfl rfl 11 (by decide) hf28 (fun _ z => z) rfl dX12_copy_17 ?_
      refine lv_iload_n hx hb dX12_copy_20 rfl (lv_at hl 1 rfl) ?_
      obtain ⟨g21, h⟩ := k_guard h
      refine va_iald hx hb hK hP 1 0 rfl rfl g21 dX12_copy_21 ?_
      refine lv_if_eq (tgt := 34) hx hb dX12_copy_22 (by decide) (fun c22 => ?_) (fun c22 => ?_)
      · have h := k_pos c22 h
        refine lv_bipush (v := (-11)) hx hb dX12_copy_34 (by decide) ?_
        have h := Option.some.inj h; subst h
        exact hret _ _ _ _ hP hS dX12_copy_36
      · have h := k_neg c22 h
        refine lv_aload_n hx hb dX12_copy_25 rfl (lv_at hl 0 rfl) ?_
        refine va_get (D := D) (ci := 12) (v := .ref (aR 7)) (C := RX12) (T := TX12) (N := 18) hx hb hts hiX12 hown hK hP 0 rfl rfl 11 (by decide) hf28 (fun _ z => z) rfl dX12_copy_26 ?_
        refine lv_iload_n hx hb dX12_copy_29 rfl (lv_at hl 3 rfl) ?_
        obtain ⟨g30, h⟩ := k_guard h
        refine va_iald hx hb hK hP 1 0 rfl rfl g30 dX12_copy_30 ?_
        refine lv_if_ne (tgt := 37) hx hb dX12_copy_31 (by decide) (fun c31 => ?_) (fun c31 => ?_)
        · have h := k_neg c31 h
          refine lv_aload_n hx hb dX12_copy_37 rfl (lv_at hl 0 rfl) ?_
          refine va_get (D := D) (ci := 12) (v := .ref (aR 7)) (C := RX12) (T := TX12) (N := 18) hx hb hts hiX12 hown hK hP 0 rfl rfl 11 (by decide) hf28 (fun _ z => z) rfl dX12_copy_38 ?_
          refine lv_iload_n hx hb dX12_copy_41 rfl (lv_at hl 1 rfl) ?_
          refine va_iald hx hb hK hP 1 0 rfl rfl g21 dX12_copy_42 ?_
          refine lv_iconst (v := 2) hx hb dX12_copy_43 (by decide) ?_
          refine lv_icmp_ne (tgt := 72) hx hb dX12_copy_44 (by decide) (fun c44 => ?_) (fun c44 => ?_)
          · have h := k_neg c44 h
            refine lv_bipush (v := (-12)) hx hb dX12_copy_72 (by decide) ?_
            have h := Option.some.inj h; subst h
            exact hret _ _ _ _ hP hS dX12_copy_74
          · have h := k_pos c44 h
            refine lv_aload_n hx hb dX12_copy_47 rfl (lv_at hl 0 rfl) ?_
            refine va_get (D := D) (ci := 12) (v := .ref (aR 7)) (C := RX12) (T := TX12) (N := 18) hx hb hts hiX12 hown hK hP 0 rfl rfl 11 (by decide) hf28 (fun _ z => z) rfl dX12_copy_48 ?_
            refine lv_iload_n hx hb dX12_copy_51 rfl (lv_at hl 3 rfl) ?_
            refine va_iald hx hb hK hP 1 0 rfl rfl g30 dX12_copy_52 ?_
            refine lv_iconst (v := 2) hx hb dX12_copy_53 (by decide) ?_
            refine lv_icmp_ne (tgt := 72) hx hb dX12_copy_54 (by decide) (fun c54 => ?_) (fun c54 => ?_)
            · have h := k_neg c54 h
              refine lv_bipush (v := (-12)) hx hb dX12_copy_72 (by decide) ?_
              have h := Option.some.inj h; subst h
              exact hret _ _ _ _ hP hS dX12_copy_74
            · have h := k_pos c54 h
              refine lv_aload_n hx hb dX12_copy_57 rfl (lv_at hl 0 rfl) ?_
              refine va_get (D := D) (ci := 12) (v := .ref (aR 10)) (C := RX12) (T := TX12) (N := 18) hx hb hts hiX12 hown hK hP 0 rfl rfl 14 (by decide) hf37 (fun _ z => z) rfl dX12_copy_58 ?_
              refine lv_iload_n hx hb dX12_copy_61 rfl (lv_at hl 1 rfl) ?_
              refine va_iald hx hb hK hP 2 0 rfl rfl g21 dX12_copy_62 ?_
              refine lv_aload_n hx hb dX12_copy_63 rfl (lv_at hl 0 rfl) ?_
              refine va_get (D := D) (ci := 12) (v := .ref (aR 10)) (C := RX12) (T := TX12) (N := 18) hx hb hts hiX12 hown hK hP 0 rfl rfl 14 (by decide) hf37 (fun _ z => z) rfl dX12_copy_64 ?_
              refine lv_iload_n hx hb dX12_copy_67 rfl (lv_at hl 3 rfl) ?_
              refine va_iald hx hb hK hP 2 0 rfl rfl g30 dX12_copy_68 ?_
              refine lv_icmp_eq (tgt := 75) hx hb dX12_copy_69 (by decide) (fun c69 => ?_) (fun c69 => ?_)
              · have h := k_pos c69 h
                refine lv_iload hx hb dX12_copy_75 (lv_at hl 5 rfl) ?_
                refine lv_if_lt (tgt := 116) hx hb dX12_copy_77 (by decide) (fun c77 => ?_) (fun c77 => ?_)
                · have h := k_pos c77 h
                  refine lv_bipush (v := (-13)) hx hb dX12_copy_116 (by decide) ?_
                  have h := Option.some.inj h; subst h
                  exact hret _ _ _ _ hP hS dX12_copy_118
                · have h := k_neg c77 h
                  refine lv_iload_n hx hb dX12_copy_80 rfl (lv_at hl 2 rfl) ?_
                  refine lv_if_lt (tgt := 116) hx hb dX12_copy_81 (by decide) (fun c81 => ?_) (fun c81 => ?_)
                  · have h := k_pos c81 h
                    refine lv_bipush (v := (-13)) hx hb dX12_copy_116 (by decide) ?_
                    have h := Option.some.inj h; subst h
                    exact hret _ _ _ _ hP hS dX12_copy_118
                  · have h := k_neg c81 h
                    refine lv_iload hx hb dX12_copy_84 (lv_at hl 4 rfl) ?_
                    refine lv_if_lt (tgt := 116) hx hb dX12_copy_86 (by decide) (fun c86 => ?_) (fun c86 => ?_)
                    · have h := k_pos c86 h
                      refine lv_bipush (v := (-13)) hx hb dX12_copy_116 (by decide) ?_
                      have h := Option.some.inj h; subst h
                      exact hret _ _ _ _ hP hS dX12_copy_118
                    · have h := k_neg c86 h
                      refine lv_iload hx hb dX12_copy_89 (lv_at hl 5 rfl) ?_
                      refine lv_aload_n hx hb dX12_copy_91 rfl (lv_at hl 0 rfl) ?_
                      refine va_get (D := D) (ci := 12) (v := .ref (aR 11)) (C := RX12) (T := TX12) (N := 18) hx hb hts hiX12 hown hK hP 0 rfl rfl 15 (by decide) hf40 (fun _ z => z) rfl dX12_copy_92 ?_
                      refine lv_iload_n hx hb dX12_copy_95 rfl (lv_at hl 1 rfl) ?_
                      refine va_iald hx hb hK hP 3 0 rfl rfl g21 dX12_copy_96 ?_
                      refine lv_iload_n hx hb dX12_copy_97 rfl (lv_at hl 2 rfl) ?_
                      refine lv_isub hx hb dX12_copy_98 ?_
                      refine lv_icmp_gt (tgt := 116) hx hb dX12_copy_99 (by decide) (fun c99 => ?_) (fun c99 => ?_)
                      · have h := k_pos c99 h
                        refine lv_bipush (v := (-13)) hx hb dX12_copy_116 (by decide) ?_
                        have h := Option.some.inj h; subst h
                        exact hret _ _ _ _ hP hS dX12_copy_118
                      · have h := k_neg c99 h
                        refine lv_iload hx hb dX12_copy_102 (lv_at hl 5 rfl) ?_
                        refine lv_aload_n hx hb dX12_copy_104 rfl (lv_at hl 0 rfl) ?_
                        refine va_get (D := D) (ci := 12) (v := .ref (aR 11)) (C := RX12) (T := TX12) (N := 18) hx hb hts hiX12 hown hK hP 0 rfl rfl 15 (by decide) hf40 (fun _ z => z) rfl dX12_copy_105 ?_
                        refine lv_iload_n hx hb dX12_copy_108 rfl (lv_at hl 3 rfl) ?_
                        refine va_iald hx hb hK hP 3 0 rfl rfl g30 dX12_copy_109 ?_
                        refine lv_iload hx hb dX12_copy_110 (lv_at hl 4 rfl) ?_
                        refine lv_isub hx hb dX12_copy_112 ?_
                        refine lv_icmp_le (tgt := 119) hx hb dX12_copy_113 (by decide) (fun c113 => ?_) (fun c113 => ?_)
                        · have h := k_pos c113 h
                          refine lv_iconst (v := 0) hx hb dX12_copy_119 (by decide) ?_
                          have B122 : ∀ (n122 : Nat) (y6 : Int32) (q_element : Nat → Int32) (H : Heap) (locs : List Loc) (ls : Array Slot), va_P D vwCl (Wd60 cI aR q_hasImage q_place q_rowAt q_rowEnd q_seed q_thrown q_kept q_sort q_size q_element) H → va_D A (Wd60 cI aR q_hasImage q_place q_rowAt q_rowEnd q_seed q_thrown q_kept q_sort q_size q_element) → va_S A s.heap H locs → lv_has ls 8 [(0, .ref (aR 0)), (1, .int x1), (2, .int x2), (3, .int x3), (4, .int x4), (5, .int x5), (6, .int y6)] → S_MD_copy_L122 x1 x2 x3 x4 x5 n122 y6 q_element = some o → W p l e rm_X12_copy s m ([.ref (aR 0), .int x1, .int x2, .int x3, .int x4, .int x5] : List Value).toArray below meth c H locs 0 0 Q (F0 m 122 ls []) := by
                            intro n122
                            induction n122 with
                            | zero => intro y6 q_element H locs ls hP hD hS hl h; exact absurd h (by simp [S_MD_copy_L122])
                            | succ n122 ih122 =>
                              intro y6 q_element H locs ls hP hD hS hl h
                              rw [S_MD_copy_L122] at h
                              refine lv_iload hx hb dX12_copy_122 (lv_at hl 6 rfl) ?_
                              refine lv_iload hx hb dX12_copy_124 (lv_at hl 5 rfl) ?_
                              refine lv_icmp_ge (tgt := 184) hx hb dX12_copy_126 (by decide) (fun c126 => ?_) (fun c126 => ?_)
                              · have h := k_pos c126 h
                                refine lv_iload hx hb dX12_copy_184 (lv_at hl 5 rfl) ?_
                                have h := Option.some.inj h; subst h
                                exact hret _ _ _ _ hP hS dX12_copy_186
                              · have h := k_neg c126 h
                                refine lv_iload_n hx hb dX12_copy_129 rfl (lv_at hl 2 rfl) ?_
                                refine lv_iload hx hb dX12_copy_130 (lv_at hl 4 rfl) ?_
                                have B147 : ∀ (y6 : Int32) (v0 : Int32) (q_element : Nat → Int32) (H : Heap) (locs : List Loc) (ls : Array Slot), va_P D vwCl (Wd60 cI aR q_hasImage q_place q_rowAt q_rowEnd q_seed q_thrown q_kept q_sort q_size q_element) H → va_D A (Wd60 cI aR q_hasImage q_place q_rowAt q_rowEnd q_seed q_thrown q_kept q_sort q_size q_element) → va_S A s.heap H locs → lv_has ls 8 [(0, .ref (aR 0)), (1, .int x1), (2, .int x2), (3, .int x3), (4, .int x4), (5, .int x5), (6, .int y6)] → S_MD_copy_J147 (S_MD_copy_L122 x1 x2 x3 x4 x5 n122) x1 x2 x3 x4 y6 v0 q_element = some o → W p l e rm_X12_copy s m ([.ref (aR 0), .int x1, .int x2, .int x3, .int x4, .int x5] : List Value).toArray below meth c H locs 0 0 Q (F0 m 147 ls [.int v0]) := by
                                  intro y6 v0 q_element H locs ls hP hD hS hl h
                                  rw [S_MD_copy_J147] at h
                                  refine lv_istore (lv' := [(7, .int v0), (0, .ref (aR 0)), (1, .int x1), (2, .int x2), (3, .int x3), (4, .int x4), (5, .int x5), (6, .int y6)]) hx hb dX12_copy_147 hl (by decide) rfl (fun ls hl => ?_)
                                  refine lv_aload_n hx hb dX12_copy_149 rfl (lv_at hl 1 rfl) ?_
                                  refine va_get (D := D) (ci := 12) (v := .ref (aR 12)) (C := RX12) (T := TX12) (N := 18) hx hb hts hiX12 hown hK hP 0 rfl rfl 16 (by decide) hf43 (fun _ z => z) rfl dX12_copy_150 ?_
                                  refine lv_bipush (v := 100) hx hb dX12_copy_153 (by decide) ?_
                                  refine lv_iload_n hx hb dX12_copy_155 rfl (lv_at hl 4 rfl) ?_
                                  refine lv_imul hx hb dX12_copy_156 ?_
                                  refine lv_iload hx hb dX12_copy_157 (lv_at hl 5 rfl) ?_
                                  refine lv_iadd hx hb dX12_copy_159 ?_
                                  refine lv_iload hx hb dX12_copy_160 (lv_at hl 0 rfl) ?_
                                  refine lv_iadd hx hb dX12_copy_162 ?_
                                  refine lv_aload_n hx hb dX12_copy_163 rfl (lv_at hl 1 rfl) ?_
                                  refine va_get (D := D) (ci := 12) (v := .ref (aR 12)) (C := RX12) (T := TX12) (N := 18) hx hb hts hiX12 hown hK hP 0 rfl rfl 16 (by decide) hf43 (fun _ z => z) rfl dX12_copy_164 ?_
                                  refine lv_bipush (v := 100) hx hb dX12_copy_167 (by decide) ?_
                                  refine lv_iload_n hx hb dX12_copy_169 rfl (lv_at hl 2 rfl) ?_
                                  refine lv_imul hx hb dX12_copy_170 ?_
                                  refine lv_iload_n hx hb dX12_copy_171 rfl (lv_at hl 3 rfl) ?_
                                  refine lv_iadd hx hb dX12_copy_172 ?_
                                  refine lv_iload hx hb dX12_copy_173 (lv_at hl 0 rfl) ?_
                                  refine lv_iadd hx hb dX12_copy_175 ?_
                                  obtain ⟨g176, h⟩ := k_guard h
                                  refine va_iald hx hb hK hP 4 0 rfl rfl g176 dX12_copy_176 ?_
                                  obtain ⟨g177, h⟩ := k_guard h
                                  refine va_iast hx hb hK hP hD hS 4 0 rfl rfl g177 dX12_copy_177 (fun H locs hP hD hS => ?_)
                                  replace hP : va_P D vwCl (Wd60 cI aR q_hasImage q_place q_rowAt q_rowEnd q_seed q_thrown q_kept q_sort q_size (upd q_element ((((100 : Int32) * x3) + x4) + v0).toNatClampNeg (q_element ((((100 : Int32) * x1) + x2) + v0).toNatClampNeg))) H := hP
                                  replace hD : va_D A (Wd60 cI aR q_hasImage q_place q_rowAt q_rowEnd q_seed q_thrown q_kept q_sort q_size (upd q_element ((((100 : Int32) * x3) + x4) + v0).toNatClampNeg (q_element ((((100 : Int32) * x1) + x2) + v0).toNatClampNeg))) := hD
                                  refine lv_iinc (v := (y6 + 1)) (lv' := [(6, .int (y6 + 1)), (7, .int v0), (0, .ref (aR 0)), (1, .int x1), (2, .int x2), (3, .int x3), (4, .int x4), (5, .int x5)]) hx hb dX12_copy_178 hl (k := 7) rfl (by first | rfl | decide) (by decide) rfl (fun ls hl => ?_)
                                  refine lv_goto (tgt := 122) hx hb dX12_copy_181 (by decide) ?_
                                  exact ih122 (y6 + 1) (upd q_element ((((100 : Int32) * x3) + x4) + v0).toNatClampNeg (q_element ((((100 : Int32) * x1) + x2) + v0).toNatClampNeg)) H locs ls hP hD hS (lv_sub hl [2, 3, 4, 5, 6, 7, 0] rfl) h
                                refine lv_icmp_le (tgt := 140) hx hb dX12_copy_132 (by decide) (fun c132 => ?_) (fun c132 => ?_)
                                · have h := k_pos c132 h
                                  refine lv_iload hx hb dX12_copy_140 (lv_at hl 5 rfl) ?_
                                  refine lv_iconst (v := 1) hx hb dX12_copy_142 (by decide) ?_
                                  refine lv_isub hx hb dX12_copy_143 ?_
                                  refine lv_iload hx hb dX12_copy_144 (lv_at hl 6 rfl) ?_
                                  refine lv_isub hx hb dX12_copy_146 ?_
                                  exact B147 y6 ((x5 - 1) - y6) q_element H locs ls hP hD hS hl h
                                · have h := k_neg c132 h
                                  refine lv_iload hx hb dX12_copy_135 (lv_at hl 6 rfl) ?_
                                  refine lv_goto (tgt := 147) hx hb dX12_copy_137 (by decide) ?_
                                  exact B147 y6 y6 q_element H locs ls hP hD hS hl h
                          refine lv_istore (lv' := [(6, .int 0), (0, .ref (aR 0)), (1, .int x1), (2, .int x2), (3, .int x3), (4, .int x4), (5, .int x5)]) hx hb dX12_copy_120 hl (by decide) rfl (fun ls hl => ?_)
                          exact B122 lfu 0 q_element H locs ls hP hD hS (lv_sub hl [1, 2, 3, 4, 5, 6, 0] rfl) h
                        · have h := k_neg c113 h
                          refine lv_bipush (v := (-13)) hx hb dX12_copy_116 (by decide) ?_
                          have h := Option.some.inj h; subst h
                          exact hret _ _ _ _ hP hS dX12_copy_118
              · have h := k_neg c69 h
                refine lv_bipush (v := (-12)) hx hb dX12_copy_72 (by decide) ?_
                have h := Option.some.inj h; subst h
                exact hret _ _ _ _ hP hS dX12_copy_74
        · have h := k_pos c31 h
          refine lv_bipush (v := (-11)) hx hb dX12_copy_34 (by decide) ?_
          have h := Option.some.inj h; subst h
          exact hret _ _ _ _ hP hS dX12_copy_36
    · have h := k_pos c11 h
      refine lv_iconst (v := (-1)) hx hb dX12_copy_14 (by decide) ?_
      have h := Option.some.inj h; subst h
      exact hret _ _ _ _ hP hS dX12_copy_15
abbrev rm_X12_costBy : Room := { frames := 0, cells := 0, slots := 0, locals := 0 }
set_option maxHeartbeats 4000000 in
set_option maxRecDepth 100000 in
theorem c_MD_costBy (l : Launch) (D : va_G) (cI cM cS cJ : ClassId) (sz : Nat) (x0 : Int32) (x1 : Int32) {o : (Int32)} (hsem : S_MD_costBy x0 x1 = o) : kMet l yX12_costBy wsX12_costBy rm_X12_costBy [.int x0, .int x1] D (kT cI cM cS cJ) (Wd0) sz (some (.int o)) (Wd0) := by
  refine k_metI (by decide) rfl rfl (Nat.le_of_ble_eq_true rfl) ?_
  intro p e s m below meth c ls Q A hx hb hml hts hown hK hN hA hP hD hS hl hsz hnm hret
  have hown : s.vm.findClass RX12 = some m.cls := hown
  replace hl : lv_has ls 2 [(0, .int x0), (1, .int x1)] := hl
  have h := hsem
  clear hsem
  rw [S_MD_costBy] at h
  refine lv_iload_n hx hb dX12_costBy_0 rfl (lv_at hl 0 rfl) ?_
  by_cases s1_1 : x0 = 1
  · refine k_tblI (tgt := 44) (v := 1) hx hb dX12_costBy_1 s1_1 (by decide) (by decide) rfl (by decide) ?_
    have h := k_pos s1_1 h
    refine lv_iconst (v := 3) hx hb dX12_costBy_44 (by decide) ?_
    refine lv_iload_n hx hb dX12_costBy_45 rfl (lv_at hl 1 rfl) ?_
    refine lv_iadd hx hb dX12_costBy_46 ?_
    subst h
    exact hret _ _ _ _ hP hS dX12_costBy_47
  · have h := k_neg s1_1 h
    by_cases s1_2 : x0 = 2
    · refine k_tblI (tgt := 48) (v := 2) hx hb dX12_costBy_1 s1_2 (by decide) (by decide) rfl (by decide) ?_
      have h := k_pos s1_2 h
      refine lv_iconst (v := 1) hx hb dX12_costBy_48 (by decide) ?_
      subst h
      exact hret _ _ _ _ hP hS dX12_costBy_49
    · have h := k_neg s1_2 h
      by_cases s1_3 : x0 = 3
      · refine k_tblI (tgt := 50) (v := 3) hx hb dX12_costBy_1 s1_3 (by decide) (by decide) rfl (by decide) ?_
        have h := k_pos s1_3 h
        refine lv_iconst (v := 2) hx hb dX12_costBy_50 (by decide) ?_
        subst h
        exact hret _ _ _ _ hP hS dX12_costBy_51
      · have h := k_neg s1_3 h
        by_cases s1_4 : x0 = 4
        · refine k_tblI (tgt := 52) (v := 4) hx hb dX12_costBy_1 s1_4 (by decide) (by decide) rfl (by decide) ?_
          have h := k_pos s1_4 h
          refine lv_iconst (v := 2) hx hb dX12_costBy_52 (by decide) ?_
          refine lv_iconst (v := 3) hx hb dX12_costBy_53 (by decide) ?_
          refine lv_iload_n hx hb dX12_costBy_54 rfl (lv_at hl 1 rfl) ?_
          refine lv_iadd hx hb dX12_costBy_55 ?_
          refine lv_imul hx hb dX12_costBy_56 ?_
          subst h
          exact hret _ _ _ _ hP hS dX12_costBy_57
        · have h := k_neg s1_4 h
          by_cases s1_5 : x0 = 5
          · refine k_tblI (tgt := 58) (v := 5) hx hb dX12_costBy_1 s1_5 (by decide) (by decide) rfl (by decide) ?_
            have h := k_pos s1_5 h
            refine lv_iconst (v := 0) hx hb dX12_costBy_58 (by decide) ?_
            subst h
            exact hret _ _ _ _ hP hS dX12_costBy_59
          · have h := k_neg s1_5 h
            by_cases s1_6 : x0 = 6
            · refine k_tblI (tgt := 52) (v := 6) hx hb dX12_costBy_1 s1_6 (by decide) (by decide) rfl (by decide) ?_
              have h := k_pos s1_6 h
              refine lv_iconst (v := 2) hx hb dX12_costBy_52 (by decide) ?_
              refine lv_iconst (v := 3) hx hb dX12_costBy_53 (by decide) ?_
              refine lv_iload_n hx hb dX12_costBy_54 rfl (lv_at hl 1 rfl) ?_
              refine lv_iadd hx hb dX12_costBy_55 ?_
              refine lv_imul hx hb dX12_costBy_56 ?_
              subst h
              exact hret _ _ _ _ hP hS dX12_costBy_57
            · have h := k_neg s1_6 h
              by_cases s1_7 : x0 = 7
              · refine k_tblI (tgt := 60) (v := 7) hx hb dX12_costBy_1 s1_7 (by decide) (by decide) rfl (by decide) ?_
                have h := k_pos s1_7 h
                refine lv_bipush (v := 6) hx hb dX12_costBy_60 (by decide) ?_
                subst h
                exact hret _ _ _ _ hP hS dX12_costBy_62
              · have h := k_neg s1_7 h
                refine lv_tableOut (tgt := 63) hx hb dX12_costBy_1 (k_out [1, 2, 3, 4, 5, 6, 7] (by decide) (List.forall_mem_cons.mpr ⟨s1_1, (List.forall_mem_cons.mpr ⟨s1_2, (List.forall_mem_cons.mpr ⟨s1_3, (List.forall_mem_cons.mpr ⟨s1_4, (List.forall_mem_cons.mpr ⟨s1_5, (List.forall_mem_cons.mpr ⟨s1_6, (List.forall_mem_cons.mpr ⟨s1_7, (fun _ z => absurd z List.not_mem_nil)⟩)⟩)⟩)⟩)⟩)⟩)⟩)) (by decide) ?_
                refine lv_iconst (v := 3) hx hb dX12_costBy_63 (by decide) ?_
                subst h
                exact hret _ _ _ _ hP hS dX12_costBy_64
theorem kdS_X12_costBy : yX12_costBy.cls ≠ "java/lang/invoke/MethodHandle" ∧ yX12_costBy.cls ≠ "java/lang/invoke/VarHandle" ∧ (parseMethodDescriptor yX12_costBy.desc).map (fun d => d.parameters.length) = some 2 := by decide +kernel
abbrev rm_X12_cost : Room := { frames := 3, cells := 0, slots := 0, locals := 63 }
set_option maxHeartbeats 4000000 in
set_option maxRecDepth 100000 in
theorem c_MD_cost (l : Launch) (D : va_G) (cI cM cS cJ : ClassId) (aR : Nat → Nat) (sz : Nat) (x1 : Int32) (q_hasImage : Int32) (q_place : Int32) (q_rowAt : Int32) (q_rowEnd : Int32) (q_seed : Int32) (q_thrown : Int32) (q_kept : Nat → Int32) (q_keptKind : Nat → Int32) (q_keptFigure : Nat → Int32) {o : (Int32)} (hsem : S_MD_cost x1 q_kept q_keptKind q_keptFigure = some o) : kMet l yX12_cost wsX12_cost rm_X12_cost [.ref (aR 0), .int x1] D (kT cI cM cS cJ) (Wd59 cI aR q_hasImage q_place q_rowAt q_rowEnd q_seed q_thrown q_kept q_keptKind q_keptFigure) sz (some (.int o)) (Wd59 cI aR q_hasImage q_place q_rowAt q_rowEnd q_seed q_thrown q_kept q_keptKind q_keptFigure) := by
  refine k_metI (by decide) rfl rfl (Nat.le_of_ble_eq_true rfl) ?_
  intro p e s m below meth c ls Q A hx hb hml hts hown hK hN hA hP hD hS hl hsz hnm hret
  have hown : s.vm.findClass RX12 = some m.cls := hown
  have hf31 := hts (.fieldLink RX12 31 "PlumbLineModel" "keptKind" "[I") (List.mem_of_getElem? (i := 1) rfl)
  have hf34 := hts (.fieldLink RX12 34 "PlumbLineModel" "keptFigure" "[I") (List.mem_of_getElem? (i := 2) rfl)
  have hiX12 : ∀ w ∈ u_ws RX12 TX12 18, w ∈ wsX12_cost := fun w h => List.mem_cons_of_mem _ (List.mem_append_right _ h)
  replace hl : lv_has ls 3 [(0, .ref (aR 0)), (1, .int x1)] := hl
  have h := hsem
  clear hsem
  rw [S_MD_cost] at h
  refine lv_aload_n hx hb dX12_cost_0 rfl (lv_at hl 0 rfl) ?_
  refine lv_iload_n hx hb dX12_cost_1 rfl (lv_at hl 1 rfl) ?_
  obtain ⟨r2, g2, h⟩ := k_bind h
  refine k_callV (As := [.int x1]) (rest := []) (st1 := [.int r2]) (ws2 := (Wd59 cI aR q_hasImage q_place q_rowAt q_rowEnd q_seed q_thrown q_kept q_keptKind q_keptFigure)) hx hb hml hown hts hK hN hA hP hD hS hl (c_MD_wrongKept l D cI cM cS cJ aR s.heap.size x1 q_hasImage q_place q_rowAt q_rowEnd q_seed q_thrown q_kept g2) gX12_cost_X12_wrongKept rfl kdV_X12_wrongKept 0 12 rfl rfl rfl [0, 1] ⟨rfl, rfl⟩ ⟨Nat.le_of_ble_eq_true rfl, Nat.le_of_ble_eq_true rfl⟩ ⟨Nat.zero_le _, Nat.zero_le _⟩ rfl rfl (by decide +kernel) (k_rp rfl (by decide +kernel)) rfl rfl (Nat.le_of_ble_eq_true rfl) dX12_cost_2 rfl (fun H locs hP hD hS => ?_)
  refine lv_istore_n (lv' := [(2, .int r2), (0, .ref (aR 0)), (1, .int x1)]) hx hb dX12_cost_5 rfl hl (by decide) rfl (fun ls hl => ?_)
  refine lv_iload_n hx hb dX12_cost_6 rfl (lv_at hl 0 rfl) ?_
  refine lv_if_eq (tgt := 14) hx hb dX12_cost_7 (by decide) (fun c7 => ?_) (fun c7 => ?_)
  · have h := k_pos c7 h
    refine lv_aload_n hx hb dX12_cost_14 rfl (lv_at hl 1 rfl) ?_
    refine va_get (D := D) (ci := 12) (v := .ref (aR 8)) (C := RX12) (T := TX12) (N := 18) hx hb hts hiX12 hown hK hP 0 rfl rfl 12 (by decide) hf31 (fun _ z => z) rfl dX12_cost_15 ?_
    refine lv_iload_n hx hb dX12_cost_18 rfl (lv_at hl 2 rfl) ?_
    obtain ⟨g19, h⟩ := k_guard h
    refine va_iald hx hb hK hP 2 0 rfl rfl g19 dX12_cost_19 ?_
    refine lv_aload_n hx hb dX12_cost_20 rfl (lv_at hl 1 rfl) ?_
    refine va_get (D := D) (ci := 12) (v := .ref (aR 9)) (C := RX12) (T := TX12) (N := 18) hx hb hts hiX12 hown hK hP 0 rfl rfl 13 (by decide) hf34 (fun _ z => z) rfl dX12_cost_21 ?_
    refine lv_iload_n hx hb dX12_cost_24 rfl (lv_at hl 2 rfl) ?_
    refine va_iald hx hb hK hP 3 0 rfl rfl g19 dX12_cost_25 ?_
    refine k_callS (As := [.int (q_keptKind x1.toNatClampNeg), .int (q_keptFigure x1.toNatClampNeg)]) (rest := []) (st1 := [.int (S_MD_costBy (q_keptKind x1.toNatClampNeg) (q_keptFigure x1.toNatClampNeg))]) (ws2 := (Wd59 cI aR q_hasImage q_place q_rowAt q_rowEnd q_seed q_thrown q_kept q_keptKind q_keptFigure)) hx hb hml hown hts hK hN hA hP hD hS hl (c_MD_costBy l D cI cM cS cJ H.size (q_keptKind x1.toNatClampNeg) (q_keptFigure x1.toNatClampNeg) rfl) gX12_cost_X12_costBy rfl kdS_X12_costBy [] ⟨rfl, rfl⟩ ⟨Nat.le_of_ble_eq_true rfl, Nat.le_of_ble_eq_true rfl⟩ ⟨Nat.zero_le _, Nat.zero_le _⟩ rfl rfl (by decide +kernel) (k_rp rfl (by decide +kernel)) rfl rfl (Nat.le_of_ble_eq_true rfl) dX12_cost_26 rfl (fun H locs hP hD hS => ?_)
    have h := Option.some.inj h; subst h
    exact hret _ _ _ _ hP hS dX12_cost_29
  · have h := k_neg c7 h
    refine lv_iload_n hx hb dX12_cost_10 rfl (lv_at hl 0 rfl) ?_
    refine lv_goto (tgt := 29) hx hb dX12_cost_11 (by decide) ?_
    have h := Option.some.inj h; subst h
    exact hret _ _ _ _ hP hS dX12_cost_29
