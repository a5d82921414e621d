abbrev Wd55 (cI : ClassId) (aR : Nat → Nat) (q_hasImage : Int32) (q_place : Int32) (q_rowAt : Int32) (q_rowEnd : Int32) (q_seed : Int32) (q_thrown : Int32) (q_s : Nat → Int32) (q_m : Nat → Int32) (q_sort : Nat → Int32) (q_size : Nat → Int32) (q_element : Nat → Int32) : va_W := [((aR 0), .inr (12, [.ref (aR 1), .ref (aR 2), .ref (aR 3), .ref (aR 4), .int q_hasImage, .int q_place, .int q_rowAt, .int q_rowEnd, .ref (aR 5), .ref (aR 6), .int q_seed, .ref (aR 7), .ref (aR 8), .ref (aR 9), .ref (aR 10), .ref (aR 11), .ref (aR 12), .int q_thrown])), ((aR 1), .inl (cI, 37, .inl q_s)), ((aR 2), .inl (cI, 37, .inl q_m)), ((aR 10), .inl (cI, 8, .inl q_sort)), ((aR 11), .inl (cI, 8, .inl q_size)), ((aR 12), .inl (cI, 800, .inl q_element))]
abbrev rm_X12_hasHungSo : Room := { frames := 4, cells := 0, slots := 0, locals := 90 }
set_option maxHeartbeats 4000000 in
set_option maxRecDepth 100000 in
theorem c_MD_hasHungSo (l : Launch) (D : va_G) (cI cM cS cJ : ClassId) (aR : Nat → Nat) (sz : Nat) (x1 : Int32) (x2 : Int32) (x3 : Int32) (q_hasImage : Int32) (q_place : Int32) (q_rowAt : Int32) (q_rowEnd : Int32) (q_seed : Int32) (q_thrown : Int32) (q_s : Nat → Int32) (q_m : Nat → Int32) (q_sort : Nat → Int32) (q_size : Nat → Int32) (q_element : Nat → Int32) {o : (Int32) × (Nat → Int32)} (hsem : S_MD_hasHungSo x1 x2 x3 q_s q_m q_sort q_size q_element = some o) : kMet l yX12_hasHungSo wsX12_hasHungSo rm_X12_hasHungSo [.ref (aR 0), .int x1, .int x2, .int x3] D (kT cI cM cS cJ) (Wd55 cI aR q_hasImage q_place q_rowAt q_rowEnd q_seed q_thrown q_s q_m q_sort q_size q_element) sz (some (.int o.1)) (Wd55 cI aR q_hasImage q_place q_rowAt q_rowEnd q_seed q_thrown q_s o.2 q_sort q_size q_element) := by
  refine k_metZ (by decide) rfl rfl (Nat.le_of_ble_eq_true rfl) ?_
  intro p e s m below meth c ls Q A hx hb hml hts hown hK hN hA hP hD hS hl hsz hnm hret
  have hown : s.vm.findClass RX12 = some m.cls := hown
  have hf9 := hts (.fieldLink RX12 9 "PlumbLineModel" "s" "[I") (List.mem_of_getElem? (i := 1) rfl)
  have hf13 := hts (.fieldLink RX12 13 "PlumbLineModel" "m" "[I") (List.mem_of_getElem? (i := 2) rfl)
  have hf40 := hts (.fieldLink RX12 40 "PlumbLineModel" "size" "[I") (List.mem_of_getElem? (i := 3) rfl)
  have hiX12 : ∀ w ∈ u_ws RX12 TX12 18, w ∈ wsX12_hasHungSo := fun w h => List.mem_cons_of_mem _ (List.mem_append_right _ h)
  replace hl : lv_has ls 5 [(0, .ref (aR 0)), (1, .int x1), (2, .int x2), (3, .int x3)] := hl
  have h := hsem
  clear hsem
  rw [S_MD_hasHungSo] at h
  refine lv_aload_n hx hb dX12_hasHungSo_0 rfl (lv_at hl 0 rfl) ?_
  refine va_get (D := D) (ci := 12) (v := .ref (aR 1)) (C := RX12) (T := TX12) (N := 18) hx hb hts hiX12 hown hK hP 0 rfl rfl 0 (by decide) hf9 (fun _ z => z) rfl dX12_hasHungSo_1 ?_
  refine lv_aload_n hx hb dX12_hasHungSo_4 rfl (lv_at hl 0 rfl) ?_
  refine va_get (D := D) (ci := 12) (v := .ref (aR 2)) (C := RX12) (T := TX12) (N := 18) hx hb hts hiX12 hown hK hP 0 rfl rfl 1 (by decide) hf13 (fun _ z => z) rfl dX12_hasHungSo_5 ?_
  obtain ⟨r8, g8, h⟩ := k_bind h
  refine k_callS (As := [.ref (aR 1), .ref (aR 2)]) (rest := []) (st1 := []) (ws2 := (Wd55 cI aR q_hasImage q_place q_rowAt q_rowEnd q_seed q_thrown q_s r8 q_sort q_size q_element)) hx hb hml hown hts hK hN hA hP hD hS hl (c_MD_copies l D cI cM cS cJ (aR 1) (aR 2) s.heap.size q_s q_m g8) gX12_hasHungSo_X12_copies rfl kdS_X12_copies [1, 2] ⟨rfl, rfl⟩ ⟨Nat.le_of_ble_eq_true rfl, Nat.le_of_ble_eq_true rfl⟩ ⟨Nat.zero_le _, Nat.zero_le _⟩ rfl rfl (by decide +kernel) (k_rp rfl (by decide +kernel)) rfl rfl (Nat.le_of_ble_eq_true rfl) dX12_hasHungSo_8 rfl (fun H locs hP hD hS => ?_)
  refine lv_aload_n hx hb dX12_hasHungSo_11 rfl (lv_at hl 0 rfl) ?_
  refine va_get (D := D) (ci := 12) (v := .ref (aR 2)) (C := RX12) (T := TX12) (N := 18) hx hb hts hiX12 hown hK hP 0 rfl rfl 1 (by decide) hf13 (fun _ z => z) rfl dX12_hasHungSo_12 ?_
  refine lv_iconst (v := 3) hx hb dX12_hasHungSo_15 (by decide) ?_
  refine lv_iload_n hx hb dX12_hasHungSo_16 rfl (lv_at hl 2 rfl) ?_
  refine va_iast hx hb hK hP hD hS 2 0 rfl rfl (show ¬ ((3 : Int32) < 0 ∨ 37 ≤ (3 : Int32).toNatClampNeg) by decide) dX12_hasHungSo_17 (fun H locs hP hD hS => ?_)
  replace hP : va_P D vwCl (Wd55 cI aR q_hasImage q_place q_rowAt q_rowEnd q_seed q_thrown q_s (upd r8 (3 : Int32).toNatClampNeg x2) q_sort q_size q_element) H := hP
  replace hD : va_D A (Wd55 cI aR q_hasImage q_place q_rowAt q_rowEnd q_seed q_thrown q_s (upd r8 (3 : Int32).toNatClampNeg x2) q_sort q_size q_element) := hD
  refine lv_aload_n hx hb dX12_hasHungSo_18 rfl (lv_at hl 0 rfl) ?_
  refine va_get (D := D) (ci := 12) (v := .ref (aR 2)) (C := RX12) (T := TX12) (N := 18) hx hb hts hiX12 hown hK hP 0 rfl rfl 1 (by decide) hf13 (fun _ z => z) rfl dX12_hasHungSo_19 ?_
  refine lv_iconst (v := 2) hx hb dX12_hasHungSo_22 (by decide) ?_
  refine lv_iload_n hx hb dX12_hasHungSo_23 rfl (lv_at hl 3 rfl) ?_
  refine va_iast hx hb hK hP hD hS 2 0 rfl rfl (show ¬ ((2 : Int32) < 0 ∨ 37 ≤ (2 : Int32).toNatClampNeg) by decide) dX12_hasHungSo_24 (fun H locs hP hD hS => ?_)
  replace hP : va_P D vwCl (Wd55 cI aR q_hasImage q_place q_rowAt q_rowEnd q_seed q_thrown q_s (upd (upd r8 (3 : Int32).toNatClampNeg x2) (2 : Int32).toNatClampNeg x3) q_sort q_size q_element) H := hP
  replace hD : va_D A (Wd55 cI aR q_hasImage q_place q_rowAt q_rowEnd q_seed q_thrown q_s (upd (upd r8 (3 : Int32).toNatClampNeg x2) (2 : Int32).toNatClampNeg x3) q_sort q_size q_element) := hD
  refine lv_iconst (v := 0) hx hb dX12_hasHungSo_25 (by decide) ?_
  have B28 : ∀ (n28 : Nat) (y4 : Int32) (q_m : Nat → Int32) (H : Heap) (locs : List Loc) (ls : Array Slot), va_P D vwCl (Wd55 cI aR q_hasImage q_place q_rowAt q_rowEnd q_seed q_thrown q_s q_m q_sort q_size q_element) H → va_D A (Wd55 cI aR q_hasImage q_place q_rowAt q_rowEnd q_seed q_thrown q_s q_m q_sort q_size q_element) → va_S A s.heap H locs → lv_has ls 5 [(0, .ref (aR 0)), (1, .int x1), (4, .int y4)] → S_MD_hasHungSo_L28 x1 q_sort q_size q_element n28 y4 q_m = some o → W p l e rm_X12_hasHungSo s m ([.ref (aR 0), .int x1, .int x2, .int x3] : List Value).toArray below meth c H locs 0 0 Q (F0 m 28 ls []) := by
    intro n28
    induction n28 with
    | zero => intro y4 q_m H locs ls hP hD hS hl h; exact absurd h (by simp [S_MD_hasHungSo_L28])
    | succ n28 ih28 =>
      intro y4 q_m H locs ls hP hD hS hl h
      rw [S_MD_hasHungSo_L28] at h
      refine lv_iload hx hb dX12_hasHungSo_28 (lv_at hl 2 rfl) ?_
      refine lv_aload_n hx hb dX12_hasHungSo_30 rfl (lv_at hl 0 rfl) ?_
      refine va_get (D := D) (ci := 12) (v := .ref (aR 11)) (C := RX12) (T := TX12) (N := 18) hx hb hts hiX12 hown hK hP 0 rfl rfl 15 (by decide) hf40 (fun _ z => z) rfl dX12_hasHungSo_31 ?_
      refine lv_iload_n hx hb dX12_hasHungSo_34 rfl (lv_at hl 1 rfl) ?_
      obtain ⟨g35, h⟩ := k_guard h
      refine va_iald hx hb hK hP 4 0 rfl rfl g35 dX12_hasHungSo_35 ?_
      refine lv_icmp_ge (tgt := 70) hx hb dX12_hasHungSo_36 (by decide) (fun c36 => ?_) (fun c36 => ?_)
      · have h := k_pos c36 h
        refine lv_iconst (v := 1) hx hb dX12_hasHungSo_70 (by decide) ?_
        have h := Option.some.inj h; subst h
        exact hret _ _ _ _ (k_z01 (fun z => z (Or.inr rfl))) hP hS dX12_hasHungSo_71
      · have h := k_neg c36 h
        refine lv_aload_n hx hb dX12_hasHungSo_39 rfl (lv_at hl 0 rfl) ?_
        refine lv_iload_n hx hb dX12_hasHungSo_40 rfl (lv_at hl 1 rfl) ?_
        refine lv_iload hx hb dX12_hasHungSo_41 (lv_at hl 2 rfl) ?_
        refine lv_aload_n hx hb dX12_hasHungSo_43 rfl (lv_at hl 0 rfl) ?_
        refine va_get (D := D) (ci := 12) (v := .ref (aR 2)) (C := RX12) (T := TX12) (N := 18) hx hb hts hiX12 hown hK hP 0 rfl rfl 1 (by decide) hf13 (fun _ z => z) rfl dX12_hasHungSo_44 ?_
        refine lv_iconst (v := 2) hx hb dX12_hasHungSo_47 (by decide) ?_
        refine va_iald hx hb hK hP 2 0 rfl rfl (show ¬ ((2 : Int32) < 0 ∨ 37 ≤ (2 : Int32).toNatClampNeg) by decide) dX12_hasHungSo_48 ?_
        obtain ⟨r49, g49, h⟩ := k_bind h
        refine k_callV (As := [.int x1, .int y4, .int (q_m (2 : Int32).toNatClampNeg)]) (rest := []) (st1 := [.int r49]) (ws2 := (Wd55 cI aR q_hasImage q_place q_rowAt q_rowEnd q_seed q_thrown q_s q_m q_sort q_size q_element)) hx hb hml hown hts hK hN hA hP hD hS hl (c_MD_isTold l D cI cM cS cJ aR H.size x1 y4 (q_m (2 : Int32).toNatClampNeg) q_hasImage q_place q_rowAt q_rowEnd q_seed q_thrown q_sort q_element g49) gX12_hasHungSo_X12_isTold rfl kdV_X12_isTold 0 12 rfl rfl rfl [0, 3, 5] ⟨rfl, rfl⟩ ⟨Nat.le_of_ble_eq_true rfl, Nat.le_of_ble_eq_true rfl⟩ ⟨Nat.zero_le _, Nat.zero_le _⟩ rfl rfl (by decide +kernel) (k_rp rfl (by decide +kernel)) rfl rfl (Nat.le_of_ble_eq_true rfl) dX12_hasHungSo_49 rfl (fun H locs hP hD hS => ?_)
        refine lv_if_ne (tgt := 57) hx hb dX12_hasHungSo_52 (by decide) (fun c52 => ?_) (fun c52 => ?_)
        · have h := k_neg c52 h
          refine lv_aload_n hx hb dX12_hasHungSo_57 rfl (lv_at hl 0 rfl) ?_
          refine va_get (D := D) (ci := 12) (v := .ref (aR 2)) (C := RX12) (T := TX12) (N := 18) hx hb hts hiX12 hown hK hP 0 rfl rfl 1 (by decide) hf13 (fun _ z => z) rfl dX12_hasHungSo_58 ?_
          obtain ⟨r61, g61, h⟩ := k_bind h
          refine k_callS (As := [.ref (aR 2)]) (rest := []) (st1 := []) (ws2 := (Wd55 cI aR q_hasImage q_place q_rowAt q_rowEnd q_seed q_thrown q_s r61 q_sort q_size q_element)) hx hb hml hown hts hK hN hA hP hD hS hl (c_MD_day l D cI cM cS cJ (aR 2) H.size q_m g61) gX12_hasHungSo_X12_day rfl kdS_X12_day [2] ⟨rfl, rfl⟩ ⟨Nat.le_of_ble_eq_true rfl, Nat.le_of_ble_eq_true rfl⟩ ⟨Nat.zero_le _, Nat.zero_le _⟩ rfl rfl (by decide +kernel) (k_rp rfl (by decide +kernel)) rfl rfl (Nat.le_of_ble_eq_true rfl) dX12_hasHungSo_61 rfl (fun H locs hP hD hS => ?_)
          refine lv_iinc (v := (y4 + 1)) (lv' := [(4, .int (y4 + 1)), (0, .ref (aR 0)), (1, .int x1)]) hx hb dX12_hasHungSo_64 hl (k := 2) rfl (by first | rfl | decide) (by decide) rfl (fun ls hl => ?_)
          refine lv_goto (tgt := 28) hx hb dX12_hasHungSo_67 (by decide) ?_
          exact ih28 (y4 + 1) r61 H locs ls hP hD hS (lv_sub hl [1, 2, 0] rfl) h
        · have h := k_pos c52 h
          refine lv_iconst (v := 0) hx hb dX12_hasHungSo_55 (by decide) ?_
          have h := Option.some.inj h; subst h
          exact hret _ _ _ _ (k_z01 (fun z => z (Or.inl rfl))) hP hS dX12_hasHungSo_56
  refine lv_istore (lv' := [(4, .int 0), (0, .ref (aR 0)), (1, .int x1), (2, .int x2), (3, .int x3)]) hx hb dX12_hasHungSo_26 hl (by decide) rfl (fun ls hl => ?_)
  exact B28 lfu 0 (upd (upd r8 (3 : Int32).toNatClampNeg x2) (2 : Int32).toNatClampNeg x3) H locs ls hP hD hS (lv_sub hl [1, 2, 0] rfl) h
theorem kdV_X12_hasHungSo : yX12_hasHungSo.cls = RX12 ∧ yX12_hasHungSo.cls ≠ "java/lang/invoke/MethodHandle" ∧ yX12_hasHungSo.cls ≠ "java/lang/invoke/VarHandle" ∧ (parseMethodDescriptor yX12_hasHungSo.desc).map (fun d => d.parameters.length) = some 3 := by decide +kernel
abbrev rm_X12_whereHung : Room := { frames := 5, cells := 0, slots := 0, locals := 114 }
set_option maxHeartbeats 4000000 in
set_option maxRecDepth 100000 in
theorem c_MD_whereHung (l : Launch) (D : va_G) (cI cM cS cJ : ClassId) (aR : Nat → Nat) (sz : Nat) (x1 : Int32) (x2 : Int32) (q_hasImage : Int32) (q_place : Int32) (q_rowAt : Int32) (q_rowEnd : Int32) (q_seed : Int32) (q_thrown : Int32) (q_s : Nat → Int32) (q_m : Nat → Int32) (q_kept : Nat → Int32) (q_sort : Nat → Int32) (q_size : Nat → Int32) (q_element : Nat → Int32) {o : (Int32) × (Nat → Int32)} (hsem : S_MD_whereHung x1 x2 q_s q_m q_kept q_sort q_size q_element = some o) : kMet l yX12_whereHung wsX12_whereHung rm_X12_whereHung [.ref (aR 0), .int x1, .int x2] D (kT cI cM cS cJ) (Wd54 cI aR q_hasImage q_place q_rowAt q_rowEnd q_seed q_thrown q_s q_m q_kept q_sort q_size q_element) sz (some (.int o.1)) (Wd54 cI aR q_hasImage q_place q_rowAt q_rowEnd q_seed q_thrown q_s o.2 q_kept q_sort q_size q_element) := by
  refine k_metI (by decide) rfl rfl (Nat.le_of_ble_eq_true rfl) ?_
  intro p e s m below meth c ls Q A hx hb hml hts hown hK hN hA hP hD hS hl hsz hnm hret
  have hown : s.vm.findClass RX12 = some m.cls := hown
  replace hl : lv_has ls 8 [(0, .ref (aR 0)), (1, .int x1), (2, .int x2)] := hl
  have h := hsem
  clear hsem
  rw [S_MD_whereHung] at h
  refine lv_iload_n hx hb dX12_whereHung_0 rfl (lv_at hl 2 rfl) ?_
  refine lv_iconst (v := 0) hx hb dX12_whereHung_1 (by decide) ?_
  refine lv_iconst (v := 2) hx hb dX12_whereHung_2 (by decide) ?_
  refine k_callS (As := [.int x2, .int 0, .int 2]) (rest := []) (st1 := [.int (S_MD_isIn x2 0 2)]) (ws2 := (Wd54 cI aR q_hasImage q_place q_rowAt q_rowEnd q_seed q_thrown q_s q_m q_kept q_sort q_size q_element)) hx hb hml hown hts hK hN hA hP hD hS hl (c_MD_isIn l D cI cM cS cJ s.heap.size x2 0 2 rfl) gX12_whereHung_X12_isIn rfl kdS_X12_isIn [] ⟨rfl, rfl⟩ ⟨Nat.le_of_ble_eq_true rfl, Nat.le_of_ble_eq_true rfl⟩ ⟨Nat.zero_le _, Nat.zero_le _⟩ rfl rfl (by decide +kernel) (k_rp rfl (by decide +kernel)) rfl rfl (Nat.le_of_ble_eq_true rfl) dX12_whereHung_3 rfl (fun H locs hP hD hS => ?_)
  refine lv_if_ne (tgt := 11) hx hb dX12_whereHung_6 (by decide) (fun c6 => ?_) (fun c6 => ?_)
  · have h := k_neg c6 h
    refine lv_aload_n hx hb dX12_whereHung_11 rfl (lv_at hl 0 rfl) ?_
    refine lv_iload_n hx hb dX12_whereHung_12 rfl (lv_at hl 1 rfl) ?_
    refine lv_iconst (v := (-1)) hx hb dX12_whereHung_13 (by decide) ?_
    obtain ⟨r14, g14, h⟩ := k_bind h
    refine k_callV (As := [.int x1, .int (-1)]) (rest := []) (st1 := [.int r14]) (ws2 := (Wd54 cI aR q_hasImage q_place q_rowAt q_rowEnd q_seed q_thrown q_s q_m q_kept q_sort q_size q_element)) hx hb hml hown hts hK hN hA hP hD hS hl (c_MD_wrongRow l D cI cM cS cJ aR H.size x1 (-1) q_hasImage q_place q_rowAt q_rowEnd q_seed q_thrown q_kept q_sort g14) gX12_whereHung_X12_wrongRow rfl kdV_X12_wrongRow 0 12 rfl rfl rfl [0, 3, 4] ⟨rfl, rfl⟩ ⟨Nat.le_of_ble_eq_true rfl, Nat.le_of_ble_eq_true rfl⟩ ⟨Nat.zero_le _, Nat.zero_le _⟩ rfl rfl (by decide +kernel) (k_rp rfl (by decide +kernel)) rfl rfl (Nat.le_of_ble_eq_true rfl) dX12_whereHung_14 rfl (fun H locs hP hD hS => ?_)
    refine lv_istore_n (lv' := [(3, .int r14), (0, .ref (aR 0)), (1, .int x1), (2, .int x2)]) hx hb dX12_whereHung_17 rfl hl (by decide) rfl (fun ls hl => ?_)
    refine lv_iload_n hx hb dX12_whereHung_18 rfl (lv_at hl 0 rfl) ?_
    refine lv_if_eq (tgt := 24) hx hb dX12_whereHung_19 (by decide) (fun c19 => ?_) (fun c19 => ?_)
    · have h := k_pos c19 h
      refine lv_iconst (v := 0) hx hb dX12_whereHung_24 (by decide) ?_
      refine lv_istore (lv' := [(4, .int 0), (3, .int r14), (0, .ref (aR 0)), (1, .int x1), (2, .int x2)]) hx hb dX12_whereHung_25 hl (by decide) rfl (fun ls hl => ?_)
      refine lv_bipush (v := (-4)) hx hb dX12_whereHung_27 (by decide) ?_
      refine lv_istore (lv' := [(5, .int (-4)), (4, .int 0), (3, .int r14), (0, .ref (aR 0)), (1, .int x1), (2, .int x2)]) hx hb dX12_whereHung_29 hl (by decide) rfl (fun ls hl => ?_)
      refine lv_bipush (v := (-4)) hx hb dX12_whereHung_31 (by decide) ?_
      refine lv_istore (lv' := [(6, .int (-4)), (5, .int (-4)), (4, .int 0), (3, .int r14), (0, .ref (aR 0)), (1, .int x1), (2, .int x2)]) hx hb dX12_whereHung_33 hl (by decide) rfl (fun ls hl => ?_)
      refine lv_iconst (v := 0) hx hb dX12_whereHung_35 (by decide) ?_
      have B38 : ∀ (n38 : Nat) (y4 : Int32) (y5 : Int32) (y6 : Int32) (y7 : Int32) (q_m : Nat → Int32) (H : Heap) (locs : List Loc) (ls : Array Slot), va_P D vwCl (Wd54 cI aR q_hasImage q_place q_rowAt q_rowEnd q_seed q_thrown q_s q_m q_kept q_sort q_size q_element) H → va_D A (Wd54 cI aR q_hasImage q_place q_rowAt q_rowEnd q_seed q_thrown q_s q_m q_kept q_sort q_size q_element) → va_S A s.heap H locs → lv_has ls 8 [(0, .ref (aR 0)), (1, .int x1), (2, .int x2), (4, .int y4), (5, .int y5), (6, .int y6), (7, .int y7)] → S_MD_whereHung_L38 x1 x2 q_s q_sort q_size q_element n38 y4 y5 y6 y7 q_m = some o → W p l e rm_X12_whereHung s m ([.ref (aR 0), .int x1, .int x2] : List Value).toArray below meth c H locs 0 0 Q (F0 m 38 ls []) := by
        intro n38
        induction n38 with
        | zero => intro y4 y5 y6 y7 q_m H locs ls hP hD hS hl h; exact absurd h (by simp [S_MD_whereHung_L38])
        | succ n38 ih38 =>
          intro y4 y5 y6 y7 q_m H locs ls hP hD hS hl h
          rw [S_MD_whereHung_L38] at h
          refine lv_iload hx hb dX12_whereHung_38 (lv_at hl 6 rfl) ?_
          refine lv_bipush (v := 100) hx hb dX12_whereHung_40 (by decide) ?_
          refine lv_icmp_ge (tgt := 103) hx hb dX12_whereHung_42 (by decide) (fun c42 => ?_) (fun c42 => ?_)
          · have h := k_pos c42 h
            refine lv_iload_n hx hb dX12_whereHung_103 rfl (lv_at hl 2 rfl) ?_
            refine lv_if_ne (tgt := 112) hx hb dX12_whereHung_104 (by decide) (fun c104 => ?_) (fun c104 => ?_)
            · have h := k_neg c104 h
              refine lv_iload_n hx hb dX12_whereHung_112 rfl (lv_at hl 2 rfl) ?_
              refine lv_iconst (v := 1) hx hb dX12_whereHung_113 (by decide) ?_
              refine lv_icmp_ne (tgt := 122) hx hb dX12_whereHung_114 (by decide) (fun c114 => ?_) (fun c114 => ?_)
              · have h := k_neg c114 h
                refine lv_iload hx hb dX12_whereHung_122 (lv_at hl 5 rfl) ?_
                have h := Option.some.inj h; subst h
                exact hret _ _ _ _ hP hS dX12_whereHung_124
              · have h := k_pos c114 h
                refine lv_iload hx hb dX12_whereHung_117 (lv_at hl 4 rfl) ?_
                refine lv_goto (tgt := 124) hx hb dX12_whereHung_119 (by decide) ?_
                have h := Option.some.inj h; subst h
                exact hret _ _ _ _ hP hS dX12_whereHung_124
            · have h := k_pos c104 h
              refine lv_iload hx hb dX12_whereHung_107 (lv_at hl 3 rfl) ?_
              refine lv_goto (tgt := 124) hx hb dX12_whereHung_109 (by decide) ?_
              have h := Option.some.inj h; subst h
              exact hret _ _ _ _ hP hS dX12_whereHung_124
          · have h := k_neg c42 h
            refine lv_iload hx hb dX12_whereHung_45 (lv_at hl 6 rfl) ?_
            refine lv_bipush (v := 10) hx hb dX12_whereHung_47 (by decide) ?_
            refine lv_irem hx hb dX12_whereHung_49 (by decide) ?_
            refine lv_bipush (v := 8) hx hb dX12_whereHung_50 (by decide) ?_
            refine lv_icmp_ge (tgt := 97) hx hb dX12_whereHung_52 (by decide) (fun c52 => ?_) (fun c52 => ?_)
            · have h := k_pos c52 h
              refine lv_iinc (v := (y7 + 1)) (lv' := [(7, .int (y7 + 1)), (0, .ref (aR 0)), (1, .int x1), (2, .int x2), (4, .int y4), (5, .int y5), (6, .int y6)]) hx hb dX12_whereHung_97 hl (k := 6) rfl (by first | rfl | decide) (by decide) rfl (fun ls hl => ?_)
              refine lv_goto (tgt := 38) hx hb dX12_whereHung_100 (by decide) ?_
              exact ih38 y4 y5 y6 (y7 + 1) q_m H locs ls hP hD hS (lv_sub hl [1, 2, 3, 4, 5, 6, 0] rfl) h
            · have h := k_neg c52 h
              refine lv_aload_n hx hb dX12_whereHung_55 rfl (lv_at hl 0 rfl) ?_
              refine lv_iload_n hx hb dX12_whereHung_56 rfl (lv_at hl 1 rfl) ?_
              refine lv_iload hx hb dX12_whereHung_57 (lv_at hl 6 rfl) ?_
              refine lv_bipush (v := 10) hx hb dX12_whereHung_59 (by decide) ?_
              refine lv_idiv hx hb dX12_whereHung_61 (by decide) ?_
              refine lv_iload hx hb dX12_whereHung_62 (lv_at hl 6 rfl) ?_
              refine lv_bipush (v := 10) hx hb dX12_whereHung_64 (by decide) ?_
              refine lv_irem hx hb dX12_whereHung_66 (by decide) ?_
              obtain ⟨r67, g67, h⟩ := k_bind h
              refine k_callV (As := [.int x1, .int (y7 / 10), .int (y7 - y7 / 10 * 10)]) (rest := []) (st1 := [.int r67.1]) (ws2 := (Wd54 cI aR q_hasImage q_place q_rowAt q_rowEnd q_seed q_thrown q_s r67.2 q_kept q_sort q_size q_element)) hx hb hml hown hts hK hN hA hP hD hS hl (c_MD_hasHungSo l D cI cM cS cJ aR H.size x1 (y7 / 10) (y7 - y7 / 10 * 10) q_hasImage q_place q_rowAt q_rowEnd q_seed q_thrown q_s q_m q_sort q_size q_element g67) gX12_whereHung_X12_hasHungSo rfl kdV_X12_hasHungSo 0 12 rfl rfl rfl [0, 1, 2, 4, 5, 6] ⟨rfl, rfl⟩ ⟨Nat.le_of_ble_eq_true rfl, Nat.le_of_ble_eq_true rfl⟩ ⟨Nat.zero_le _, Nat.zero_le _⟩ rfl rfl (by decide +kernel) (k_rp rfl (by decide +kernel)) rfl rfl (Nat.le_of_ble_eq_true rfl) dX12_whereHung_67 rfl (fun H locs hP hD hS => ?_)
              refine lv_if_ne (tgt := 76) hx hb dX12_whereHung_70 (by decide) (fun c70 => ?_) (fun c70 => ?_)
              · have h := k_neg c70 h
                refine lv_iload hx hb dX12_whereHung_76 (lv_at hl 3 rfl) ?_
                refine lv_if_ne (tgt := 86) hx hb dX12_whereHung_78 (by decide) (fun c78 => ?_) (fun c78 => ?_)
                · have h := k_neg c78 h
                  refine lv_iload hx hb dX12_whereHung_86 (lv_at hl 4 rfl) ?_
                  refine lv_istore (lv' := [(5, .int y5), (0, .ref (aR 0)), (1, .int x1), (2, .int x2), (4, .int y4), (6, .int y6), (7, .int y7)]) hx hb dX12_whereHung_88 hl (by decide) rfl (fun ls hl => ?_)
                  refine lv_iload hx hb dX12_whereHung_90 (lv_at hl 6 rfl) ?_
                  refine lv_istore (lv' := [(6, .int y7), (5, .int y5), (0, .ref (aR 0)), (1, .int x1), (2, .int x2), (4, .int y4), (7, .int y7)]) hx hb dX12_whereHung_92 hl (by decide) rfl (fun ls hl => ?_)
                  refine lv_iinc (v := (y4 + 1)) (lv' := [(4, .int (y4 + 1)), (6, .int y7), (5, .int y5), (0, .ref (aR 0)), (1, .int x1), (2, .int x2), (7, .int y7)]) hx hb dX12_whereHung_94 hl (k := 5) rfl (by first | rfl | decide) (by decide) rfl (fun ls hl => ?_)
                  refine lv_iinc (v := (y7 + 1)) (lv' := [(7, .int (y7 + 1)), (4, .int (y4 + 1)), (6, .int y7), (5, .int y5), (0, .ref (aR 0)), (1, .int x1), (2, .int x2)]) hx hb dX12_whereHung_97 hl (k := 6) rfl (by first | rfl | decide) (by decide) rfl (fun ls hl => ?_)
                  refine lv_goto (tgt := 38) hx hb dX12_whereHung_100 (by decide) ?_
                  exact ih38 (y4 + 1) y5 y7 (y7 + 1) r67.2 H locs ls hP hD hS (lv_sub hl [4, 5, 6, 1, 3, 2, 0] rfl) h
                · have h := k_pos c78 h
                  refine lv_iload hx hb dX12_whereHung_81 (lv_at hl 6 rfl) ?_
                  refine lv_goto (tgt := 88) hx hb dX12_whereHung_83 (by decide) ?_
                  refine lv_istore (lv' := [(5, .int y7), (0, .ref (aR 0)), (1, .int x1), (2, .int x2), (4, .int y4), (6, .int y6), (7, .int y7)]) hx hb dX12_whereHung_88 hl (by decide) rfl (fun ls hl => ?_)
                  refine lv_iload hx hb dX12_whereHung_90 (lv_at hl 6 rfl) ?_
                  refine lv_istore (lv' := [(6, .int y7), (5, .int y7), (0, .ref (aR 0)), (1, .int x1), (2, .int x2), (4, .int y4), (7, .int y7)]) hx hb dX12_whereHung_92 hl (by decide) rfl (fun ls hl => ?_)
                  refine lv_iinc (v := (y4 + 1)) (lv' := [(4, .int (y4 + 1)), (6, .int y7), (5, .int y7), (0, .ref (aR 0)), (1, .int x1), (2, .int x2), (7, .int y7)]) hx hb dX12_whereHung_94 hl (k := 5) rfl (by first | rfl | decide) (by decide) rfl (fun ls hl => ?_)
                  refine lv_iinc (v := (y7 + 1)) (lv' := [(7, .int (y7 + 1)), (4, .int (y4 + 1)), (6, .int y7), (5, .int y7), (0, .ref (aR 0)), (1, .int x1), (2, .int x2)]) hx hb dX12_whereHung_97 hl (k := 6) rfl (by first | rfl | decide) (by decide) rfl (fun ls hl => ?_)
                  refine lv_goto (tgt := 38) hx hb dX12_whereHung_100 (by decide) ?_
                  exact ih38 (y4 + 1) y7 y7 (y7 + 1) r67.2 H locs ls hP hD hS (lv_sub hl [4, 5, 6, 1, 3, 2, 0] rfl) h
              · have h := k_pos c70 h
                refine lv_goto (tgt := 97) hx hb dX12_whereHung_73 (by decide) ?_
                refine lv_iinc (v := (y7 + 1)) (lv' := [(7, .int (y7 + 1)), (0, .ref (aR 0)), (1, .int x1), (2, .int x2), (4, .int y4), (5, .int y5), (6, .int y6)]) hx hb dX12_whereHung_97 hl (k := 6) rfl (by first | rfl | decide) (by decide) rfl (fun ls hl => ?_)
                refine lv_goto (tgt := 38) hx hb dX12_whereHung_100 (by decide) ?_
                exact ih38 y4 y5 y6 (y7 + 1) r67.2 H locs ls hP hD hS (lv_sub hl [1, 2, 3, 4, 5, 6, 0] rfl) h
      refine lv_istore (lv' := [(7, .int 0), (6, .int (-4)), (5, .int (-4)), (4, .int 0), (3, .int r14), (0, .ref (aR 0)), (1, .int x1), (2, .int x2)]) hx hb dX12_whereHung_36 hl (by decide) rfl (fun ls hl => ?_)
      exact B38 lfu 0 (-4) (-4) 0 q_m H locs ls hP hD hS (lv_sub hl [5, 6, 7, 3, 2, 1, 0] rfl) h
    · have h := k_neg c19 h
      refine lv_iload_n hx hb dX12_whereHung_22 rfl (lv_at hl 0 rfl) ?_
      have h := Option.some.inj h; subst h
      exact hret _ _ _ _ hP hS dX12_whereHung_23
  · have h := k_pos c6 h
    refine lv_iconst (v := (-1)) hx hb dX12_whereHung_9 (by decide) ?_
    have h := Option.some.inj h; subst h
    exact hret _ _ _ _ hP hS dX12_whereHung_10
abbrev rm_X12_hasBy : Room := { frames := 5, cells := 0, slots := 0, locals := 112 }
set_option maxHeartbeats 4000000 in
set_option maxRecDepth 100000 in
theorem c_MD_hasBy (l : Launch) (D : va_G) (cI cM cS cJ : ClassId) (aR : Nat → Nat) (sz : Nat) (x1 : Int32) (x2 : Int32) (x3 : Int32) (x4 : Int32) (x5 : Int32) (x6 : Int32) (q_hasImage : Int32) (q_place : Int32) (q_rowAt : Int32) (q_rowEnd : Int32) (q_seed : Int32) (q_thrown : Int32) (q_s : Nat → Int32) (q_m : Nat → Int32) {o : (Int32) × (Nat → Int32)} (hsem : S_MD_hasBy x1 x2 x3 x4 x5 x6 q_s q_m = some o) : kMet l yX12_hasBy wsX12_hasBy rm_X12_hasBy [.ref (aR 0), .int x1, .int x2, .int x3, .int x4, .int x5, .int x6] D (kT cI cM cS cJ) (Wd49 cI aR q_hasImage q_place q_rowAt q_rowEnd q_seed q_thrown q_s q_m) sz (some (.int o.1)) (Wd49 cI aR q_hasImage q_place q_rowAt q_rowEnd q_seed q_thrown q_s o.2) := by
  refine k_metI (by decide) rfl rfl (Nat.le_of_ble_eq_true rfl) ?_
  intro p e s m below meth c ls Q A hx hb hml hts hown hK hN hA hP hD hS hl hsz hnm hret
  have hown : s.vm.findClass RX12 = some m.cls := hown
  have hf9 := hts (.fieldLink RX12 9 "PlumbLineModel" "s" "[I") (List.mem_of_getElem? (i := 1) rfl)
  have hf13 := hts (.fieldLink RX12 13 "PlumbLineModel" "m" "[I") (List.mem_of_getElem? (i := 2) rfl)
  have hiX12 : ∀ w ∈ u_ws RX12 TX12 18, w ∈ wsX12_hasBy := fun w h => List.mem_cons_of_mem _ (List.mem_append_right _ h)
  replace hl : lv_has ls 7 [(0, .ref (aR 0)), (1, .int x1), (2, .int x2), (3, .int x3), (4, .int x4), (5, .int x5), (6, .int x6)] := hl
  have h := hsem
  clear hsem
  rw [S_MD_hasBy] at h
  refine lv_aload_n hx hb dX12_hasBy_0 rfl (lv_at hl 0 rfl) ?_
  refine va_get (D := D) (ci := 12) (v := .ref (aR 1)) (C := RX12) (T := TX12) (N := 18) hx hb hts hiX12 hown hK hP 0 rfl rfl 0 (by decide) hf9 (fun _ z => z) rfl dX12_hasBy_1 ?_
  refine lv_aload_n hx hb dX12_hasBy_4 rfl (lv_at hl 0 rfl) ?_
  refine va_get (D := D) (ci := 12) (v := .ref (aR 2)) (C := RX12) (T := TX12) (N := 18) hx hb hts hiX12 hown hK hP 0 rfl rfl 1 (by decide) hf13 (fun _ z => z) rfl dX12_hasBy_5 ?_
  obtain ⟨r8, g8, h⟩ := k_bind h
  refine k_callS (As := [.ref (aR 1), .ref (aR 2)]) (rest := []) (st1 := []) (ws2 := (Wd49 cI aR q_hasImage q_place q_rowAt q_rowEnd q_seed q_thrown q_s r8)) hx hb hml hown hts hK hN hA hP hD hS hl (c_MD_copies l D cI cM cS cJ (aR 1) (aR 2) s.heap.size q_s q_m g8) gX12_hasBy_X12_copies rfl kdS_X12_copies [1, 2] ⟨rfl, rfl⟩ ⟨Nat.le_of_ble_eq_true rfl, Nat.le_of_ble_eq_true rfl⟩ ⟨Nat.zero_le _, Nat.zero_le _⟩ rfl rfl (by decide +kernel) (k_rp rfl (by decide +kernel)) rfl rfl (Nat.le_of_ble_eq_true rfl) dX12_hasBy_8 rfl (fun H locs hP hD hS => ?_)
  refine lv_aload_n hx hb dX12_hasBy_11 rfl (lv_at hl 0 rfl) ?_
  refine va_get (D := D) (ci := 12) (v := .ref (aR 2)) (C := RX12) (T := TX12) (N := 18) hx hb hts hiX12 hown hK hP 0 rfl rfl 1 (by decide) hf13 (fun _ z => z) rfl dX12_hasBy_12 ?_
  refine lv_iconst (v := 4) hx hb dX12_hasBy_15 (by decide) ?_
  refine lv_iconst (v := 0) hx hb dX12_hasBy_16 (by decide) ?_
  refine va_iast hx hb hK hP hD hS 2 0 rfl rfl (show ¬ ((4 : Int32) < 0 ∨ 37 ≤ (4 : Int32).toNatClampNeg) by decide) dX12_hasBy_17 (fun H locs hP hD hS => ?_)
  replace hP : va_P D vwCl (Wd49 cI aR q_hasImage q_place q_rowAt q_rowEnd q_seed q_thrown q_s (upd r8 (4 : Int32).toNatClampNeg 0)) H := hP
  replace hD : va_D A (Wd49 cI aR q_hasImage q_place q_rowAt q_rowEnd q_seed q_thrown q_s (upd r8 (4 : Int32).toNatClampNeg 0)) := hD
  refine lv_iload_n hx hb dX12_hasBy_18 rfl (lv_at hl 3 rfl) ?_
  refine lv_iconst (v := 1) hx hb dX12_hasBy_19 (by decide) ?_
  have B34 : ∀ (q_m : Nat → Int32) (H : Heap) (locs : List Loc) (ls : Array Slot), va_P D vwCl (Wd49 cI aR q_hasImage q_place q_rowAt q_rowEnd q_seed q_thrown q_s q_m) H → va_D A (Wd49 cI aR q_hasImage q_place q_rowAt q_rowEnd q_seed q_thrown q_s q_m) → va_S A s.heap H locs → lv_has ls 7 [(0, .ref (aR 0)), (1, .int x1), (2, .int x2), (3, .int x3), (4, .int x4), (5, .int x5), (6, .int x6)] → S_MD_hasBy_J34 x1 x2 x3 x4 x5 x6 q_m = some o → W p l e rm_X12_hasBy s m ([.ref (aR 0), .int x1, .int x2, .int x3, .int x4, .int x5, .int x6] : List Value).toArray below meth c H locs 0 0 Q (F0 m 34 ls []) := by
    intro q_m H locs ls hP hD hS hl h
    rw [S_MD_hasBy_J34] at h
    refine lv_iload hx hb dX12_hasBy_34 (lv_at hl 5 rfl) ?_
    refine lv_iconst (v := 1) hx hb dX12_hasBy_36 (by decide) ?_
    have B52 : ∀ (q_m : Nat → Int32) (H : Heap) (locs : List Loc) (ls : Array Slot), va_P D vwCl (Wd49 cI aR q_hasImage q_place q_rowAt q_rowEnd q_seed q_thrown q_s q_m) H → va_D A (Wd49 cI aR q_hasImage q_place q_rowAt q_rowEnd q_seed q_thrown q_s q_m) → va_S A s.heap H locs → lv_has ls 7 [(0, .ref (aR 0)), (1, .int x1), (2, .int x2), (3, .int x3), (5, .int x5), (6, .int x6)] → S_MD_hasBy_J52 x1 x2 x3 x5 x6 q_m = some o → W p l e rm_X12_hasBy s m ([.ref (aR 0), .int x1, .int x2, .int x3, .int x4, .int x5, .int x6] : List Value).toArray below meth c H locs 0 0 Q (F0 m 52 ls []) := by
      intro q_m H locs ls hP hD hS hl h
      rw [S_MD_hasBy_J52] at h
      refine lv_aload_n hx hb dX12_hasBy_52 rfl (lv_at hl 0 rfl) ?_
      refine va_get (D := D) (ci := 12) (v := .ref (aR 2)) (C := RX12) (T := TX12) (N := 18) hx hb hts hiX12 hown hK hP 0 rfl rfl 1 (by decide) hf13 (fun _ z => z) rfl dX12_hasBy_53 ?_
      refine lv_iload hx hb dX12_hasBy_56 (lv_at hl 5 rfl) ?_
      obtain ⟨r58, g58, h⟩ := k_bind h
      refine k_callS (As := [.ref (aR 2), .int x6]) (rest := []) (st1 := []) (ws2 := (Wd49 cI aR q_hasImage q_place q_rowAt q_rowEnd q_seed q_thrown q_s r58)) hx hb hml hown hts hK hN hA hP hD hS hl (c_MD_daysOn l D cI cM cS cJ (aR 2) H.size x6 q_m g58) gX12_hasBy_X12_daysOn rfl kdS_X12_daysOn [2] ⟨rfl, rfl⟩ ⟨Nat.le_of_ble_eq_true rfl, Nat.le_of_ble_eq_true rfl⟩ ⟨Nat.zero_le _, Nat.zero_le _⟩ rfl rfl (by decide +kernel) (k_rp rfl (by decide +kernel)) rfl rfl (Nat.le_of_ble_eq_true rfl) dX12_hasBy_58 rfl (fun H locs hP hD hS => ?_)
      refine lv_aload_n hx hb dX12_hasBy_61 rfl (lv_at hl 0 rfl) ?_
      refine va_get (D := D) (ci := 12) (v := .ref (aR 2)) (C := RX12) (T := TX12) (N := 18) hx hb hts hiX12 hown hK hP 0 rfl rfl 1 (by decide) hf13 (fun _ z => z) rfl dX12_hasBy_62 ?_
      obtain ⟨r65, g65, h⟩ := k_bind h
      refine k_callS (As := [.ref (aR 2)]) (rest := []) (st1 := [.int r65]) (ws2 := (Wd49 cI aR q_hasImage q_place q_rowAt q_rowEnd q_seed q_thrown q_s r58)) hx hb hml hown hts hK hN hA hP hD hS hl (c_MD_upright l D cI cM cS cJ (aR 2) H.size r58 g65) gX12_hasBy_X12_upright rfl kdS_X12_upright [2] ⟨rfl, rfl⟩ ⟨Nat.le_of_ble_eq_true rfl, Nat.le_of_ble_eq_true rfl⟩ ⟨Nat.zero_le _, Nat.zero_le _⟩ rfl rfl (by decide +kernel) (k_rp rfl (by decide +kernel)) rfl rfl (Nat.le_of_ble_eq_true rfl) dX12_hasBy_65 rfl (fun H locs hP hD hS => ?_)
      refine lv_iload_n hx hb dX12_hasBy_68 rfl (lv_at hl 1 rfl) ?_
      refine k_callS (As := [.int r65, .int x1]) (rest := []) (st1 := [.int (S_MD_has r65 x1)]) (ws2 := (Wd49 cI aR q_hasImage q_place q_rowAt q_rowEnd q_seed q_thrown q_s r58)) hx hb hml hown hts hK hN hA hP hD hS hl (c_MD_has l D cI cM cS cJ H.size r65 x1 rfl) gX12_hasBy_X12_has rfl kdS_X12_has [] ⟨rfl, rfl⟩ ⟨Nat.le_of_ble_eq_true rfl, Nat.le_of_ble_eq_true rfl⟩ ⟨Nat.zero_le _, Nat.zero_le _⟩ rfl rfl (by decide +kernel) (k_rp rfl (by decide +kernel)) rfl rfl (Nat.le_of_ble_eq_true rfl) dX12_hasBy_69 rfl (fun H locs hP hD hS => ?_)
      have B81 : ∀ (v0 : Int32) (q_m : Nat → Int32) (H : Heap) (locs : List Loc) (ls : Array Slot), va_P D vwCl (Wd49 cI aR q_hasImage q_place q_rowAt q_rowEnd q_seed q_thrown q_s q_m) H → va_D A (Wd49 cI aR q_hasImage q_place q_rowAt q_rowEnd q_seed q_thrown q_s q_m) → va_S A s.heap H locs → lv_has ls 7 [(0, .ref (aR 0)), (1, .int x1), (2, .int x2), (3, .int x3), (5, .int x5)] → S_MD_hasBy_J81 x1 x2 x3 x5 v0 q_m = some o → W p l e rm_X12_hasBy s m ([.ref (aR 0), .int x1, .int x2, .int x3, .int x4, .int x5, .int x6] : List Value).toArray below meth c H locs 0 0 Q (F0 m 81 ls [.int v0]) := by
        intro v0 q_m H locs ls hP hD hS hl h
        rw [S_MD_hasBy_J81] at h
        refine lv_iconst (v := 2) hx hb dX12_hasBy_81 (by decide) ?_
        refine lv_iload_n hx hb dX12_hasBy_82 rfl (lv_at hl 1 rfl) ?_
        refine lv_iload_n hx hb dX12_hasBy_83 rfl (lv_at hl 2 rfl) ?_
        refine lv_icmp_ne (tgt := 91) hx hb dX12_hasBy_84 (by decide) (fun c84 => ?_) (fun c84 => ?_)
        · have h := k_neg c84 h
          refine lv_iload hx hb dX12_hasBy_91 (lv_at hl 4 rfl) ?_
          refine lv_imul hx hb dX12_hasBy_93 ?_
          refine lv_isub hx hb dX12_hasBy_94 ?_
          refine lv_aload_n hx hb dX12_hasBy_95 rfl (lv_at hl 0 rfl) ?_
          refine va_get (D := D) (ci := 12) (v := .ref (aR 2)) (C := RX12) (T := TX12) (N := 18) hx hb hts hiX12 hown hK hP 0 rfl rfl 1 (by decide) hf13 (fun _ z => z) rfl dX12_hasBy_96 ?_
          refine lv_iconst (v := 4) hx hb dX12_hasBy_99 (by decide) ?_
          refine va_iald hx hb hK hP 2 0 rfl rfl (show ¬ ((4 : Int32) < 0 ∨ 37 ≤ (4 : Int32).toNatClampNeg) by decide) dX12_hasBy_100 ?_
          refine lv_isub hx hb dX12_hasBy_101 ?_
          have h := Option.some.inj h; subst h
          exact hret _ _ _ _ hP hS dX12_hasBy_102
        · have h := k_pos c84 h
          refine lv_iload_n hx hb dX12_hasBy_87 rfl (lv_at hl 3 rfl) ?_
          refine lv_goto (tgt := 93) hx hb dX12_hasBy_88 (by decide) ?_
          refine lv_imul hx hb dX12_hasBy_93 ?_
          refine lv_isub hx hb dX12_hasBy_94 ?_
          refine lv_aload_n hx hb dX12_hasBy_95 rfl (lv_at hl 0 rfl) ?_
          refine va_get (D := D) (ci := 12) (v := .ref (aR 2)) (C := RX12) (T := TX12) (N := 18) hx hb hts hiX12 hown hK hP 0 rfl rfl 1 (by decide) hf13 (fun _ z => z) rfl dX12_hasBy_96 ?_
          refine lv_iconst (v := 4) hx hb dX12_hasBy_99 (by decide) ?_
          refine va_iald hx hb hK hP 2 0 rfl rfl (show ¬ ((4 : Int32) < 0 ∨ 37 ≤ (4 : Int32).toNatClampNeg) by decide) dX12_hasBy_100 ?_
          refine lv_isub hx hb dX12_hasBy_101 ?_
          have h := Option.some.inj h; subst h
          exact hret _ _ _ _ hP hS dX12_hasBy_102
      refine lv_if_eq (tgt := 80) hx hb dX12_hasBy_72 (by decide) (fun c72 => ?_) (fun c72 => ?_)
      · have h := k_pos c72 h
        refine lv_iconst (v := 0) hx hb dX12_hasBy_80 (by decide) ?_
        exact B81 0 r58 H locs ls hP hD hS (lv_sub hl [0, 1, 2, 3, 4] rfl) h
      · have h := k_neg c72 h
        refine lv_bipush (v := 6) hx hb dX12_hasBy_75 (by decide) ?_
        refine lv_goto (tgt := 81) hx hb dX12_hasBy_77 (by decide) ?_
        exact B81 6 r58 H locs ls hP hD hS (lv_sub hl [0, 1, 2, 3, 4] rfl) h
    refine lv_icmp_ne (tgt := 52) hx hb dX12_hasBy_37 (by decide) (fun c37 => ?_) (fun c37 => ?_)
    · have h := k_neg c37 h
      exact B52 q_m H locs ls hP hD hS (lv_sub hl [0, 1, 2, 3, 5, 6] rfl) h
    · have h := k_pos c37 h
      refine lv_aload_n hx hb dX12_hasBy_40 rfl (lv_at hl 0 rfl) ?_
      refine va_get (D := D) (ci := 12) (v := .ref (aR 2)) (C := RX12) (T := TX12) (N := 18) hx hb hts hiX12 hown hK hP 0 rfl rfl 1 (by decide) hf13 (fun _ z => z) rfl dX12_hasBy_41 ?_
      refine lv_iload hx hb dX12_hasBy_44 (lv_at hl 4 rfl) ?_
      refine lv_iconst (v := 3) hx hb dX12_hasBy_46 (by decide) ?_
      refine k_callS (As := [.int x4, .int 3]) (rest := [.ref (aR 2)]) (st1 := [.int (S_MD_of x4 3), .ref (aR 2)]) (ws2 := (Wd49 cI aR q_hasImage q_place q_rowAt q_rowEnd q_seed q_thrown q_s q_m)) hx hb hml hown hts hK hN hA hP hD hS hl (c_MD_of l D cI cM cS cJ H.size x4 3 rfl) gX12_hasBy_X12_of rfl kdS_X12_of [] ⟨rfl, rfl⟩ ⟨Nat.le_of_ble_eq_true rfl, Nat.le_of_ble_eq_true rfl⟩ ⟨Nat.zero_le _, Nat.zero_le _⟩ rfl rfl (by decide +kernel) (k_rp rfl (by decide +kernel)) rfl rfl (Nat.le_of_ble_eq_true rfl) dX12_hasBy_47 rfl (fun H locs hP hD hS => ?_)
      refine lv_iconst (v := 1) hx hb dX12_hasBy_50 (by decide) ?_
      obtain ⟨g51, h⟩ := k_guard h
      refine va_iast hx hb hK hP hD hS 2 0 rfl rfl g51 dX12_hasBy_51 (fun H locs hP hD hS => ?_)
      replace hP : va_P D vwCl (Wd49 cI aR q_hasImage q_place q_rowAt q_rowEnd q_seed q_thrown q_s (upd q_m (S_MD_of x4 3).toNatClampNeg 1)) H := hP
      replace hD : va_D A (Wd49 cI aR q_hasImage q_place q_rowAt q_rowEnd q_seed q_thrown q_s (upd q_m (S_MD_of x4 3).toNatClampNeg 1)) := hD
      exact B52 (upd q_m (S_MD_of x4 3).toNatClampNeg 1) H locs ls hP hD hS (lv_sub hl [0, 1, 2, 3, 5, 6] rfl) h
  refine lv_icmp_ne (tgt := 34) hx hb dX12_hasBy_20 (by decide) (fun c20 => ?_) (fun c20 => ?_)
  · have h := k_neg c20 h
    exact B34 (upd r8 (4 : Int32).toNatClampNeg 0) H locs ls hP hD hS hl h
  · have h := k_pos c20 h
    refine lv_aload_n hx hb dX12_hasBy_23 rfl (lv_at hl 0 rfl) ?_
    refine va_get (D := D) (ci := 12) (v := .ref (aR 2)) (C := RX12) (T := TX12) (N := 18) hx hb hts hiX12 hown hK hP 0 rfl rfl 1 (by decide) hf13 (fun _ z => z) rfl dX12_hasBy_24 ?_
    refine lv_iload_n hx hb dX12_hasBy_27 rfl (lv_at hl 2 rfl) ?_
    refine lv_iconst (v := 3) hx hb dX12_hasBy_28 (by decide) ?_
    refine k_callS (As := [.int x2, .int 3]) (rest := [.ref (aR 2)]) (st1 := [.int (S_MD_of x2 3), .ref (aR 2)]) (ws2 := (Wd49 cI aR q_hasImage q_place q_rowAt q_rowEnd q_seed q_thrown q_s (upd r8 (4 : Int32).toNatClampNeg 0))) hx hb hml hown hts hK hN hA hP hD hS hl (c_MD_of l D cI cM cS cJ H.size x2 3 rfl) gX12_hasBy_X12_of rfl kdS_X12_of [] ⟨rfl, rfl⟩ ⟨Nat.le_of_ble_eq_true rfl, Nat.le_of_ble_eq_true rfl⟩ ⟨Nat.zero_le _, Nat.zero_le _⟩ rfl rfl (by decide +kernel) (k_rp rfl (by decide +kernel)) rfl rfl (Nat.le_of_ble_eq_true rfl) dX12_hasBy_29 rfl (fun H locs hP hD hS => ?_)
    refine lv_iconst (v := 1) hx hb dX12_hasBy_32 (by decide) ?_
    obtain ⟨g33, h⟩ := k_guard h
    refine va_iast hx hb hK hP hD hS 2 0 rfl rfl g33 dX12_hasBy_33 (fun H locs hP hD hS => ?_)
    replace hP : va_P D vwCl (Wd49 cI aR q_hasImage q_place q_rowAt q_rowEnd q_seed q_thrown q_s (upd (upd r8 (4 : Int32).toNatClampNeg 0) (S_MD_of x2 3).toNatClampNeg 1)) H := hP
    replace hD : va_D A (Wd49 cI aR q_hasImage q_place q_rowAt q_rowEnd q_seed q_thrown q_s (upd (upd r8 (4 : Int32).toNatClampNeg 0) (S_MD_of x2 3).toNatClampNeg 1)) := hD
    exact B34 (upd (upd r8 (4 : Int32).toNatClampNeg 0) (S_MD_of x2 3).toNatClampNeg 1) H locs ls hP hD hS hl h
theorem kdV_X12_areTwo : yX12_areTwo.cls = RX12 ∧ yX12_areTwo.cls ≠ "java/lang/invoke/MethodHandle" ∧ yX12_areTwo.cls ≠ "java/lang/invoke/VarHandle" ∧ (parseMethodDescriptor yX12_areTwo.desc).map (fun d => d.parameters.length) = some 2 := by decide +kernel
theorem kdV_X12_hasBy : yX12_hasBy.cls = RX12 ∧ yX12_hasBy.cls ≠ "java/lang/invoke/MethodHandle" ∧ yX12_hasBy.cls ≠ "java/lang/invoke/VarHandle" ∧ (parseMethodDescriptor yX12_hasBy.desc).map (fun d => d.parameters.length) = some 6 := by decide +kernel
abbrev rm_X12_two : Room := { frames := 6, cells := 0, slots := 0, locals := 138 }
set_option maxHeartbeats 4000000 in
set_option maxRecDepth 100000 in
theorem c_MD_two (l : Launch) (D : va_G) (cI cM cS cJ : ClassId) (aR : Nat → Nat) (sz : Nat) (x1 : Int32) (x2 : Int32) (x3 : Int32) (q_hasImage : Int32) (q_place : Int32) (q_rowAt : Int32) (q_rowEnd : Int32) (q_seed : Int32) (q_thrown : Int32) (q_s : Nat → Int32) (q_m : Nat → Int32) {o : (Int32) × (Nat → Int32)} (hsem : S_MD_two x1 x2 x3 q_s q_m = some o) : kMet l yX12_two wsX12_two rm_X12_two [.ref (aR 0), .int x1, .int x2, .int x3] D (kT cI cM cS cJ) (Wd49 cI aR q_hasImage q_place q_rowAt q_rowEnd q_seed q_thrown q_s q_m) sz (some (.int o.1)) (Wd49 cI aR q_hasImage q_place q_rowAt q_rowEnd q_seed q_thrown q_s o.2) := by
  refine k_metI (by decide) rfl rfl (Nat.le_of_ble_eq_true rfl) ?_
  intro p e s m below meth c ls Q A hx hb hml hts hown hK hN hA hP hD hS hl hsz hnm hret
  have hown : s.vm.findClass RX12 = some m.cls := hown
  replace hl : lv_has ls 7 [(0, .ref (aR 0)), (1, .int x1), (2, .int x2), (3, .int x3)] := hl
  have h := hsem
  clear hsem
  rw [S_MD_two] at h
  refine lv_aload_n hx hb dX12_two_0 rfl (lv_at hl 0 rfl) ?_
  refine lv_iload_n hx hb dX12_two_1 rfl (lv_at hl 1 rfl) ?_
  refine lv_iload_n hx hb dX12_two_2 rfl (lv_at hl 2 rfl) ?_
  obtain ⟨r3, g3, h⟩ := k_bind h
  refine k_callV (As := [.int x1, .int x2]) (rest := []) (st1 := [.int r3]) (ws2 := (Wd49 cI aR q_hasImage q_place q_rowAt q_rowEnd q_seed q_thrown q_s q_m)) hx hb hml hown hts hK hN hA hP hD hS hl (c_MD_areTwo l D cI cM cS cJ aR s.heap.size x1 x2 q_hasImage q_place q_rowAt q_rowEnd q_seed q_thrown q_s g3) gX12_two_X12_areTwo rfl kdV_X12_areTwo 0 12 rfl rfl rfl [0, 1] ⟨rfl, rfl⟩ ⟨Nat.le_of_ble_eq_true rfl, Nat.le_of_ble_eq_true rfl⟩ ⟨Nat.zero_le _, Nat.zero_le _⟩ rfl rfl (by decide +kernel) (k_rp rfl (by decide +kernel)) rfl rfl (Nat.le_of_ble_eq_true rfl) dX12_two_3 rfl (fun H locs hP hD hS => ?_)
  refine lv_if_eq (tgt := 19) hx hb dX12_two_6 (by decide) (fun c6 => ?_) (fun c6 => ?_)
  · have h := k_pos c6 h
    refine lv_iconst (v := (-1)) hx hb dX12_two_19 (by decide) ?_
    have h := Option.some.inj h; subst h
    exact hret _ _ _ _ hP hS dX12_two_20
  · have h := k_neg c6 h
    refine lv_iload_n hx hb dX12_two_9 rfl (lv_at hl 3 rfl) ?_
    refine lv_iconst (v := 1) hx hb dX12_two_10 (by decide) ?_
    refine lv_bipush (v := 30) hx hb dX12_two_11 (by decide) ?_
    refine k_callS (As := [.int x3, .int 1, .int 30]) (rest := []) (st1 := [.int (S_MD_isIn x3 1 30)]) (ws2 := (Wd49 cI aR q_hasImage q_place q_rowAt q_rowEnd q_seed q_thrown q_s q_m)) hx hb hml hown hts hK hN hA hP hD hS hl (c_MD_isIn l D cI cM cS cJ H.size x3 1 30 rfl) gX12_two_X12_isIn rfl kdS_X12_isIn [] ⟨rfl, rfl⟩ ⟨Nat.le_of_ble_eq_true rfl, Nat.le_of_ble_eq_true rfl⟩ ⟨Nat.zero_le _, Nat.zero_le _⟩ rfl rfl (by decide +kernel) (k_rp rfl (by decide +kernel)) rfl rfl (Nat.le_of_ble_eq_true rfl) dX12_two_13 rfl (fun H locs hP hD hS => ?_)
    refine lv_if_ne (tgt := 21) hx hb dX12_two_16 (by decide) (fun c16 => ?_) (fun c16 => ?_)
    · have h := k_neg c16 h
      refine lv_iconst (v := 0) hx hb dX12_two_21 (by decide) ?_
      have B24 : ∀ (n24 : Nat) (y4 : Int32) (q_m : Nat → Int32) (H : Heap) (locs : List Loc) (ls : Array Slot), va_P D vwCl (Wd49 cI aR q_hasImage q_place q_rowAt q_rowEnd q_seed q_thrown q_s q_m) H → va_D A (Wd49 cI aR q_hasImage q_place q_rowAt q_rowEnd q_seed q_thrown q_s q_m) → va_S A s.heap H locs → lv_has ls 7 [(0, .ref (aR 0)), (1, .int x1), (2, .int x2), (3, .int x3), (4, .int y4)] → S_MD_two_L24 x1 x2 x3 q_s n24 y4 q_m = some o → W p l e rm_X12_two s m ([.ref (aR 0), .int x1, .int x2, .int x3] : List Value).toArray below meth c H locs 0 0 Q (F0 m 24 ls []) := by
        intro n24
        induction n24 with
        | zero => intro y4 q_m H locs ls hP hD hS hl h; exact absurd h (by simp [S_MD_two_L24])
        | succ n24 ih24 =>
          intro y4 q_m H locs ls hP hD hS hl h
          rw [S_MD_two_L24] at h
          refine lv_iload hx hb dX12_two_24 (lv_at hl 4 rfl) ?_
          refine lv_iconst (v := 4) hx hb dX12_two_26 (by decide) ?_
          refine lv_icmp_ge (tgt := 115) hx hb dX12_two_27 (by decide) (fun c27 => ?_) (fun c27 => ?_)
          · have h := k_pos c27 h
            refine lv_bipush (v := (-4)) hx hb dX12_two_115 (by decide) ?_
            have h := Option.some.inj h; subst h
            exact hret _ _ _ _ hP hS dX12_two_117
          · have h := k_neg c27 h
            refine lv_iload hx hb dX12_two_30 (lv_at hl 4 rfl) ?_
            refine lv_iconst (v := 2) hx hb dX12_two_32 (by decide) ?_
            refine lv_idiv hx hb dX12_two_33 (by decide) ?_
            refine lv_istore (lv' := [(5, .int (y4 / 2)), (0, .ref (aR 0)), (1, .int x1), (2, .int x2), (3, .int x3), (4, .int y4)]) hx hb dX12_two_34 hl (by decide) rfl (fun ls hl => ?_)
            refine lv_iload hx hb dX12_two_36 (lv_at hl 5 rfl) ?_
            refine lv_iconst (v := 2) hx hb dX12_two_38 (by decide) ?_
            refine lv_irem hx hb dX12_two_39 (by decide) ?_
            refine lv_istore (lv' := [(6, .int (y4 - y4 / 2 * 2)), (5, .int (y4 / 2)), (0, .ref (aR 0)), (1, .int x1), (2, .int x2), (3, .int x3), (4, .int y4)]) hx hb dX12_two_40 hl (by decide) rfl (fun ls hl => ?_)
            refine lv_aload_n hx hb dX12_two_42 rfl (lv_at hl 2 rfl) ?_
            refine lv_iload_n hx hb dX12_two_43 rfl (lv_at hl 3 rfl) ?_
            refine lv_iload_n hx hb dX12_two_44 rfl (lv_at hl 3 rfl) ?_
            refine lv_iconst (v := 1) hx hb dX12_two_45 (by decide) ?_
            refine lv_iload hx hb dX12_two_46 (lv_at hl 1 rfl) ?_
            refine lv_isub hx hb dX12_two_48 ?_
            refine lv_iload_n hx hb dX12_two_49 rfl (lv_at hl 4 rfl) ?_
            refine lv_iload hx hb dX12_two_50 (lv_at hl 0 rfl) ?_
            refine lv_iload_n hx hb dX12_two_52 rfl (lv_at hl 5 rfl) ?_
            obtain ⟨r53, g53, h⟩ := k_bind h
            refine k_callV (As := [.int x1, .int x1, .int ((1 : Int32) - (y4 / 2)), .int x2, .int (y4 - y4 / 2 * 2), .int x3]) (rest := []) (st1 := [.int r53.1]) (ws2 := (Wd49 cI aR q_hasImage q_place q_rowAt q_rowEnd q_seed q_thrown q_s r53.2)) hx hb hml hown hts hK hN hA hP hD hS hl (c_MD_hasBy l D cI cM cS cJ aR H.size x1 x1 ((1 : Int32) - (y4 / 2)) x2 (y4 - y4 / 2 * 2) x3 q_hasImage q_place q_rowAt q_rowEnd q_seed q_thrown q_s q_m g53) gX12_two_X12_hasBy rfl kdV_X12_hasBy 0 12 rfl rfl rfl [0, 1, 2] ⟨rfl, rfl⟩ ⟨Nat.le_of_ble_eq_true rfl, Nat.le_of_ble_eq_true rfl⟩ ⟨Nat.zero_le _, Nat.zero_le _⟩ rfl rfl (by decide +kernel) (k_rp rfl (by decide +kernel)) rfl rfl (Nat.le_of_ble_eq_true rfl) dX12_two_53 rfl (fun H locs hP hD hS => ?_)
            refine lv_aload_n hx hb dX12_two_56 rfl (lv_at hl 2 rfl) ?_
            refine lv_iload_n hx hb dX12_two_57 rfl (lv_at hl 3 rfl) ?_
            refine lv_iload_n hx hb dX12_two_58 rfl (lv_at hl 3 rfl) ?_
            refine lv_iload hx hb dX12_two_59 (lv_at hl 1 rfl) ?_
            refine lv_iload_n hx hb dX12_two_61 rfl (lv_at hl 4 rfl) ?_
            refine lv_iload hx hb dX12_two_62 (lv_at hl 0 rfl) ?_
            refine lv_iload_n hx hb dX12_two_64 rfl (lv_at hl 5 rfl) ?_
            obtain ⟨r65, g65, h⟩ := k_bind h
            refine k_callV (As := [.int x1, .int x1, .int (y4 / 2), .int x2, .int (y4 - y4 / 2 * 2), .int x3]) (rest := [.int r53.1]) (st1 := [.int r65.1, .int r53.1]) (ws2 := (Wd49 cI aR q_hasImage q_place q_rowAt q_rowEnd q_seed q_thrown q_s r65.2)) hx hb hml hown hts hK hN hA hP hD hS hl (c_MD_hasBy l D cI cM cS cJ aR H.size x1 x1 (y4 / 2) x2 (y4 - y4 / 2 * 2) x3 q_hasImage q_place q_rowAt q_rowEnd q_seed q_thrown q_s r53.2 g65) gX12_two_X12_hasBy rfl kdV_X12_hasBy 0 12 rfl rfl rfl [0, 1, 2] ⟨rfl, rfl⟩ ⟨Nat.le_of_ble_eq_true rfl, Nat.le_of_ble_eq_true rfl⟩ ⟨Nat.zero_le _, Nat.zero_le _⟩ rfl rfl (by decide +kernel) (k_rp rfl (by decide +kernel)) rfl rfl (Nat.le_of_ble_eq_true rfl) dX12_two_65 rfl (fun H locs hP hD hS => ?_)
            refine lv_icmp_gt (tgt := 109) hx hb dX12_two_68 (by decide) (fun c68 => ?_) (fun c68 => ?_)
            · have h := k_pos c68 h
              refine lv_iinc (v := (y4 + 1)) (lv' := [(4, .int (y4 + 1)), (6, .int (y4 - y4 / 2 * 2)), (5, .int (y4 / 2)), (0, .ref (aR 0)), (1, .int x1), (2, .int x2), (3, .int x3)]) hx hb dX12_two_109 hl (k := 6) rfl (by first | rfl | decide) (by decide) rfl (fun ls hl => ?_)
              refine lv_goto (tgt := 24) hx hb dX12_two_112 (by decide) ?_
              exact ih24 (y4 + 1) r65.2 H locs ls hP hD hS (lv_sub hl [3, 4, 5, 6, 0] rfl) h
            · have h := k_neg c68 h
              refine lv_aload_n hx hb dX12_two_71 rfl (lv_at hl 2 rfl) ?_
              refine lv_iload_n hx hb dX12_two_72 rfl (lv_at hl 4 rfl) ?_
              refine lv_iload_n hx hb dX12_two_73 rfl (lv_at hl 3 rfl) ?_
              refine lv_iload hx hb dX12_two_74 (lv_at hl 1 rfl) ?_
              refine lv_iload_n hx hb dX12_two_76 rfl (lv_at hl 4 rfl) ?_
              refine lv_iconst (v := 1) hx hb dX12_two_77 (by decide) ?_
              refine lv_iload hx hb dX12_two_78 (lv_at hl 0 rfl) ?_
              refine lv_isub hx hb dX12_two_80 ?_
              refine lv_iload_n hx hb dX12_two_81 rfl (lv_at hl 5 rfl) ?_
              obtain ⟨r82, g82, h⟩ := k_bind h
              refine k_callV (As := [.int x2, .int x1, .int (y4 / 2), .int x2, .int ((1 : Int32) - (y4 - y4 / 2 * 2)), .int x3]) (rest := []) (st1 := [.int r82.1]) (ws2 := (Wd49 cI aR q_hasImage q_place q_rowAt q_rowEnd q_seed q_thrown q_s r82.2)) hx hb hml hown hts hK hN hA hP hD hS hl (c_MD_hasBy l D cI cM cS cJ aR H.size x2 x1 (y4 / 2) x2 ((1 : Int32) - (y4 - y4 / 2 * 2)) x3 q_hasImage q_place q_rowAt q_rowEnd q_seed q_thrown q_s r65.2 g82) gX12_two_X12_hasBy rfl kdV_X12_hasBy 0 12 rfl rfl rfl [0, 1, 2] ⟨rfl, rfl⟩ ⟨Nat.le_of_ble_eq_true rfl, Nat.le_of_ble_eq_true rfl⟩ ⟨Nat.zero_le _, Nat.zero_le _⟩ rfl rfl (by decide +kernel) (k_rp rfl (by decide +kernel)) rfl rfl (Nat.le_of_ble_eq_true rfl) dX12_two_82 rfl (fun H locs hP hD hS => ?_)
              refine lv_aload_n hx hb dX12_two_85 rfl (lv_at hl 2 rfl) ?_
              refine lv_iload_n hx hb dX12_two_86 rfl (lv_at hl 4 rfl) ?_
              refine lv_iload_n hx hb dX12_two_87 rfl (lv_at hl 3 rfl) ?_
              refine lv_iload hx hb dX12_two_88 (lv_at hl 1 rfl) ?_
              refine lv_iload_n hx hb dX12_two_90 rfl (lv_at hl 4 rfl) ?_
              refine lv_iload hx hb dX12_two_91 (lv_at hl 0 rfl) ?_
              refine lv_iload_n hx hb dX12_two_93 rfl (lv_at hl 5 rfl) ?_
              obtain ⟨r94, g94, h⟩ := k_bind h
              refine k_callV (As := [.int x2, .int x1, .int (y4 / 2), .int x2, .int (y4 - y4 / 2 * 2), .int x3]) (rest := [.int r82.1]) (st1 := [.int r94.1, .int r82.1]) (ws2 := (Wd49 cI aR q_hasImage q_place q_rowAt q_rowEnd q_seed q_thrown q_s r94.2)) hx hb hml hown hts hK hN hA hP hD hS hl (c_MD_hasBy l D cI cM cS cJ aR H.size x2 x1 (y4 / 2) x2 (y4 - y4 / 2 * 2) x3 q_hasImage q_place q_rowAt q_rowEnd q_seed q_thrown q_s r82.2 g94) gX12_two_X12_hasBy rfl kdV_X12_hasBy 0 12 rfl rfl rfl [0, 1, 2] ⟨rfl, rfl⟩ ⟨Nat.le_of_ble_eq_true rfl, Nat.le_of_ble_eq_true rfl⟩ ⟨Nat.zero_le _, Nat.zero_le _⟩ rfl rfl (by decide +kernel) (k_rp rfl (by decide +kernel)) rfl rfl (Nat.le_of_ble_eq_true rfl) dX12_two_94 rfl (fun H locs hP hD hS => ?_)
              refine lv_icmp_gt (tgt := 109) hx hb dX12_two_97 (by decide) (fun c97 => ?_) (fun c97 => ?_)
              · have h := k_pos c97 h
                refine lv_iinc (v := (y4 + 1)) (lv' := [(4, .int (y4 + 1)), (6, .int (y4 - y4 / 2 * 2)), (5, .int (y4 / 2)), (0, .ref (aR 0)), (1, .int x1), (2, .int x2), (3, .int x3)]) hx hb dX12_two_109 hl (k := 6) rfl (by first | rfl | decide) (by decide) rfl (fun ls hl => ?_)
                refine lv_goto (tgt := 24) hx hb dX12_two_112 (by decide) ?_
                exact ih24 (y4 + 1) r94.2 H locs ls hP hD hS (lv_sub hl [3, 4, 5, 6, 0] rfl) h
              · have h := k_neg c97 h
                refine lv_bipush (v := 10) hx hb dX12_two_100 (by decide) ?_
                refine lv_iload hx hb dX12_two_102 (lv_at hl 1 rfl) ?_
                refine lv_imul hx hb dX12_two_104 ?_
                refine lv_iload hx hb dX12_two_105 (lv_at hl 0 rfl) ?_
                refine lv_iadd hx hb dX12_two_107 ?_
                have h := Option.some.inj h; subst h
                exact hret _ _ _ _ hP hS dX12_two_108
      refine lv_istore (lv' := [(4, .int 0), (0, .ref (aR 0)), (1, .int x1), (2, .int x2), (3, .int x3)]) hx hb dX12_two_22 hl (by decide) rfl (fun ls hl => ?_)
      exact B24 lfu 0 q_m H locs ls hP hD hS (lv_sub hl [1, 2, 3, 4, 0] rfl) h
    · have h := k_pos c16 h
      refine lv_iconst (v := (-1)) hx hb dX12_two_19 (by decide) ?_
      have h := Option.some.inj h; subst h
      exact hret _ _ _ _ hP hS dX12_two_20
abbrev rm_X12_gcd : Room := { frames := 0, cells := 0, slots := 0, locals := 0 }
set_option maxHeartbeats 4000000 in
set_option maxRecDepth 100000 in
theorem c_MD_gcd (l : Launch) (D : va_G) (cI cM cS cJ : ClassId) (sz : Nat) (x0 : Int64) (x2 : Int64) {o : (Int64)} (hsem : S_MD_gcd x0 x2 = some o) : kMet l yX12_gcd wsX12_gcd rm_X12_gcd [.long x0, .long x2] D (kT cI cM cS cJ) (Wd0) sz (some (.long o)) (Wd0) := by
  refine k_metJ (by decide) rfl rfl (Nat.le_of_ble_eq_true rfl) ?_
  intro p e s m below meth c ls Q A hx hb hml hts hown hK hN hA hP hD hS hl hsz hnm hret
  have hown : s.vm.findClass RX12 = some m.cls := hown
  replace hl : lv_has ls 10 [(0, .long x0), (2, .long x2)] := hl
  have h := hsem
  clear hsem
  rw [S_MD_gcd] at h
  refine lv_lload_n hx hb dX12_gcd_0 rfl (lv_at hl 0 rfl) ?_
  refine lv_lstore (lv' := [(4, .long x0), (0, .long x0), (2, .long x2)]) hx hb dX12_gcd_1 hl (by decide) rfl (fun ls hl => ?_)
  refine lv_lload_n hx hb dX12_gcd_3 rfl (lv_at hl 2 rfl) ?_
  have B6 : ∀ (n6 : Nat) (y4 : Int64) (y6 : Int64) (H : Heap) (locs : List Loc) (ls : Array Slot), va_P D vwCl (Wd0) H → va_D A (Wd0) → va_S A s.heap H locs → lv_has ls 10 [(4, .long y4), (6, .long y6)] → S_MD_gcd_L6 n6 y4 y6 = some o → W p l e rm_X12_gcd s m ([.long x0, .long x2] : List Value).toArray below meth c H locs 0 0 Q (F0 m 6 ls []) := by
    intro n6
    induction n6 with
    | zero => intro y4 y6 H locs ls hP hD hS hl h; exact absurd h (by simp [S_MD_gcd_L6])
    | succ n6 ih6 =>
      intro y4 y6 H locs ls hP hD hS hl h
      rw [S_MD_gcd_L6] at h
      refine lv_lload hx hb dX12_gcd_6 (lv_at hl 1 rfl) ?_
      refine lv_lconst (v := 0) hx hb dX12_gcd_8 (by decide) ?_
      refine W.lcmp hx hb dX12_gcd_9 ?_
      refine lv_if_eq (tgt := 31) hx hb dX12_gcd_10 (by decide) (fun c10 => ?_) (fun c10 => ?_)
      · have h := k_pos c10 h
        refine lv_lload hx hb dX12_gcd_31 (lv_at hl 0 rfl) ?_
        have h := Option.some.inj h; subst h
        exact hret _ _ _ _ hP hS dX12_gcd_33
      · have h := k_neg c10 h
        refine lv_lload hx hb dX12_gcd_13 (lv_at hl 0 rfl) ?_
        refine lv_lload hx hb dX12_gcd_15 (lv_at hl 1 rfl) ?_
        obtain ⟨g17, h⟩ := k_guard h
        refine lv_lrem hx hb dX12_gcd_17 g17 ?_
        refine lv_lstore (lv' := [(8, .long (y4 - y4 / y6 * y6)), (4, .long y4), (6, .long y6)]) hx hb dX12_gcd_18 hl (by decide) rfl (fun ls hl => ?_)
        refine lv_lload hx hb dX12_gcd_20 (lv_at hl 2 rfl) ?_
        refine lv_lstore (lv' := [(4, .long y6), (8, .long (y4 - y4 / y6 * y6)), (6, .long y6)]) hx hb dX12_gcd_22 hl (by decide) rfl (fun ls hl => ?_)
        refine lv_lload hx hb dX12_gcd_24 (lv_at hl 1 rfl) ?_
        refine lv_lstore (lv' := [(6, .long (y4 - y4 / y6 * y6)), (4, .long y6), (8, .long (y4 - y4 / y6 * y6))]) hx hb dX12_gcd_26 hl (by decide) rfl (fun ls hl => ?_)
        refine lv_goto (tgt := 6) hx hb dX12_gcd_28 (by decide) ?_
        exact ih6 y6 (y4 - y4 / y6 * y6) H locs ls hP hD hS (lv_sub hl [1, 0] rfl) h
  refine lv_lstore (lv' := [(6, .long x2), (4, .long x0), (0, .long x0), (2, .long x2)]) hx hb dX12_gcd_4 hl (by decide) rfl (fun ls hl => ?_)
  exact B6 lfu x0 x2 s.heap [] ls hP hD hS (lv_sub hl [1, 0] rfl) h
theorem kdS_X12_gcd : yX12_gcd.cls ≠ "java/lang/invoke/MethodHandle" ∧ yX12_gcd.cls ≠ "java/lang/invoke/VarHandle" ∧ (parseMethodDescriptor yX12_gcd.desc).map (fun d => d.parameters.length) = some 2 := by decide +kernel
abbrev rm_X12_partOf : Room := { frames := 1, cells := 0, slots := 0, locals := 29 }
set_option maxHeartbeats 4000000 in
set_option maxRecDepth 100000 in
theorem c_MD_partOf (l : Launch) (D : va_G) (cI cM cS cJ : ClassId) (sz : Nat) (x0 : Int64) (x2 : Int64) (x4 : Int32) {o : (Int64)} (hsem : S_MD_partOf x0 x2 x4 = some o) : kMet l yX12_partOf wsX12_partOf rm_X12_partOf [.long x0, .long x2, .int x4] D (kT cI cM cS cJ) (Wd0) sz (some (.long o)) (Wd0) := by
  refine k_metJ (by decide) rfl rfl (Nat.le_of_ble_eq_true rfl) ?_
  intro p e s m below meth c ls Q A hx hb hml hts hown hK hN hA hP hD hS hl hsz hnm hret
  have hown : s.vm.findClass RX12 = some m.cls := hown
  replace hl : lv_has ls 5 [(0, .long x0), (2, .long x2), (4, .int x4)] := hl
  have h := hsem
  clear hsem
  rw [S_MD_partOf] at h
  refine lv_lload_n hx hb dX12_partOf_0 rfl (lv_at hl 0 rfl) ?_
  refine lv_lconst (v := 0) hx hb dX12_partOf_1 (by decide) ?_
  refine W.lcmp hx hb dX12_partOf_2 ?_
  refine lv_if_ne (tgt := 10) hx hb dX12_partOf_3 (by decide) (fun c3 => ?_) (fun c3 => ?_)
  · have h := k_neg c3 h
    refine lv_iload hx hb dX12_partOf_10 (lv_at hl 2 rfl) ?_
    refine lv_if_ne (tgt := 19) hx hb dX12_partOf_12 (by decide) (fun c12 => ?_) (fun c12 => ?_)
    · have h := k_neg c12 h
      refine lv_lload_n hx hb dX12_partOf_19 rfl (lv_at hl 1 rfl) ?_
      refine lv_lload_n hx hb dX12_partOf_20 rfl (lv_at hl 0 rfl) ?_
      refine lv_lload_n hx hb dX12_partOf_21 rfl (lv_at hl 1 rfl) ?_
      obtain ⟨r22, g22, h⟩ := k_bind h
      refine k_callS (As := [.long x0, .long x2]) (rest := [.long x2]) (st1 := [.long r22, .long x2]) (ws2 := (Wd0)) hx hb hml hown hts hK hN hA hP hD hS hl (c_MD_gcd l D cI cM cS cJ s.heap.size x0 x2 g22) gX12_partOf_X12_gcd rfl kdS_X12_gcd [] ⟨rfl, rfl⟩ ⟨Nat.le_of_ble_eq_true rfl, Nat.le_of_ble_eq_true rfl⟩ ⟨Nat.zero_le _, Nat.zero_le _⟩ rfl rfl (by decide +kernel) (k_rp rfl (by decide +kernel)) rfl rfl (Nat.le_of_ble_eq_true rfl) dX12_partOf_22 rfl (fun H locs hP hD hS => ?_)
      obtain ⟨g25, h⟩ := k_guard h
      refine lv_ldiv hx hb dX12_partOf_25 g25 ?_
      have h := Option.some.inj h; subst h
      exact hret _ _ _ _ hP hS dX12_partOf_26
    · have h := k_pos c12 h
      refine lv_lload_n hx hb dX12_partOf_15 rfl (lv_at hl 0 rfl) ?_
      refine lv_goto (tgt := 20) hx hb dX12_partOf_16 (by decide) ?_
      refine lv_lload_n hx hb dX12_partOf_20 rfl (lv_at hl 0 rfl) ?_
      refine lv_lload_n hx hb dX12_partOf_21 rfl (lv_at hl 1 rfl) ?_
      obtain ⟨r22, g22, h⟩ := k_bind h
      refine k_callS (As := [.long x0, .long x2]) (rest := [.long x0]) (st1 := [.long r22, .long x0]) (ws2 := (Wd0)) hx hb hml hown hts hK hN hA hP hD hS hl (c_MD_gcd l D cI cM cS cJ s.heap.size x0 x2 g22) gX12_partOf_X12_gcd rfl kdS_X12_gcd [] ⟨rfl, rfl⟩ ⟨Nat.le_of_ble_eq_true rfl, Nat.le_of_ble_eq_true rfl⟩ ⟨Nat.zero_le _, Nat.zero_le _⟩ rfl rfl (by decide +kernel) (k_rp rfl (by decide +kernel)) rfl rfl (Nat.le_of_ble_eq_true rfl) dX12_partOf_22 rfl (fun H locs hP hD hS => ?_)
      obtain ⟨g25, h⟩ := k_guard h
      refine lv_ldiv hx hb dX12_partOf_25 g25 ?_
      have h := Option.some.inj h; subst h
      exact hret _ _ _ _ hP hS dX12_partOf_26
  · have h := k_pos c3 h
    refine lv_iload hx hb dX12_partOf_6 (lv_at hl 2 rfl) ?_
    refine lv_i2l (v := (x4 : Int32).toInt64) hx hb dX12_partOf_8 rfl ?_
    have h := Option.some.inj h; subst h
    exact hret _ _ _ _ hP hS dX12_partOf_9
