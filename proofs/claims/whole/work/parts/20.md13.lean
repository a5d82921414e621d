abbrev Wd58 (cI : ClassId) (aR : Nat → Nat) (q_hasImage : Int32) (q_place : Int32) (q_rowAt : Int32) (q_rowEnd : Int32) (q_seed : Int32) (q_thrown : Int32) (q_s : Nat → Int32) (q_image : Nat → Int32) : va_W := [((aR 0), .inr (12, [.ref (aR 1), .ref (aR 2), .ref (aR 3), .ref (aR 4), .int q_hasImage, .int q_place, .int q_rowAt, .int q_rowEnd, .ref (aR 5), .ref (aR 6), .int q_seed, .ref (aR 7), .ref (aR 8), .ref (aR 9), .ref (aR 10), .ref (aR 11), .ref (aR 12), .int q_thrown])), ((aR 1), .inl (cI, 37, .inl q_s)), ((aR 3), .inl (cI, 37, .inl q_image))]
abbrev rm_X12_image : Room := { frames := 1, cells := 0, slots := 0, locals := 22 }
set_option maxHeartbeats 4000000 in
set_option maxRecDepth 100000 in
theorem c_MD_image (l : Launch) (D : va_G) (cI cM cS cJ : ClassId) (aR : Nat → Nat) (sz : Nat) (q_hasImage : Int32) (q_place : Int32) (q_rowAt : Int32) (q_rowEnd : Int32) (q_seed : Int32) (q_thrown : Int32) (q_s : Nat → Int32) (q_image : Nat → Int32) {o : (Int32) × (Int32) × (Nat → Int32)} (hsem : S_MD_image q_hasImage q_s q_image = some o) : kMet l yX12_image wsX12_image rm_X12_image [.ref (aR 0)] D (kT cI cM cS cJ) (Wd58 cI aR q_hasImage q_place q_rowAt q_rowEnd q_seed q_thrown q_s q_image) sz (some (.int o.1)) (Wd58 cI aR o.2.1 q_place q_rowAt q_rowEnd q_seed q_thrown q_s o.2.2) := by
  refine k_metI (by decide) rfl rfl (Nat.le_of_ble_eq_true rfl) ?_
  intro p e s m below meth c ls Q A hx hb hml hts hown hK hN hA hP hD hS hl hsz hnm hret
  have hown : s.vm.findClass RX12 = some m.cls := hown
  have hf9 := hts (.fieldLink RX12 9 "PlumbLineModel" "s" "[I") (List.mem_of_getElem? (i := 1) rfl)
  have hf16 := hts (.fieldLink RX12 16 "PlumbLineModel" "image" "[I") (List.mem_of_getElem? (i := 2) rfl)
  have hf238 := hts (.fieldLink RX12 238 "PlumbLineModel" "hasImage" "Z") (List.mem_of_getElem? (i := 3) rfl)
  have hiX12 : ∀ w ∈ u_ws RX12 TX12 18, w ∈ wsX12_image := fun w h => List.mem_cons_of_mem _ (List.mem_append_right _ h)
  replace hl : lv_has ls 1 [(0, .ref (aR 0))] := hl
  have h := hsem
  clear hsem
  rw [S_MD_image] at h
  refine lv_aload_n hx hb dX12_image_0 rfl (lv_at hl 0 rfl) ?_
  refine va_get (D := D) (ci := 12) (v := .ref (aR 1)) (C := RX12) (T := TX12) (N := 18) hx hb hts hiX12 hown hK hP 0 rfl rfl 0 (by decide) hf9 (fun _ z => z) rfl dX12_image_1 ?_
  refine lv_aload_n hx hb dX12_image_4 rfl (lv_at hl 0 rfl) ?_
  refine va_get (D := D) (ci := 12) (v := .ref (aR 3)) (C := RX12) (T := TX12) (N := 18) hx hb hts hiX12 hown hK hP 0 rfl rfl 2 (by decide) hf16 (fun _ z => z) rfl dX12_image_5 ?_
  obtain ⟨r8, g8, h⟩ := k_bind h
  refine k_callS (As := [.ref (aR 1), .ref (aR 3)]) (rest := []) (st1 := []) (ws2 := (Wd58 cI aR q_hasImage q_place q_rowAt q_rowEnd q_seed q_thrown q_s r8)) hx hb hml hown hts hK hN hA hP hD hS hl (c_MD_copies l D cI cM cS cJ (aR 1) (aR 3) s.heap.size q_s q_image g8) gX12_image_X12_copies rfl kdS_X12_copies [1, 2] ⟨rfl, rfl⟩ ⟨Nat.le_of_ble_eq_true rfl, Nat.le_of_ble_eq_true rfl⟩ ⟨Nat.zero_le _, Nat.zero_le _⟩ rfl rfl (by decide +kernel) (k_rp rfl (by decide +kernel)) rfl rfl (Nat.le_of_ble_eq_true rfl) dX12_image_8 rfl (fun H locs hP hD hS => ?_)
  refine lv_aload_n hx hb dX12_image_11 rfl (lv_at hl 0 rfl) ?_
  refine lv_iconst (v := 1) hx hb dX12_image_12 (by decide) ?_
  refine va_put (D := D) (ci := 12) (v := .int 1) (ty := .boolean) (C := RX12) (T := TX12) (N := 18) hx hb hts hiX12 tyX12 tyX12_ok nmX12 hown hK hP hD hS 0 rfl rfl 4 (by decide) hf238 (fun _ z => z) rfl (by decide +kernel) rfl rfl (Nat.le_of_ble_eq_true rfl) dX12_image_13 (fun H locs hP hD hS => ?_)
  replace hP : va_P D vwCl (Wd58 cI aR 1 q_place q_rowAt q_rowEnd q_seed q_thrown q_s r8) H := hP
  replace hD : va_D A (Wd58 cI aR 1 q_place q_rowAt q_rowEnd q_seed q_thrown q_s r8) := hD
  refine lv_aload_n hx hb dX12_image_16 rfl (lv_at hl 0 rfl) ?_
  refine va_get (D := D) (ci := 12) (v := .ref (aR 1)) (C := RX12) (T := TX12) (N := 18) hx hb hts hiX12 hown hK hP 0 rfl rfl 0 (by decide) hf9 (fun _ z => z) rfl dX12_image_17 ?_
  refine lv_iconst (v := 1) hx hb dX12_image_20 (by decide) ?_
  refine va_iald hx hb hK hP 1 0 rfl rfl (show ¬ ((1 : Int32) < 0 ∨ 37 ≤ (1 : Int32).toNatClampNeg) by decide) dX12_image_21 ?_
  have h := Option.some.inj h; subst h
  exact hret _ _ _ _ hP hS dX12_image_22
abbrev rm_X12_restore : Room := { frames := 1, cells := 0, slots := 0, locals := 22 }
set_option maxHeartbeats 4000000 in
set_option maxRecDepth 100000 in
theorem c_MD_restore (l : Launch) (D : va_G) (cI cM cS cJ : ClassId) (aR : Nat → Nat) (sz : Nat) (q_hasImage : Int32) (q_place : Int32) (q_rowAt : Int32) (q_rowEnd : Int32) (q_seed : Int32) (q_thrown : Int32) (q_s : Nat → Int32) (q_image : Nat → Int32) {o : (Int32) × (Nat → Int32)} (hsem : S_MD_restore q_hasImage q_s q_image = some o) : kMet l yX12_restore wsX12_restore rm_X12_restore [.ref (aR 0)] D (kT cI cM cS cJ) (Wd58 cI aR q_hasImage q_place q_rowAt q_rowEnd q_seed q_thrown q_s q_image) sz (some (.int o.1)) (Wd58 cI aR q_hasImage q_place q_rowAt q_rowEnd q_seed q_thrown o.2 q_image) := by
  refine k_metI (by decide) rfl rfl (Nat.le_of_ble_eq_true rfl) ?_
  intro p e s m below meth c ls Q A hx hb hml hts hown hK hN hA hP hD hS hl hsz hnm hret
  have hown : s.vm.findClass RX12 = some m.cls := hown
  have hf238 := hts (.fieldLink RX12 238 "PlumbLineModel" "hasImage" "Z") (List.mem_of_getElem? (i := 1) rfl)
  have hf16 := hts (.fieldLink RX12 16 "PlumbLineModel" "image" "[I") (List.mem_of_getElem? (i := 2) rfl)
  have hf9 := hts (.fieldLink RX12 9 "PlumbLineModel" "s" "[I") (List.mem_of_getElem? (i := 3) rfl)
  have hiX12 : ∀ w ∈ u_ws RX12 TX12 18, w ∈ wsX12_restore := fun w h => List.mem_cons_of_mem _ (List.mem_append_right _ h)
  replace hl : lv_has ls 1 [(0, .ref (aR 0))] := hl
  have h := hsem
  clear hsem
  rw [S_MD_restore] at h
  refine lv_aload_n hx hb dX12_restore_0 rfl (lv_at hl 0 rfl) ?_
  refine va_get (D := D) (ci := 12) (v := .int q_hasImage) (C := RX12) (T := TX12) (N := 18) hx hb hts hiX12 hown hK hP 0 rfl rfl 4 (by decide) hf238 (fun _ z => z) rfl dX12_restore_1 ?_
  refine lv_if_ne (tgt := 10) hx hb dX12_restore_4 (by decide) (fun c4 => ?_) (fun c4 => ?_)
  · have h := k_neg c4 h
    refine lv_aload_n hx hb dX12_restore_10 rfl (lv_at hl 0 rfl) ?_
    refine va_get (D := D) (ci := 12) (v := .ref (aR 3)) (C := RX12) (T := TX12) (N := 18) hx hb hts hiX12 hown hK hP 0 rfl rfl 2 (by decide) hf16 (fun _ z => z) rfl dX12_restore_11 ?_
    refine lv_aload_n hx hb dX12_restore_14 rfl (lv_at hl 0 rfl) ?_
    refine va_get (D := D) (ci := 12) (v := .ref (aR 1)) (C := RX12) (T := TX12) (N := 18) hx hb hts hiX12 hown hK hP 0 rfl rfl 0 (by decide) hf9 (fun _ z => z) rfl dX12_restore_15 ?_
    obtain ⟨r18, g18, h⟩ := k_bind h
    refine k_callS (As := [.ref (aR 3), .ref (aR 1)]) (rest := []) (st1 := []) (ws2 := (Wd58 cI aR q_hasImage q_place q_rowAt q_rowEnd q_seed q_thrown r18 q_image)) hx hb hml hown hts hK hN hA hP hD hS hl (c_MD_copies l D cI cM cS cJ (aR 3) (aR 1) s.heap.size q_image q_s g18) gX12_restore_X12_copies rfl kdS_X12_copies [2, 1] ⟨rfl, rfl⟩ ⟨Nat.le_of_ble_eq_true rfl, Nat.le_of_ble_eq_true rfl⟩ ⟨Nat.zero_le _, Nat.zero_le _⟩ rfl rfl (by decide +kernel) (k_rp rfl (by decide +kernel)) rfl rfl (Nat.le_of_ble_eq_true rfl) dX12_restore_18 rfl (fun H locs hP hD hS => ?_)
    refine lv_aload_n hx hb dX12_restore_21 rfl (lv_at hl 0 rfl) ?_
    refine va_get (D := D) (ci := 12) (v := .ref (aR 1)) (C := RX12) (T := TX12) (N := 18) hx hb hts hiX12 hown hK hP 0 rfl rfl 0 (by decide) hf9 (fun _ z => z) rfl dX12_restore_22 ?_
    refine lv_iconst (v := 1) hx hb dX12_restore_25 (by decide) ?_
    refine va_iald hx hb hK hP 1 0 rfl rfl (show ¬ ((1 : Int32) < 0 ∨ 37 ≤ (1 : Int32).toNatClampNeg) by decide) dX12_restore_26 ?_
    have h := Option.some.inj h; subst h
    exact hret _ _ _ _ hP hS dX12_restore_27
  · have h := k_pos c4 h
    refine lv_bipush (v := (-3)) hx hb dX12_restore_7 (by decide) ?_
    have h := Option.some.inj h; subst h
    exact hret _ _ _ _ hP hS dX12_restore_9
abbrev rm_X12_count : Room := { frames := 3, cells := 0, slots := 0, locals := 65 }
set_option maxHeartbeats 4000000 in
set_option maxRecDepth 100000 in
theorem c_MD_count (l : Launch) (D : va_G) (cI cM cS cJ : ClassId) (aR : Nat → Nat) (sz : Nat) (x1 : Int32) (q_hasImage : Int32) (q_place : Int32) (q_rowAt : Int32) (q_rowEnd : Int32) (q_seed : Int32) (q_thrown : Int32) (q_s : Nat → Int32) {o : (Int32)} (hsem : S_MD_count x1 q_s = some o) : kMet l yX12_count wsX12_count rm_X12_count [.ref (aR 0), .int x1] D (kT cI cM cS cJ) (Wd40 cI aR q_hasImage q_place q_rowAt q_rowEnd q_seed q_thrown q_s) sz (some (.int o)) (Wd40 cI aR q_hasImage q_place q_rowAt q_rowEnd q_seed q_thrown q_s) := by
  refine k_metI (by decide) rfl rfl (Nat.le_of_ble_eq_true rfl) ?_
  intro p e s m below meth c ls Q A hx hb hml hts hown hK hN hA hP hD hS hl hsz hnm hret
  have hown : s.vm.findClass RX12 = some m.cls := hown
  have hf9 := hts (.fieldLink RX12 9 "PlumbLineModel" "s" "[I") (List.mem_of_getElem? (i := 1) rfl)
  have hiX12 : ∀ w ∈ u_ws RX12 TX12 18, w ∈ wsX12_count := fun w h => List.mem_cons_of_mem _ (List.mem_append_right _ h)
  replace hl : lv_has ls 4 [(0, .ref (aR 0)), (1, .int x1)] := hl
  have h := hsem
  clear hsem
  rw [S_MD_count] at h
  refine lv_iload_n hx hb dX12_count_0 rfl (lv_at hl 1 rfl) ?_
  refine lv_iconst (v := 0) hx hb dX12_count_1 (by decide) ?_
  refine lv_iconst (v := 4) hx hb dX12_count_2 (by decide) ?_
  refine k_callS (As := [.int x1, .int 0, .int 4]) (rest := []) (st1 := [.int (S_MD_isIn x1 0 4)]) (ws2 := (Wd40 cI aR q_hasImage q_place q_rowAt q_rowEnd q_seed q_thrown q_s)) hx hb hml hown hts hK hN hA hP hD hS hl (c_MD_isIn l D cI cM cS cJ s.heap.size x1 0 4 rfl) gX12_count_X12_isIn rfl kdS_X12_isIn [] ⟨rfl, rfl⟩ ⟨Nat.le_of_ble_eq_true rfl, Nat.le_of_ble_eq_true rfl⟩ ⟨Nat.zero_le _, Nat.zero_le _⟩ rfl rfl (by decide +kernel) (k_rp rfl (by decide +kernel)) rfl rfl (Nat.le_of_ble_eq_true rfl) dX12_count_3 rfl (fun H locs hP hD hS => ?_)
  refine lv_if_eq (tgt := 16) hx hb dX12_count_6 (by decide) (fun c6 => ?_) (fun c6 => ?_)
  · have h := k_pos c6 h
    refine lv_iload_n hx hb dX12_count_16 rfl (lv_at hl 1 rfl) ?_
    refine lv_iconst (v := 5) hx hb dX12_count_17 (by decide) ?_
    refine lv_icmp_ne (tgt := 29) hx hb dX12_count_18 (by decide) (fun c18 => ?_) (fun c18 => ?_)
    · have h := k_neg c18 h
      refine lv_iload_n hx hb dX12_count_29 rfl (lv_at hl 1 rfl) ?_
      refine lv_bipush (v := 6) hx hb dX12_count_30 (by decide) ?_
      refine lv_icmp_eq (tgt := 37) hx hb dX12_count_32 (by decide) (fun c32 => ?_) (fun c32 => ?_)
      · have h := k_pos c32 h
        refine lv_iconst (v := 0) hx hb dX12_count_37 (by decide) ?_
        refine lv_istore_n (lv' := [(2, .int 0), (0, .ref (aR 0)), (1, .int x1)]) hx hb dX12_count_38 rfl hl (by decide) rfl (fun ls hl => ?_)
        refine lv_iconst (v := 0) hx hb dX12_count_39 (by decide) ?_
        have B41 : ∀ (n41 : Nat) (y2 : Int32) (y3 : Int32) (H : Heap) (locs : List Loc) (ls : Array Slot), va_P D vwCl (Wd40 cI aR q_hasImage q_place q_rowAt q_rowEnd q_seed q_thrown q_s) H → va_D A (Wd40 cI aR q_hasImage q_place q_rowAt q_rowEnd q_seed q_thrown q_s) → va_S A s.heap H locs → lv_has ls 4 [(0, .ref (aR 0)), (2, .int y2), (3, .int y3)] → S_MD_count_L41 q_s n41 y2 y3 = some o → W p l e rm_X12_count s m ([.ref (aR 0), .int x1] : List Value).toArray below meth c H locs 0 0 Q (F0 m 41 ls []) := by
          intro n41
          induction n41 with
          | zero => intro y2 y3 H locs ls hP hD hS hl h; exact absurd h (by simp [S_MD_count_L41])
          | succ n41 ih41 =>
            intro y2 y3 H locs ls hP hD hS hl h
            rw [S_MD_count_L41] at h
            refine lv_iload_n hx hb dX12_count_41 rfl (lv_at hl 2 rfl) ?_
            refine lv_aload_n hx hb dX12_count_42 rfl (lv_at hl 0 rfl) ?_
            refine va_get (D := D) (ci := 12) (v := .ref (aR 1)) (C := RX12) (T := TX12) (N := 18) hx hb hts hiX12 hown hK hP 0 rfl rfl 0 (by decide) hf9 (fun _ z => z) rfl dX12_count_43 ?_
            refine lv_iconst (v := 0) hx hb dX12_count_46 (by decide) ?_
            refine va_iald hx hb hK hP 1 0 rfl rfl (show ¬ ((0 : Int32) < 0 ∨ 37 ≤ (0 : Int32).toNatClampNeg) by decide) dX12_count_47 ?_
            refine lv_icmp_ge (tgt := 72) hx hb dX12_count_48 (by decide) (fun c48 => ?_) (fun c48 => ?_)
            · have h := k_pos c48 h
              refine lv_iload_n hx hb dX12_count_72 rfl (lv_at hl 1 rfl) ?_
              have h := Option.some.inj h; subst h
              exact hret _ _ _ _ hP hS dX12_count_73
            · have h := k_neg c48 h
              refine lv_iload_n hx hb dX12_count_51 rfl (lv_at hl 1 rfl) ?_
              refine lv_aload_n hx hb dX12_count_52 rfl (lv_at hl 0 rfl) ?_
              refine va_get (D := D) (ci := 12) (v := .ref (aR 1)) (C := RX12) (T := TX12) (N := 18) hx hb hts hiX12 hown hK hP 0 rfl rfl 0 (by decide) hf9 (fun _ z => z) rfl dX12_count_53 ?_
              refine lv_iload_n hx hb dX12_count_56 rfl (lv_at hl 2 rfl) ?_
              refine lv_iconst (v := 3) hx hb dX12_count_57 (by decide) ?_
              refine k_callS (As := [.int y3, .int 3]) (rest := [.ref (aR 1), .int y2]) (st1 := [.int (S_MD_of y3 3), .ref (aR 1), .int y2]) (ws2 := (Wd40 cI aR q_hasImage q_place q_rowAt q_rowEnd q_seed q_thrown q_s)) hx hb hml hown hts hK hN hA hP hD hS hl (c_MD_of l D cI cM cS cJ H.size y3 3 rfl) gX12_count_X12_of rfl kdS_X12_of [] ⟨rfl, rfl⟩ ⟨Nat.le_of_ble_eq_true rfl, Nat.le_of_ble_eq_true rfl⟩ ⟨Nat.zero_le _, Nat.zero_le _⟩ rfl rfl (by decide +kernel) (k_rp rfl (by decide +kernel)) rfl rfl (Nat.le_of_ble_eq_true rfl) dX12_count_58 rfl (fun H locs hP hD hS => ?_)
              obtain ⟨g61, h⟩ := k_guard h
              refine va_iald hx hb hK hP 1 0 rfl rfl g61 dX12_count_61 ?_
              refine lv_iload_n hx hb dX12_count_62 rfl (lv_at hl 2 rfl) ?_
              refine lv_ishl hx hb dX12_count_63 ?_
              refine lv_ior hx hb dX12_count_64 ?_
              refine lv_istore_n (lv' := [(2, .int (y2 ||| ((q_s (S_MD_of y3 3).toNatClampNeg) <<< (y3 &&& 31)))), (0, .ref (aR 0)), (3, .int y3)]) hx hb dX12_count_65 rfl hl (by decide) rfl (fun ls hl => ?_)
              refine lv_iinc (v := (y3 + 1)) (lv' := [(3, .int (y3 + 1)), (2, .int (y2 ||| ((q_s (S_MD_of y3 3).toNatClampNeg) <<< (y3 &&& 31)))), (0, .ref (aR 0))]) hx hb dX12_count_66 hl (k := 2) rfl (by first | rfl | decide) (by decide) rfl (fun ls hl => ?_)
              refine lv_goto (tgt := 41) hx hb dX12_count_69 (by decide) ?_
              exact ih41 (y2 ||| ((q_s (S_MD_of y3 3).toNatClampNeg) <<< (y3 &&& 31))) (y3 + 1) H locs ls hP hD hS (lv_sub hl [2, 1, 0] rfl) h
        refine lv_istore_n (lv' := [(3, .int 0), (2, .int 0), (0, .ref (aR 0)), (1, .int x1)]) hx hb dX12_count_40 rfl hl (by decide) rfl (fun ls hl => ?_)
        exact B41 lfu 0 0 H locs ls hP hD hS (lv_sub hl [2, 1, 0] rfl) h
      · have h := k_neg c32 h
        refine lv_iconst (v := (-1)) hx hb dX12_count_35 (by decide) ?_
        have h := Option.some.inj h; subst h
        exact hret _ _ _ _ hP hS dX12_count_36
    · have h := k_pos c18 h
      refine lv_aload_n hx hb dX12_count_21 rfl (lv_at hl 0 rfl) ?_
      refine va_get (D := D) (ci := 12) (v := .ref (aR 1)) (C := RX12) (T := TX12) (N := 18) hx hb hts hiX12 hown hK hP 0 rfl rfl 0 (by decide) hf9 (fun _ z => z) rfl dX12_count_22 ?_
      obtain ⟨r25, g25, h⟩ := k_bind h
      refine k_callS (As := [.ref (aR 1)]) (rest := []) (st1 := [.int r25]) (ws2 := (Wd40 cI aR q_hasImage q_place q_rowAt q_rowEnd q_seed q_thrown q_s)) hx hb hml hown hts hK hN hA hP hD hS hl (c_MD_upright l D cI cM cS cJ (aR 1) H.size q_s g25) gX12_count_X12_upright rfl kdS_X12_upright [1] ⟨rfl, rfl⟩ ⟨Nat.le_of_ble_eq_true rfl, Nat.le_of_ble_eq_true rfl⟩ ⟨Nat.zero_le _, Nat.zero_le _⟩ rfl rfl (by decide +kernel) (k_rp rfl (by decide +kernel)) rfl rfl (Nat.le_of_ble_eq_true rfl) dX12_count_25 rfl (fun H locs hP hD hS => ?_)
      have h := Option.some.inj h; subst h
      exact hret _ _ _ _ hP hS dX12_count_28
  · have h := k_neg c6 h
    refine lv_aload_n hx hb dX12_count_9 rfl (lv_at hl 0 rfl) ?_
    refine va_get (D := D) (ci := 12) (v := .ref (aR 1)) (C := RX12) (T := TX12) (N := 18) hx hb hts hiX12 hown hK hP 0 rfl rfl 0 (by decide) hf9 (fun _ z => z) rfl dX12_count_10 ?_
    refine lv_iload_n hx hb dX12_count_13 rfl (lv_at hl 1 rfl) ?_
    obtain ⟨g14, h⟩ := k_guard h
    refine va_iald hx hb hK hP 1 0 rfl rfl g14 dX12_count_14 ?_
    have h := Option.some.inj h; subst h
    exact hret _ _ _ _ hP hS dX12_count_15
abbrev rm_X12_thrown : Room := { frames := 0, cells := 0, slots := 0, locals := 0 }
set_option maxHeartbeats 4000000 in
set_option maxRecDepth 100000 in
theorem c_MD_thrown (l : Launch) (D : va_G) (cI cM cS cJ : ClassId) (aR : Nat → Nat) (sz : Nat) (q_hasImage : Int32) (q_place : Int32) (q_rowAt : Int32) (q_rowEnd : Int32) (q_seed : Int32) (q_thrown : Int32) {o : (Int32)} (hsem : S_MD_thrown q_thrown = o) : kMet l yX12_thrown wsX12_thrown rm_X12_thrown [.ref (aR 0)] D (kT cI cM cS cJ) (Wd57 aR q_hasImage q_place q_rowAt q_rowEnd q_seed q_thrown) sz (some (.int o)) (Wd57 aR q_hasImage q_place q_rowAt q_rowEnd q_seed q_thrown) := by
  refine k_metI (by decide) rfl rfl (Nat.le_of_ble_eq_true rfl) ?_
  intro p e s m below meth c ls Q A hx hb hml hts hown hK hN hA hP hD hS hl hsz hnm hret
  have hown : s.vm.findClass RX12 = some m.cls := hown
  have hf242 := hts (.fieldLink RX12 242 "PlumbLineModel" "thrown" "I") (List.mem_of_getElem? (i := 1) rfl)
  have hiX12 : ∀ w ∈ u_ws RX12 TX12 18, w ∈ wsX12_thrown := fun w h => List.mem_cons_of_mem _ (List.mem_append_right _ h)
  replace hl : lv_has ls 1 [(0, .ref (aR 0))] := hl
  have h := hsem
  clear hsem
  rw [S_MD_thrown] at h
  refine lv_aload_n hx hb dX12_thrown_0 rfl (lv_at hl 0 rfl) ?_
  refine va_get (D := D) (ci := 12) (v := .int q_thrown) (C := RX12) (T := TX12) (N := 18) hx hb hts hiX12 hown hK hP 0 rfl rfl 17 (by decide) hf242 (fun _ z => z) rfl dX12_thrown_1 ?_
  subst h
  exact hret _ _ _ _ hP hS dX12_thrown_4
abbrev Wd59 (cI : ClassId) (aR : Nat → Nat) (q_hasImage : Int32) (q_place : Int32) (q_rowAt : Int32) (q_rowEnd : Int32) (q_seed : Int32) (q_thrown : Int32) (q_kept : Nat → Int32) (q_keptKind : Nat → Int32) (q_keptFigure : Nat → Int32) : va_W := [((aR 0), .inr (12, [.ref (aR 1), .ref (aR 2), .ref (aR 3), .ref (aR 4), .int q_hasImage, .int q_place, .int q_rowAt, .int q_rowEnd, .ref (aR 5), .ref (aR 6), .int q_seed, .ref (aR 7), .ref (aR 8), .ref (aR 9), .ref (aR 10), .ref (aR 11), .ref (aR 12), .int q_thrown])), ((aR 7), .inl (cI, 8, .inl q_kept)), ((aR 8), .inl (cI, 8, .inl q_keptKind)), ((aR 9), .inl (cI, 8, .inl q_keptFigure))]
abbrev rm_X12_keep : Room := { frames := 2, cells := 0, slots := 0, locals := 42 }
set_option maxHeartbeats 4000000 in
set_option maxRecDepth 100000 in
theorem c_MD_keep (l : Launch) (D : va_G) (cI cM cS cJ : ClassId) (aR : Nat → Nat) (sz : Nat) (x1 : Int32) (x2 : Int32) (x3 : Int32) (x4 : Int32) (q_hasImage : Int32) (q_place : Int32) (q_rowAt : Int32) (q_rowEnd : Int32) (q_seed : Int32) (q_thrown : Int32) (q_kept : Nat → Int32) (q_keptKind : Nat → Int32) (q_keptFigure : Nat → Int32) {o : (Int32) × (Nat → Int32) × (Nat → Int32) × (Nat → Int32)} (hsem : S_MD_keep x1 x2 x3 x4 q_kept q_keptKind q_keptFigure = some o) : kMet l yX12_keep wsX12_keep rm_X12_keep [.ref (aR 0), .int x1, .int x2, .int x3, .int x4] D (kT cI cM cS cJ) (Wd59 cI aR q_hasImage q_place q_rowAt q_rowEnd q_seed q_thrown q_kept q_keptKind q_keptFigure) sz (some (.int o.1)) (Wd59 cI aR q_hasImage q_place q_rowAt q_rowEnd q_seed q_thrown o.2.1 o.2.2.1 o.2.2.2) := by
  refine k_metI (by decide) rfl rfl (Nat.le_of_ble_eq_true rfl) ?_
  intro p e s m below meth c ls Q A hx hb hml hts hown hK hN hA hP hD hS hl hsz hnm hret
  have hown : s.vm.findClass RX12 = some m.cls := hown
  have hf28 := hts (.fieldLink RX12 28 "PlumbLineModel" "kept" "[I") (List.mem_of_getElem? (i := 1) rfl)
  have hf31 := hts (.fieldLink RX12 31 "PlumbLineModel" "keptKind" "[I") (List.mem_of_getElem? (i := 2) rfl)
  have hf34 := hts (.fieldLink RX12 34 "PlumbLineModel" "keptFigure" "[I") (List.mem_of_getElem? (i := 3) rfl)
  have hiX12 : ∀ w ∈ u_ws RX12 TX12 18, w ∈ wsX12_keep := fun w h => List.mem_cons_of_mem _ (List.mem_append_right _ h)
  replace hl : lv_has ls 5 [(0, .ref (aR 0)), (1, .int x1), (2, .int x2), (3, .int x3), (4, .int x4)] := hl
  have h := hsem
  clear hsem
  rw [S_MD_keep] at h
  refine lv_iload_n hx hb dX12_keep_0 rfl (lv_at hl 1 rfl) ?_
  obtain ⟨r1, g1, h⟩ := k_bind h
  refine k_callS (As := [.int x1]) (rest := []) (st1 := [.int r1]) (ws2 := (Wd59 cI aR q_hasImage q_place q_rowAt q_rowEnd q_seed q_thrown q_kept q_keptKind q_keptFigure)) hx hb hml hown hts hK hN hA hP hD hS hl (c_MD_isShelf l D cI cM cS cJ s.heap.size x1 g1) gX12_keep_X12_isShelf rfl kdS_X12_isShelf [] ⟨rfl, rfl⟩ ⟨Nat.le_of_ble_eq_true rfl, Nat.le_of_ble_eq_true rfl⟩ ⟨Nat.zero_le _, Nat.zero_le _⟩ rfl rfl (by decide +kernel) (k_rp rfl (by decide +kernel)) rfl rfl (Nat.le_of_ble_eq_true rfl) dX12_keep_1 rfl (fun H locs hP hD hS => ?_)
  refine lv_if_eq (tgt := 42) hx hb dX12_keep_4 (by decide) (fun c4 => ?_) (fun c4 => ?_)
  · have h := k_pos c4 h
    refine lv_iconst (v := (-1)) hx hb dX12_keep_42 (by decide) ?_
    have h := Option.some.inj h; subst h
    exact hret _ _ _ _ hP hS dX12_keep_43
  · have h := k_neg c4 h
    refine lv_iload_n hx hb dX12_keep_7 rfl (lv_at hl 2 rfl) ?_
    refine lv_iconst (v := 0) hx hb dX12_keep_8 (by decide) ?_
    refine lv_iconst (v := 1) hx hb dX12_keep_9 (by decide) ?_
    refine k_callS (As := [.int x2, .int 0, .int 1]) (rest := []) (st1 := [.int (S_MD_isIn x2 0 1)]) (ws2 := (Wd59 cI aR q_hasImage q_place q_rowAt q_rowEnd q_seed q_thrown q_kept q_keptKind q_keptFigure)) hx hb hml hown hts hK hN hA hP hD hS hl (c_MD_isIn l D cI cM cS cJ H.size x2 0 1 rfl) gX12_keep_X12_isIn rfl kdS_X12_isIn [] ⟨rfl, rfl⟩ ⟨Nat.le_of_ble_eq_true rfl, Nat.le_of_ble_eq_true rfl⟩ ⟨Nat.zero_le _, Nat.zero_le _⟩ rfl rfl (by decide +kernel) (k_rp rfl (by decide +kernel)) rfl rfl (Nat.le_of_ble_eq_true rfl) dX12_keep_10 rfl (fun H locs hP hD hS => ?_)
    refine lv_if_eq (tgt := 42) hx hb dX12_keep_13 (by decide) (fun c13 => ?_) (fun c13 => ?_)
    · have h := k_pos c13 h
      refine lv_iconst (v := (-1)) hx hb dX12_keep_42 (by decide) ?_
      have h := Option.some.inj h; subst h
      exact hret _ _ _ _ hP hS dX12_keep_43
    · have h := k_neg c13 h
      refine lv_iload_n hx hb dX12_keep_16 rfl (lv_at hl 2 rfl) ?_
      refine lv_iconst (v := 1) hx hb dX12_keep_17 (by decide) ?_
      have B44 : ∀ (q_kept : Nat → Int32) (q_keptKind : Nat → Int32) (q_keptFigure : Nat → Int32) (H : Heap) (locs : List Loc) (ls : Array Slot), va_P D vwCl (Wd59 cI aR q_hasImage q_place q_rowAt q_rowEnd q_seed q_thrown q_kept q_keptKind q_keptFigure) H → va_D A (Wd59 cI aR q_hasImage q_place q_rowAt q_rowEnd q_seed q_thrown q_kept q_keptKind q_keptFigure) → va_S A s.heap H locs → lv_has ls 5 [(0, .ref (aR 0)), (1, .int x1), (2, .int x2), (3, .int x3), (4, .int x4)] → S_MD_keep_J44 x1 x2 x3 x4 q_kept q_keptKind q_keptFigure = some o → W p l e rm_X12_keep s m ([.ref (aR 0), .int x1, .int x2, .int x3, .int x4] : List Value).toArray below meth c H locs 0 0 Q (F0 m 44 ls []) := by
        intro q_kept q_keptKind q_keptFigure H locs ls hP hD hS hl h
        rw [S_MD_keep_J44] at h
        refine lv_aload_n hx hb dX12_keep_44 rfl (lv_at hl 0 rfl) ?_
        refine va_get (D := D) (ci := 12) (v := .ref (aR 7)) (C := RX12) (T := TX12) (N := 18) hx hb hts hiX12 hown hK hP 0 rfl rfl 11 (by decide) hf28 (fun _ z => z) rfl dX12_keep_45 ?_
        refine lv_iload_n hx hb dX12_keep_48 rfl (lv_at hl 1 rfl) ?_
        refine lv_iload_n hx hb dX12_keep_49 rfl (lv_at hl 2 rfl) ?_
        obtain ⟨g50, h⟩ := k_guard h
        refine va_iast hx hb hK hP hD hS 1 0 rfl rfl g50 dX12_keep_50 (fun H locs hP hD hS => ?_)
        replace hP : va_P D vwCl (Wd59 cI aR q_hasImage q_place q_rowAt q_rowEnd q_seed q_thrown (upd q_kept x1.toNatClampNeg x2) q_keptKind q_keptFigure) H := hP
        replace hD : va_D A (Wd59 cI aR q_hasImage q_place q_rowAt q_rowEnd q_seed q_thrown (upd q_kept x1.toNatClampNeg x2) q_keptKind q_keptFigure) := hD
        refine lv_aload_n hx hb dX12_keep_51 rfl (lv_at hl 0 rfl) ?_
        refine va_get (D := D) (ci := 12) (v := .ref (aR 8)) (C := RX12) (T := TX12) (N := 18) hx hb hts hiX12 hown hK hP 0 rfl rfl 12 (by decide) hf31 (fun _ z => z) rfl dX12_keep_52 ?_
        refine lv_iload_n hx hb dX12_keep_55 rfl (lv_at hl 1 rfl) ?_
        refine lv_iload_n hx hb dX12_keep_56 rfl (lv_at hl 3 rfl) ?_
        refine va_iast hx hb hK hP hD hS 2 0 rfl rfl g50 dX12_keep_57 (fun H locs hP hD hS => ?_)
        replace hP : va_P D vwCl (Wd59 cI aR q_hasImage q_place q_rowAt q_rowEnd q_seed q_thrown (upd q_kept x1.toNatClampNeg x2) (upd q_keptKind x1.toNatClampNeg x3) q_keptFigure) H := hP
        replace hD : va_D A (Wd59 cI aR q_hasImage q_place q_rowAt q_rowEnd q_seed q_thrown (upd q_kept x1.toNatClampNeg x2) (upd q_keptKind x1.toNatClampNeg x3) q_keptFigure) := hD
        refine lv_aload_n hx hb dX12_keep_58 rfl (lv_at hl 0 rfl) ?_
        refine va_get (D := D) (ci := 12) (v := .ref (aR 9)) (C := RX12) (T := TX12) (N := 18) hx hb hts hiX12 hown hK hP 0 rfl rfl 13 (by decide) hf34 (fun _ z => z) rfl dX12_keep_59 ?_
        refine lv_iload_n hx hb dX12_keep_62 rfl (lv_at hl 1 rfl) ?_
        refine lv_iload hx hb dX12_keep_63 (lv_at hl 4 rfl) ?_
        refine va_iast hx hb hK hP hD hS 3 0 rfl rfl g50 dX12_keep_65 (fun H locs hP hD hS => ?_)
        replace hP : va_P D vwCl (Wd59 cI aR q_hasImage q_place q_rowAt q_rowEnd q_seed q_thrown (upd q_kept x1.toNatClampNeg x2) (upd q_keptKind x1.toNatClampNeg x3) (upd q_keptFigure x1.toNatClampNeg x4)) H := hP
        replace hD : va_D A (Wd59 cI aR q_hasImage q_place q_rowAt q_rowEnd q_seed q_thrown (upd q_kept x1.toNatClampNeg x2) (upd q_keptKind x1.toNatClampNeg x3) (upd q_keptFigure x1.toNatClampNeg x4)) := hD
        refine lv_iconst (v := 0) hx hb dX12_keep_66 (by decide) ?_
        have h := Option.some.inj h; subst h
        exact hret _ _ _ _ hP hS dX12_keep_67
      refine lv_icmp_ne (tgt := 44) hx hb dX12_keep_18 (by decide) (fun c18 => ?_) (fun c18 => ?_)
      · have h := k_neg c18 h
        exact B44 q_kept q_keptKind q_keptFigure H locs ls hP hD hS hl h
      · have h := k_pos c18 h
        refine lv_iload_n hx hb dX12_keep_21 rfl (lv_at hl 3 rfl) ?_
        refine lv_iconst (v := 0) hx hb dX12_keep_22 (by decide) ?_
        refine lv_bipush (v := 7) hx hb dX12_keep_23 (by decide) ?_
        refine k_callS (As := [.int x3, .int 0, .int 7]) (rest := []) (st1 := [.int (S_MD_isIn x3 0 7)]) (ws2 := (Wd59 cI aR q_hasImage q_place q_rowAt q_rowEnd q_seed q_thrown q_kept q_keptKind q_keptFigure)) hx hb hml hown hts hK hN hA hP hD hS hl (c_MD_isIn l D cI cM cS cJ H.size x3 0 7 rfl) gX12_keep_X12_isIn rfl kdS_X12_isIn [] ⟨rfl, rfl⟩ ⟨Nat.le_of_ble_eq_true rfl, Nat.le_of_ble_eq_true rfl⟩ ⟨Nat.zero_le _, Nat.zero_le _⟩ rfl rfl (by decide +kernel) (k_rp rfl (by decide +kernel)) rfl rfl (Nat.le_of_ble_eq_true rfl) dX12_keep_25 rfl (fun H locs hP hD hS => ?_)
        refine lv_if_eq (tgt := 42) hx hb dX12_keep_28 (by decide) (fun c28 => ?_) (fun c28 => ?_)
        · have h := k_pos c28 h
          refine lv_iconst (v := (-1)) hx hb dX12_keep_42 (by decide) ?_
          have h := Option.some.inj h; subst h
          exact hret _ _ _ _ hP hS dX12_keep_43
        · have h := k_neg c28 h
          refine lv_iload hx hb dX12_keep_31 (lv_at hl 4 rfl) ?_
          refine lv_iconst (v := 0) hx hb dX12_keep_33 (by decide) ?_
          refine lv_bipush (v := 9) hx hb dX12_keep_34 (by decide) ?_
          refine k_callS (As := [.int x4, .int 0, .int 9]) (rest := []) (st1 := [.int (S_MD_isIn x4 0 9)]) (ws2 := (Wd59 cI aR q_hasImage q_place q_rowAt q_rowEnd q_seed q_thrown q_kept q_keptKind q_keptFigure)) hx hb hml hown hts hK hN hA hP hD hS hl (c_MD_isIn l D cI cM cS cJ H.size x4 0 9 rfl) gX12_keep_X12_isIn rfl kdS_X12_isIn [] ⟨rfl, rfl⟩ ⟨Nat.le_of_ble_eq_true rfl, Nat.le_of_ble_eq_true rfl⟩ ⟨Nat.zero_le _, Nat.zero_le _⟩ rfl rfl (by decide +kernel) (k_rp rfl (by decide +kernel)) rfl rfl (Nat.le_of_ble_eq_true rfl) dX12_keep_36 rfl (fun H locs hP hD hS => ?_)
          refine lv_if_ne (tgt := 44) hx hb dX12_keep_39 (by decide) (fun c39 => ?_) (fun c39 => ?_)
          · have h := k_neg c39 h
            exact B44 q_kept q_keptKind q_keptFigure H locs ls hP hD hS hl h
          · have h := k_pos c39 h
            refine lv_iconst (v := (-1)) hx hb dX12_keep_42 (by decide) ?_
            have h := Option.some.inj h; subst h
            exact hret _ _ _ _ hP hS dX12_keep_43
abbrev Wd60 (cI : ClassId) (aR : Nat → Nat) (q_hasImage : Int32) (q_place : Int32) (q_rowAt : Int32) (q_rowEnd : Int32) (q_seed : Int32) (q_thrown : Int32) (q_kept : Nat → Int32) (q_sort : Nat → Int32) (q_size : Nat → Int32) (q_element : Nat → Int32) : va_W := [((aR 0), .inr (12, [.ref (aR 1), .ref (aR 2), .ref (aR 3), .ref (aR 4), .int q_hasImage, .int q_place, .int q_rowAt, .int q_rowEnd, .ref (aR 5), .ref (aR 6), .int q_seed, .ref (aR 7), .ref (aR 8), .ref (aR 9), .ref (aR 10), .ref (aR 11), .ref (aR 12), .int q_thrown])), ((aR 7), .inl (cI, 8, .inl q_kept)), ((aR 10), .inl (cI, 8, .inl q_sort)), ((aR 11), .inl (cI, 8, .inl q_size)), ((aR 12), .inl (cI, 800, .inl q_element))]
abbrev rm_X12_row : Room := { frames := 2, cells := 0, slots := 0, locals := 42 }
set_option maxHeartbeats 4000000 in
set_option maxRecDepth 100000 in
theorem c_MD_row (l : Launch) (D : va_G) (cI cM cS cJ : ClassId) (aR : Nat → Nat) (sz : Nat) (x1 : Int32) (x2 : Int32) (x3 : Int32) (q_hasImage : Int32) (q_place : Int32) (q_rowAt : Int32) (q_rowEnd : Int32) (q_seed : Int32) (q_thrown : Int32) (q_kept : Nat → Int32) (q_sort : Nat → Int32) (q_size : Nat → Int32) (q_element : Nat → Int32) {o : (Int32) × (Nat → Int32) × (Nat → Int32) × (Nat → Int32) × (Nat → Int32)} (hsem : S_MD_row x1 x2 x3 q_kept q_sort q_size q_element = some o) : kMet l yX12_row wsX12_row rm_X12_row [.ref (aR 0), .int x1, .int x2, .int x3] D (kT cI cM cS cJ) (Wd60 cI aR q_hasImage q_place q_rowAt q_rowEnd q_seed q_thrown q_kept q_sort q_size q_element) sz (some (.int o.1)) (Wd60 cI aR q_hasImage q_place q_rowAt q_rowEnd q_seed q_thrown o.2.1 o.2.2.1 o.2.2.2.1 o.2.2.2.2) := by
  refine k_metI (by decide) rfl rfl (Nat.le_of_ble_eq_true rfl) ?_
  intro p e s m below meth c ls Q A hx hb hml hts hown hK hN hA hP hD hS hl hsz hnm hret
  have hown : s.vm.findClass RX12 = some m.cls := hown
  have hf28 := hts (.fieldLink RX12 28 "PlumbLineModel" "kept" "[I") (List.mem_of_getElem? (i := 1) rfl)
  have hf37 := hts (.fieldLink RX12 37 "PlumbLineModel" "sort" "[I") (List.mem_of_getElem? (i := 2) rfl)
  have hf40 := hts (.fieldLink RX12 40 "PlumbLineModel" "size" "[I") (List.mem_of_getElem? (i := 3) rfl)
  have hf43 := hts (.fieldLink RX12 43 "PlumbLineModel" "element" "[I") (List.mem_of_getElem? (i := 4) rfl)
  have hiX12 : ∀ w ∈ u_ws RX12 TX12 18, w ∈ wsX12_row := fun w h => List.mem_cons_of_mem _ (List.mem_append_right _ h)
  replace hl : lv_has ls 5 [(0, .ref (aR 0)), (1, .int x1), (2, .int x2), (3, .int x3)] := hl
  have h := hsem
  clear hsem
  rw [S_MD_row] at h
  refine lv_iload_n hx hb dX12_row_0 rfl (lv_at hl 1 rfl) ?_
  obtain ⟨r1, g1, h⟩ := k_bind h
  refine k_callS (As := [.int x1]) (rest := []) (st1 := [.int r1]) (ws2 := (Wd60 cI aR q_hasImage q_place q_rowAt q_rowEnd q_seed q_thrown q_kept q_sort q_size q_element)) hx hb hml hown hts hK hN hA hP hD hS hl (c_MD_isShelf l D cI cM cS cJ s.heap.size x1 g1) gX12_row_X12_isShelf rfl kdS_X12_isShelf [] ⟨rfl, rfl⟩ ⟨Nat.le_of_ble_eq_true rfl, Nat.le_of_ble_eq_true rfl⟩ ⟨Nat.zero_le _, Nat.zero_le _⟩ rfl rfl (by decide +kernel) (k_rp rfl (by decide +kernel)) rfl rfl (Nat.le_of_ble_eq_true rfl) dX12_row_1 rfl (fun H locs hP hD hS => ?_)
  refine lv_if_eq (tgt := 22) hx hb dX12_row_4 (by decide) (fun c4 => ?_) (fun c4 => ?_)
  · have h := k_pos c4 h
    refine lv_iconst (v := (-1)) hx hb dX12_row_22 (by decide) ?_
    have h := Option.some.inj h; subst h
    exact hret _ _ _ _ hP hS dX12_row_23
  · have h := k_neg c4 h
    refine lv_iload_n hx hb dX12_row_7 rfl (lv_at hl 2 rfl) ?_
    refine lv_iconst (v := 0) hx hb dX12_row_8 (by decide) ?_
    refine lv_iconst (v := 2) hx hb dX12_row_9 (by decide) ?_
    refine k_callS (As := [.int x2, .int 0, .int 2]) (rest := []) (st1 := [.int (S_MD_isIn x2 0 2)]) (ws2 := (Wd60 cI aR q_hasImage q_place q_rowAt q_rowEnd q_seed q_thrown q_kept q_sort q_size q_element)) hx hb hml hown hts hK hN hA hP hD hS hl (c_MD_isIn l D cI cM cS cJ H.size x2 0 2 rfl) gX12_row_X12_isIn rfl kdS_X12_isIn [] ⟨rfl, rfl⟩ ⟨Nat.le_of_ble_eq_true rfl, Nat.le_of_ble_eq_true rfl⟩ ⟨Nat.zero_le _, Nat.zero_le _⟩ rfl rfl (by decide +kernel) (k_rp rfl (by decide +kernel)) rfl rfl (Nat.le_of_ble_eq_true rfl) dX12_row_10 rfl (fun H locs hP hD hS => ?_)
    refine lv_if_eq (tgt := 22) hx hb dX12_row_13 (by decide) (fun c13 => ?_) (fun c13 => ?_)
    · have h := k_pos c13 h
      refine lv_iconst (v := (-1)) hx hb dX12_row_22 (by decide) ?_
      have h := Option.some.inj h; subst h
      exact hret _ _ _ _ hP hS dX12_row_23
    · have h := k_neg c13 h
      refine lv_iload_n hx hb dX12_row_16 rfl (lv_at hl 3 rfl) ?_
      refine lv_bipush (v := 100) hx hb dX12_row_17 (by decide) ?_
      refine lv_icmp_le (tgt := 24) hx hb dX12_row_19 (by decide) (fun c19 => ?_) (fun c19 => ?_)
      · have h := k_pos c19 h
        refine lv_iload_n hx hb dX12_row_24 rfl (lv_at hl 3 rfl) ?_
        refine lv_if_ge (tgt := 31) hx hb dX12_row_25 (by decide) (fun c25 => ?_) (fun c25 => ?_)
        · have h := k_pos c25 h
          refine lv_aload_n hx hb dX12_row_31 rfl (lv_at hl 0 rfl) ?_
          refine va_get (D := D) (ci := 12) (v := .ref (aR 7)) (C := RX12) (T := TX12) (N := 18) hx hb hts hiX12 hown hK hP 0 rfl rfl 11 (by decide) hf28 (fun _ z => z) rfl dX12_row_32 ?_
          refine lv_iload_n hx hb dX12_row_35 rfl (lv_at hl 1 rfl) ?_
          refine lv_iconst (v := 2) hx hb dX12_row_36 (by decide) ?_
          obtain ⟨g37, h⟩ := k_guard h
          refine va_iast hx hb hK hP hD hS 1 0 rfl rfl g37 dX12_row_37 (fun H locs hP hD hS => ?_)
          replace hP : va_P D vwCl (Wd60 cI aR q_hasImage q_place q_rowAt q_rowEnd q_seed q_thrown (upd q_kept x1.toNatClampNeg 2) q_sort q_size q_element) H := hP
          replace hD : va_D A (Wd60 cI aR q_hasImage q_place q_rowAt q_rowEnd q_seed q_thrown (upd q_kept x1.toNatClampNeg 2) q_sort q_size q_element) := hD
          refine lv_aload_n hx hb dX12_row_38 rfl (lv_at hl 0 rfl) ?_
          refine va_get (D := D) (ci := 12) (v := .ref (aR 10)) (C := RX12) (T := TX12) (N := 18) hx hb hts hiX12 hown hK hP 0 rfl rfl 14 (by decide) hf37 (fun _ z => z) rfl dX12_row_39 ?_
          refine lv_iload_n hx hb dX12_row_42 rfl (lv_at hl 1 rfl) ?_
          refine lv_iload_n hx hb dX12_row_43 rfl (lv_at hl 2 rfl) ?_
          refine va_iast hx hb hK hP hD hS 2 0 rfl rfl g37 dX12_row_44 (fun H locs hP hD hS => ?_)
          replace hP : va_P D vwCl (Wd60 cI aR q_hasImage q_place q_rowAt q_rowEnd q_seed q_thrown (upd q_kept x1.toNatClampNeg 2) (upd q_sort x1.toNatClampNeg x2) q_size q_element) H := hP
          replace hD : va_D A (Wd60 cI aR q_hasImage q_place q_rowAt q_rowEnd q_seed q_thrown (upd q_kept x1.toNatClampNeg 2) (upd q_sort x1.toNatClampNeg x2) q_size q_element) := hD
          refine lv_aload_n hx hb dX12_row_45 rfl (lv_at hl 0 rfl) ?_
          refine va_get (D := D) (ci := 12) (v := .ref (aR 11)) (C := RX12) (T := TX12) (N := 18) hx hb hts hiX12 hown hK hP 0 rfl rfl 15 (by decide) hf40 (fun _ z => z) rfl dX12_row_46 ?_
          refine lv_iload_n hx hb dX12_row_49 rfl (lv_at hl 1 rfl) ?_
          refine lv_iload_n hx hb dX12_row_50 rfl (lv_at hl 3 rfl) ?_
          refine va_iast hx hb hK hP hD hS 3 0 rfl rfl g37 dX12_row_51 (fun H locs hP hD hS => ?_)
          replace hP : va_P D vwCl (Wd60 cI aR q_hasImage q_place q_rowAt q_rowEnd q_seed q_thrown (upd q_kept x1.toNatClampNeg 2) (upd q_sort x1.toNatClampNeg x2) (upd q_size x1.toNatClampNeg x3) q_element) H := hP
          replace hD : va_D A (Wd60 cI aR q_hasImage q_place q_rowAt q_rowEnd q_seed q_thrown (upd q_kept x1.toNatClampNeg 2) (upd q_sort x1.toNatClampNeg x2) (upd q_size x1.toNatClampNeg x3) q_element) := hD
          refine lv_iconst (v := 0) hx hb dX12_row_52 (by decide) ?_
          have B55 : ∀ (q_kept : Nat → Int32) (q_sort : Nat → Int32) (q_size : Nat → Int32) (n55 : Nat) (y4 : Int32) (q_element : Nat → Int32) (H : Heap) (locs : List Loc) (ls : Array Slot), va_P D vwCl (Wd60 cI aR q_hasImage q_place q_rowAt q_rowEnd q_seed q_thrown q_kept q_sort q_size q_element) H → va_D A (Wd60 cI aR q_hasImage q_place q_rowAt q_rowEnd q_seed q_thrown q_kept q_sort q_size q_element) → va_S A s.heap H locs → lv_has ls 5 [(0, .ref (aR 0)), (1, .int x1), (4, .int y4)] → S_MD_row_L55 x1 q_kept q_sort q_size n55 y4 q_element = some o → W p l e rm_X12_row s m ([.ref (aR 0), .int x1, .int x2, .int x3] : List Value).toArray below meth c H locs 0 0 Q (F0 m 55 ls []) := by
            intro q_kept q_sort q_size
            intro n55
            induction n55 with
            | zero => intro y4 q_element H locs ls hP hD hS hl h; exact absurd h (by simp [S_MD_row_L55])
            | succ n55 ih55 =>
              intro y4 q_element H locs ls hP hD hS hl h
              rw [S_MD_row_L55] at h
              refine lv_iload hx hb dX12_row_55 (lv_at hl 2 rfl) ?_
              refine lv_bipush (v := 100) hx hb dX12_row_57 (by decide) ?_
              refine lv_icmp_ge (tgt := 81) hx hb dX12_row_59 (by decide) (fun c59 => ?_) (fun c59 => ?_)
              · have h := k_pos c59 h
                refine lv_iconst (v := 0) hx hb dX12_row_81 (by decide) ?_
                have h := Option.some.inj h; subst h
                exact hret _ _ _ _ hP hS dX12_row_82
              · have h := k_neg c59 h
                refine lv_aload_n hx hb dX12_row_62 rfl (lv_at hl 0 rfl) ?_
                refine va_get (D := D) (ci := 12) (v := .ref (aR 12)) (C := RX12) (T := TX12) (N := 18) hx hb hts hiX12 hown hK hP 0 rfl rfl 16 (by decide) hf43 (fun _ z => z) rfl dX12_row_63 ?_
                refine lv_bipush (v := 100) hx hb dX12_row_66 (by decide) ?_
                refine lv_iload_n hx hb dX12_row_68 rfl (lv_at hl 1 rfl) ?_
                refine lv_imul hx hb dX12_row_69 ?_
                refine lv_iload hx hb dX12_row_70 (lv_at hl 2 rfl) ?_
                refine lv_iadd hx hb dX12_row_72 ?_
                refine lv_iconst (v := 0) hx hb dX12_row_73 (by decide) ?_
                obtain ⟨g74, h⟩ := k_guard h
                refine va_iast hx hb hK hP hD hS 4 0 rfl rfl g74 dX12_row_74 (fun H locs hP hD hS => ?_)
                replace hP : va_P D vwCl (Wd60 cI aR q_hasImage q_place q_rowAt q_rowEnd q_seed q_thrown q_kept q_sort q_size (upd q_element (((100 : Int32) * x1) + y4).toNatClampNeg 0)) H := hP
                replace hD : va_D A (Wd60 cI aR q_hasImage q_place q_rowAt q_rowEnd q_seed q_thrown q_kept q_sort q_size (upd q_element (((100 : Int32) * x1) + y4).toNatClampNeg 0)) := hD
                refine lv_iinc (v := (y4 + 1)) (lv' := [(4, .int (y4 + 1)), (0, .ref (aR 0)), (1, .int x1)]) hx hb dX12_row_75 hl (k := 2) rfl (by first | rfl | decide) (by decide) rfl (fun ls hl => ?_)
                refine lv_goto (tgt := 55) hx hb dX12_row_78 (by decide) ?_
                exact ih55 (y4 + 1) (upd q_element (((100 : Int32) * x1) + y4).toNatClampNeg 0) H locs ls hP hD hS (lv_sub hl [1, 2, 0] rfl) h
          refine lv_istore (lv' := [(4, .int 0), (0, .ref (aR 0)), (1, .int x1), (2, .int x2), (3, .int x3)]) hx hb dX12_row_53 hl (by decide) rfl (fun ls hl => ?_)
          exact B55 (upd q_kept x1.toNatClampNeg 2) (upd q_sort x1.toNatClampNeg x2) (upd q_size x1.toNatClampNeg x3) lfu 0 q_element H locs ls hP hD hS (lv_sub hl [1, 2, 0] rfl) h
        · have h := k_neg c25 h
          refine lv_bipush (v := (-14)) hx hb dX12_row_28 (by decide) ?_
          have h := Option.some.inj h; subst h
          exact hret _ _ _ _ hP hS dX12_row_30
      · have h := k_neg c19 h
        refine lv_iconst (v := (-1)) hx hb dX12_row_22 (by decide) ?_
        have h := Option.some.inj h; subst h
        exact hret _ _ _ _ hP hS dX12_row_23
