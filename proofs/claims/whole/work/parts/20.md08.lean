abbrev rm_X12_straight : Room := { frames := 4, cells := 0, slots := 0, locals := 90 }
set_option maxHeartbeats 4000000 in
set_option maxRecDepth 100000 in
theorem c_MD_straight (l : Launch) (D : va_G) (cI cM cS cJ : ClassId) (aR : Nat → Nat) (sz : Nat) (x1 : Int32) (q_hasImage : Int32) (q_place : Int32) (q_rowAt : Int32) (q_rowEnd : Int32) (q_seed : Int32) (q_thrown : Int32) (q_s : Nat → Int32) (q_m : Nat → Int32) {o : (Int32) × (Nat → Int32)} (hsem : S_MD_straight x1 q_s q_m = some o) : kMet l yX12_straight wsX12_straight rm_X12_straight [.ref (aR 0), .int x1] D (kT cI cM cS cJ) (Wd49 cI aR q_hasImage q_place q_rowAt q_rowEnd q_seed q_thrown q_s q_m) sz (some (.int o.1)) (Wd49 cI aR q_hasImage q_place q_rowAt q_rowEnd q_seed q_thrown q_s o.2) := by
  refine k_metI (by decide) rfl rfl (Nat.le_of_ble_eq_true rfl) ?_
  intro p e s m below meth c ls Q A hx hb hml hts hown hK hN hA hP hD hS hl hsz hnm hret
  have hown : s.vm.findClass RX12 = some m.cls := hown
  have hf9 := hts (.fieldLink RX12 9 "PlumbLineModel" "s" "[I") (List.mem_of_getElem? (i := 1) rfl)
  have hf13 := hts (.fieldLink RX12 13 "PlumbLineModel" "m" "[I") (List.mem_of_getElem? (i := 2) rfl)
  have hiX12 : ∀ w ∈ u_ws RX12 TX12 18, w ∈ wsX12_straight := fun w h => List.mem_cons_of_mem _ (List.mem_append_right _ h)
  replace hl : lv_has ls 3 [(0, .ref (aR 0)), (1, .int x1)] := hl
  have h := hsem
  clear hsem
  rw [S_MD_straight] at h
  refine lv_aload_n hx hb dX12_straight_0 rfl (lv_at hl 0 rfl) ?_
  refine lv_iload_n hx hb dX12_straight_1 rfl (lv_at hl 1 rfl) ?_
  obtain ⟨r2, g2, h⟩ := k_bind h
  refine k_callV (As := [.int x1]) (rest := []) (st1 := [.int r2]) (ws2 := (Wd49 cI aR q_hasImage q_place q_rowAt q_rowEnd q_seed q_thrown q_s q_m)) hx hb hml hown hts hK hN hA hP hD hS hl (c_MD_isMan l D cI cM cS cJ aR s.heap.size x1 q_hasImage q_place q_rowAt q_rowEnd q_seed q_thrown q_s g2) gX12_straight_X12_isMan rfl kdV_X12_isMan 0 12 rfl rfl rfl [0, 1] ⟨rfl, rfl⟩ ⟨Nat.le_of_ble_eq_true rfl, Nat.le_of_ble_eq_true rfl⟩ ⟨Nat.zero_le _, Nat.zero_le _⟩ rfl rfl (by decide +kernel) (k_rp rfl (by decide +kernel)) rfl rfl (Nat.le_of_ble_eq_true rfl) dX12_straight_2 rfl (fun H locs hP hD hS => ?_)
  refine lv_if_ne (tgt := 10) hx hb dX12_straight_5 (by decide) (fun c5 => ?_) (fun c5 => ?_)
  · have h := k_neg c5 h
    refine lv_aload_n hx hb dX12_straight_10 rfl (lv_at hl 0 rfl) ?_
    refine va_get (D := D) (ci := 12) (v := .ref (aR 1)) (C := RX12) (T := TX12) (N := 18) hx hb hts hiX12 hown hK hP 0 rfl rfl 0 (by decide) hf9 (fun _ z => z) rfl dX12_straight_11 ?_
    refine lv_aload_n hx hb dX12_straight_14 rfl (lv_at hl 0 rfl) ?_
    refine va_get (D := D) (ci := 12) (v := .ref (aR 2)) (C := RX12) (T := TX12) (N := 18) hx hb hts hiX12 hown hK hP 0 rfl rfl 1 (by decide) hf13 (fun _ z => z) rfl dX12_straight_15 ?_
    obtain ⟨r18, g18, h⟩ := k_bind h
    refine k_callS (As := [.ref (aR 1), .ref (aR 2)]) (rest := []) (st1 := []) (ws2 := (Wd49 cI aR q_hasImage q_place q_rowAt q_rowEnd q_seed q_thrown q_s r18)) hx hb hml hown hts hK hN hA hP hD hS hl (c_MD_copies l D cI cM cS cJ (aR 1) (aR 2) H.size q_s q_m g18) gX12_straight_X12_copies rfl kdS_X12_copies [1, 2] ⟨rfl, rfl⟩ ⟨Nat.le_of_ble_eq_true rfl, Nat.le_of_ble_eq_true rfl⟩ ⟨Nat.zero_le _, Nat.zero_le _⟩ rfl rfl (by decide +kernel) (k_rp rfl (by decide +kernel)) rfl rfl (Nat.le_of_ble_eq_true rfl) dX12_straight_18 rfl (fun H locs hP hD hS => ?_)
    refine lv_iconst (v := 0) hx hb dX12_straight_21 (by decide) ?_
    have B23 : ∀ (n23 : Nat) (y2 : Int32) (q_m : Nat → Int32) (H : Heap) (locs : List Loc) (ls : Array Slot), va_P D vwCl (Wd49 cI aR q_hasImage q_place q_rowAt q_rowEnd q_seed q_thrown q_s q_m) H → va_D A (Wd49 cI aR q_hasImage q_place q_rowAt q_rowEnd q_seed q_thrown q_s q_m) → va_S A s.heap H locs → lv_has ls 3 [(0, .ref (aR 0)), (1, .int x1), (2, .int y2)] → S_MD_straight_L23 x1 n23 y2 q_m = some o → W p l e rm_X12_straight s m ([.ref (aR 0), .int x1] : List Value).toArray below meth c H locs 0 0 Q (F0 m 23 ls []) := by
      intro n23
      induction n23 with
      | zero => intro y2 q_m H locs ls hP hD hS hl h; exact absurd h (by simp [S_MD_straight_L23])
      | succ n23 ih23 =>
        intro y2 q_m H locs ls hP hD hS hl h
        rw [S_MD_straight_L23] at h
        refine lv_iload_n hx hb dX12_straight_23 rfl (lv_at hl 2 rfl) ?_
        refine lv_bipush (v := 60) hx hb dX12_straight_24 (by decide) ?_
        refine lv_icmp_gt (tgt := 57) hx hb dX12_straight_26 (by decide) (fun c26 => ?_) (fun c26 => ?_)
        · have h := k_pos c26 h
          refine lv_bipush (v := (-4)) hx hb dX12_straight_57 (by decide) ?_
          have h := Option.some.inj h; subst h
          exact hret _ _ _ _ hP hS dX12_straight_59
        · have h := k_neg c26 h
          refine lv_aload_n hx hb dX12_straight_29 rfl (lv_at hl 0 rfl) ?_
          refine va_get (D := D) (ci := 12) (v := .ref (aR 2)) (C := RX12) (T := TX12) (N := 18) hx hb hts hiX12 hown hK hP 0 rfl rfl 1 (by decide) hf13 (fun _ z => z) rfl dX12_straight_30 ?_
          refine lv_iload_n hx hb dX12_straight_33 rfl (lv_at hl 1 rfl) ?_
          refine lv_iconst (v := 2) hx hb dX12_straight_34 (by decide) ?_
          refine k_callS (As := [.int x1, .int 2]) (rest := [.ref (aR 2)]) (st1 := [.int (S_MD_of x1 2), .ref (aR 2)]) (ws2 := (Wd49 cI aR q_hasImage q_place q_rowAt q_rowEnd q_seed q_thrown q_s q_m)) hx hb hml hown hts hK hN hA hP hD hS hl (c_MD_of l D cI cM cS cJ H.size x1 2 rfl) gX12_straight_X12_of rfl kdS_X12_of [] ⟨rfl, rfl⟩ ⟨Nat.le_of_ble_eq_true rfl, Nat.le_of_ble_eq_true rfl⟩ ⟨Nat.zero_le _, Nat.zero_le _⟩ rfl rfl (by decide +kernel) (k_rp rfl (by decide +kernel)) rfl rfl (Nat.le_of_ble_eq_true rfl) dX12_straight_35 rfl (fun H locs hP hD hS => ?_)
          obtain ⟨g38, h⟩ := k_guard h
          refine va_iald hx hb hK hP 2 0 rfl rfl g38 dX12_straight_38 ?_
          refine lv_if_ne (tgt := 44) hx hb dX12_straight_39 (by decide) (fun c39 => ?_) (fun c39 => ?_)
          · have h := k_neg c39 h
            refine lv_aload_n hx hb dX12_straight_44 rfl (lv_at hl 0 rfl) ?_
            refine va_get (D := D) (ci := 12) (v := .ref (aR 2)) (C := RX12) (T := TX12) (N := 18) hx hb hts hiX12 hown hK hP 0 rfl rfl 1 (by decide) hf13 (fun _ z => z) rfl dX12_straight_45 ?_
            obtain ⟨r48, g48, h⟩ := k_bind h
            refine k_callS (As := [.ref (aR 2)]) (rest := []) (st1 := []) (ws2 := (Wd49 cI aR q_hasImage q_place q_rowAt q_rowEnd q_seed q_thrown q_s r48)) hx hb hml hown hts hK hN hA hP hD hS hl (c_MD_day l D cI cM cS cJ (aR 2) H.size q_m g48) gX12_straight_X12_day rfl kdS_X12_day [2] ⟨rfl, rfl⟩ ⟨Nat.le_of_ble_eq_true rfl, Nat.le_of_ble_eq_true rfl⟩ ⟨Nat.zero_le _, Nat.zero_le _⟩ rfl rfl (by decide +kernel) (k_rp rfl (by decide +kernel)) rfl rfl (Nat.le_of_ble_eq_true rfl) dX12_straight_48 rfl (fun H locs hP hD hS => ?_)
            refine lv_iinc (v := (y2 + 1)) (lv' := [(2, .int (y2 + 1)), (0, .ref (aR 0)), (1, .int x1)]) hx hb dX12_straight_51 hl (k := 2) rfl (by first | rfl | decide) (by decide) rfl (fun ls hl => ?_)
            refine lv_goto (tgt := 23) hx hb dX12_straight_54 (by decide) ?_
            exact ih23 (y2 + 1) r48 H locs ls hP hD hS (lv_sub hl [1, 2, 0] rfl) h
          · have h := k_pos c39 h
            refine lv_iload_n hx hb dX12_straight_42 rfl (lv_at hl 2 rfl) ?_
            have h := Option.some.inj h; subst h
            exact hret _ _ _ _ hP hS dX12_straight_43
    refine lv_istore_n (lv' := [(2, .int 0), (0, .ref (aR 0)), (1, .int x1)]) hx hb dX12_straight_22 rfl hl (by decide) rfl (fun ls hl => ?_)
    exact B23 lfu 0 r18 H locs ls hP hD hS (lv_sub hl [1, 2, 0] rfl) h
  · have h := k_pos c5 h
    refine lv_iconst (v := (-1)) hx hb dX12_straight_8 (by decide) ?_
    have h := Option.some.inj h; subst h
    exact hret _ _ _ _ hP hS dX12_straight_9
abbrev rm_X12_firstCrash : Room := { frames := 4, cells := 0, slots := 0, locals := 90 }
set_option maxHeartbeats 4000000 in
set_option maxRecDepth 100000 in
theorem c_MD_firstCrash (l : Launch) (D : va_G) (cI cM cS cJ : ClassId) (aR : Nat → Nat) (sz : Nat) (q_hasImage : Int32) (q_place : Int32) (q_rowAt : Int32) (q_rowEnd : Int32) (q_seed : Int32) (q_thrown : Int32) (q_s : Nat → Int32) (q_m : Nat → Int32) {o : (Int32) × (Nat → Int32)} (hsem : S_MD_firstCrash q_s q_m = some o) : kMet l yX12_firstCrash wsX12_firstCrash rm_X12_firstCrash [.ref (aR 0)] D (kT cI cM cS cJ) (Wd49 cI aR q_hasImage q_place q_rowAt q_rowEnd q_seed q_thrown q_s q_m) sz (some (.int o.1)) (Wd49 cI aR q_hasImage q_place q_rowAt q_rowEnd q_seed q_thrown q_s o.2) := by
  refine k_metI (by decide) rfl rfl (Nat.le_of_ble_eq_true rfl) ?_
  intro p e s m below meth c ls Q A hx hb hml hts hown hK hN hA hP hD hS hl hsz hnm hret
  have hown : s.vm.findClass RX12 = some m.cls := hown
  have hf9 := hts (.fieldLink RX12 9 "PlumbLineModel" "s" "[I") (List.mem_of_getElem? (i := 1) rfl)
  have hf13 := hts (.fieldLink RX12 13 "PlumbLineModel" "m" "[I") (List.mem_of_getElem? (i := 2) rfl)
  have hiX12 : ∀ w ∈ u_ws RX12 TX12 18, w ∈ wsX12_firstCrash := fun w h => List.mem_cons_of_mem _ (List.mem_append_right _ h)
  replace hl : lv_has ls 2 [(0, .ref (aR 0))] := hl
  have h := hsem
  clear hsem
  rw [S_MD_firstCrash] at h
  refine lv_aload_n hx hb dX12_firstCrash_0 rfl (lv_at hl 0 rfl) ?_
  refine va_get (D := D) (ci := 12) (v := .ref (aR 1)) (C := RX12) (T := TX12) (N := 18) hx hb hts hiX12 hown hK hP 0 rfl rfl 0 (by decide) hf9 (fun _ z => z) rfl dX12_firstCrash_1 ?_
  refine lv_aload_n hx hb dX12_firstCrash_4 rfl (lv_at hl 0 rfl) ?_
  refine va_get (D := D) (ci := 12) (v := .ref (aR 2)) (C := RX12) (T := TX12) (N := 18) hx hb hts hiX12 hown hK hP 0 rfl rfl 1 (by decide) hf13 (fun _ z => z) rfl dX12_firstCrash_5 ?_
  obtain ⟨r8, g8, h⟩ := k_bind h
  refine k_callS (As := [.ref (aR 1), .ref (aR 2)]) (rest := []) (st1 := []) (ws2 := (Wd49 cI aR q_hasImage q_place q_rowAt q_rowEnd q_seed q_thrown q_s r8)) hx hb hml hown hts hK hN hA hP hD hS hl (c_MD_copies l D cI cM cS cJ (aR 1) (aR 2) s.heap.size q_s q_m g8) gX12_firstCrash_X12_copies rfl kdS_X12_copies [1, 2] ⟨rfl, rfl⟩ ⟨Nat.le_of_ble_eq_true rfl, Nat.le_of_ble_eq_true rfl⟩ ⟨Nat.zero_le _, Nat.zero_le _⟩ rfl rfl (by decide +kernel) (k_rp rfl (by decide +kernel)) rfl rfl (Nat.le_of_ble_eq_true rfl) dX12_firstCrash_8 rfl (fun H locs hP hD hS => ?_)
  refine lv_aload_n hx hb dX12_firstCrash_11 rfl (lv_at hl 0 rfl) ?_
  refine va_get (D := D) (ci := 12) (v := .ref (aR 2)) (C := RX12) (T := TX12) (N := 18) hx hb hts hiX12 hown hK hP 0 rfl rfl 1 (by decide) hf13 (fun _ z => z) rfl dX12_firstCrash_12 ?_
  refine lv_iconst (v := 4) hx hb dX12_firstCrash_15 (by decide) ?_
  refine lv_iconst (v := 0) hx hb dX12_firstCrash_16 (by decide) ?_
  refine va_iast hx hb hK hP hD hS 2 0 rfl rfl (show ¬ ((4 : Int32) < 0 ∨ 37 ≤ (4 : Int32).toNatClampNeg) by decide) dX12_firstCrash_17 (fun H locs hP hD hS => ?_)
  replace hP : va_P D vwCl (Wd49 cI aR q_hasImage q_place q_rowAt q_rowEnd q_seed q_thrown q_s (upd r8 (4 : Int32).toNatClampNeg 0)) H := hP
  replace hD : va_D A (Wd49 cI aR q_hasImage q_place q_rowAt q_rowEnd q_seed q_thrown q_s (upd r8 (4 : Int32).toNatClampNeg 0)) := hD
  refine lv_iconst (v := 1) hx hb dX12_firstCrash_18 (by decide) ?_
  have B20 : ∀ (n20 : Nat) (y1 : Int32) (q_m : Nat → Int32) (H : Heap) (locs : List Loc) (ls : Array Slot), va_P D vwCl (Wd49 cI aR q_hasImage q_place q_rowAt q_rowEnd q_seed q_thrown q_s q_m) H → va_D A (Wd49 cI aR q_hasImage q_place q_rowAt q_rowEnd q_seed q_thrown q_s q_m) → va_S A s.heap H locs → lv_has ls 2 [(0, .ref (aR 0)), (1, .int y1)] → S_MD_firstCrash_L20 n20 y1 q_m = some o → W p l e rm_X12_firstCrash s m ([.ref (aR 0)] : List Value).toArray below meth c H locs 0 0 Q (F0 m 20 ls []) := by
    intro n20
    induction n20 with
    | zero => intro y1 q_m H locs ls hP hD hS hl h; exact absurd h (by simp [S_MD_firstCrash_L20])
    | succ n20 ih20 =>
      intro y1 q_m H locs ls hP hD hS hl h
      rw [S_MD_firstCrash_L20] at h
      refine lv_iload_n hx hb dX12_firstCrash_20 rfl (lv_at hl 1 rfl) ?_
      refine lv_bipush (v := 60) hx hb dX12_firstCrash_21 (by decide) ?_
      refine lv_icmp_gt (tgt := 50) hx hb dX12_firstCrash_23 (by decide) (fun c23 => ?_) (fun c23 => ?_)
      · have h := k_pos c23 h
        refine lv_bipush (v := (-4)) hx hb dX12_firstCrash_50 (by decide) ?_
        have h := Option.some.inj h; subst h
        exact hret _ _ _ _ hP hS dX12_firstCrash_52
      · have h := k_neg c23 h
        refine lv_aload_n hx hb dX12_firstCrash_26 rfl (lv_at hl 0 rfl) ?_
        refine va_get (D := D) (ci := 12) (v := .ref (aR 2)) (C := RX12) (T := TX12) (N := 18) hx hb hts hiX12 hown hK hP 0 rfl rfl 1 (by decide) hf13 (fun _ z => z) rfl dX12_firstCrash_27 ?_
        obtain ⟨r30, g30, h⟩ := k_bind h
        refine k_callS (As := [.ref (aR 2)]) (rest := []) (st1 := []) (ws2 := (Wd49 cI aR q_hasImage q_place q_rowAt q_rowEnd q_seed q_thrown q_s r30)) hx hb hml hown hts hK hN hA hP hD hS hl (c_MD_day l D cI cM cS cJ (aR 2) H.size q_m g30) gX12_firstCrash_X12_day rfl kdS_X12_day [2] ⟨rfl, rfl⟩ ⟨Nat.le_of_ble_eq_true rfl, Nat.le_of_ble_eq_true rfl⟩ ⟨Nat.zero_le _, Nat.zero_le _⟩ rfl rfl (by decide +kernel) (k_rp rfl (by decide +kernel)) rfl rfl (Nat.le_of_ble_eq_true rfl) dX12_firstCrash_30 rfl (fun H locs hP hD hS => ?_)
        refine lv_aload_n hx hb dX12_firstCrash_33 rfl (lv_at hl 0 rfl) ?_
        refine va_get (D := D) (ci := 12) (v := .ref (aR 2)) (C := RX12) (T := TX12) (N := 18) hx hb hts hiX12 hown hK hP 0 rfl rfl 1 (by decide) hf13 (fun _ z => z) rfl dX12_firstCrash_34 ?_
        refine lv_iconst (v := 4) hx hb dX12_firstCrash_37 (by decide) ?_
        refine va_iald hx hb hK hP 2 0 rfl rfl (show ¬ ((4 : Int32) < 0 ∨ 37 ≤ (4 : Int32).toNatClampNeg) by decide) dX12_firstCrash_38 ?_
        refine lv_if_le (tgt := 44) hx hb dX12_firstCrash_39 (by decide) (fun c39 => ?_) (fun c39 => ?_)
        · have h := k_pos c39 h
          refine lv_iinc (v := (y1 + 1)) (lv' := [(1, .int (y1 + 1)), (0, .ref (aR 0))]) hx hb dX12_firstCrash_44 hl (k := 1) rfl (by first | rfl | decide) (by decide) rfl (fun ls hl => ?_)
          refine lv_goto (tgt := 20) hx hb dX12_firstCrash_47 (by decide) ?_
          exact ih20 (y1 + 1) r30 H locs ls hP hD hS (lv_sub hl [1, 0] rfl) h
        · have h := k_neg c39 h
          refine lv_iload_n hx hb dX12_firstCrash_42 rfl (lv_at hl 1 rfl) ?_
          have h := Option.some.inj h; subst h
          exact hret _ _ _ _ hP hS dX12_firstCrash_43
  refine lv_istore_n (lv' := [(1, .int 1), (0, .ref (aR 0))]) hx hb dX12_firstCrash_19 rfl hl (by decide) rfl (fun ls hl => ?_)
  exact B20 lfu 1 (upd r8 (4 : Int32).toNatClampNeg 0) H locs ls hP hD hS (lv_sub hl [1, 0] rfl) h
abbrev Wd50 (cI : ClassId) (aR : Nat → Nat) (q_hasImage : Int32) (q_place : Int32) (q_rowAt : Int32) (q_rowEnd : Int32) (q_seed : Int32) (q_thrown : Int32) (q_m : Nat → Int32) (q_was : Nat → Int32) : va_W := [((aR 0), .inr (12, [.ref (aR 1), .ref (aR 2), .ref (aR 3), .ref (aR 4), .int q_hasImage, .int q_place, .int q_rowAt, .int q_rowEnd, .ref (aR 5), .ref (aR 6), .int q_seed, .ref (aR 7), .ref (aR 8), .ref (aR 9), .ref (aR 10), .ref (aR 11), .ref (aR 12), .int q_thrown])), ((aR 2), .inl (cI, 37, .inl q_m)), ((aR 4), .inl (cI, 37, .inl q_was))]
abbrev rm_X12_isMoved : Room := { frames := 4, cells := 0, slots := 0, locals := 90 }
set_option maxHeartbeats 4000000 in
set_option maxRecDepth 100000 in
theorem c_MD_isMoved (l : Launch) (D : va_G) (cI cM cS cJ : ClassId) (aR : Nat → Nat) (sz : Nat) (q_hasImage : Int32) (q_place : Int32) (q_rowAt : Int32) (q_rowEnd : Int32) (q_seed : Int32) (q_thrown : Int32) (q_m : Nat → Int32) (q_was : Nat → Int32) {o : (Int32) × (Nat → Int32) × (Nat → Int32)} (hsem : S_MD_isMoved q_m q_was = some o) : kMet l yX12_isMoved wsX12_isMoved rm_X12_isMoved [.ref (aR 0)] D (kT cI cM cS cJ) (Wd50 cI aR q_hasImage q_place q_rowAt q_rowEnd q_seed q_thrown q_m q_was) sz (some (.int o.1)) (Wd50 cI aR q_hasImage q_place q_rowAt q_rowEnd q_seed q_thrown o.2.1 o.2.2) := by
  refine k_metZ (by decide) rfl rfl (Nat.le_of_ble_eq_true rfl) ?_
  intro p e s m below meth c ls Q A hx hb hml hts hown hK hN hA hP hD hS hl hsz hnm hret
  have hown : s.vm.findClass RX12 = some m.cls := hown
  have hf13 := hts (.fieldLink RX12 13 "PlumbLineModel" "m" "[I") (List.mem_of_getElem? (i := 1) rfl)
  have hf19 := hts (.fieldLink RX12 19 "PlumbLineModel" "was" "[I") (List.mem_of_getElem? (i := 2) rfl)
  have hiX12 : ∀ w ∈ u_ws RX12 TX12 18, w ∈ wsX12_isMoved := fun w h => List.mem_cons_of_mem _ (List.mem_append_right _ h)
  replace hl : lv_has ls 3 [(0, .ref (aR 0))] := hl
  have h := hsem
  clear hsem
  rw [S_MD_isMoved] at h
  refine lv_iconst (v := 0) hx hb dX12_isMoved_0 (by decide) ?_
  refine lv_istore_n (lv' := [(1, .int 0), (0, .ref (aR 0))]) hx hb dX12_isMoved_1 rfl hl (by decide) rfl (fun ls hl => ?_)
  refine lv_aload_n hx hb dX12_isMoved_2 rfl (lv_at hl 1 rfl) ?_
  refine va_get (D := D) (ci := 12) (v := .ref (aR 2)) (C := RX12) (T := TX12) (N := 18) hx hb hts hiX12 hown hK hP 0 rfl rfl 1 (by decide) hf13 (fun _ z => z) rfl dX12_isMoved_3 ?_
  refine lv_aload_n hx hb dX12_isMoved_6 rfl (lv_at hl 1 rfl) ?_
  refine va_get (D := D) (ci := 12) (v := .ref (aR 4)) (C := RX12) (T := TX12) (N := 18) hx hb hts hiX12 hown hK hP 0 rfl rfl 3 (by decide) hf19 (fun _ z => z) rfl dX12_isMoved_7 ?_
  obtain ⟨r10, g10, h⟩ := k_bind h
  refine k_callS (As := [.ref (aR 2), .ref (aR 4)]) (rest := []) (st1 := []) (ws2 := (Wd50 cI aR q_hasImage q_place q_rowAt q_rowEnd q_seed q_thrown q_m r10)) hx hb hml hown hts hK hN hA hP hD hS hl (c_MD_copies l D cI cM cS cJ (aR 2) (aR 4) s.heap.size q_m q_was g10) gX12_isMoved_X12_copies rfl kdS_X12_copies [1, 2] ⟨rfl, rfl⟩ ⟨Nat.le_of_ble_eq_true rfl, Nat.le_of_ble_eq_true rfl⟩ ⟨Nat.zero_le _, Nat.zero_le _⟩ rfl rfl (by decide +kernel) (k_rp rfl (by decide +kernel)) rfl rfl (Nat.le_of_ble_eq_true rfl) dX12_isMoved_10 rfl (fun H locs hP hD hS => ?_)
  refine lv_aload_n hx hb dX12_isMoved_13 rfl (lv_at hl 1 rfl) ?_
  refine va_get (D := D) (ci := 12) (v := .ref (aR 2)) (C := RX12) (T := TX12) (N := 18) hx hb hts hiX12 hown hK hP 0 rfl rfl 1 (by decide) hf13 (fun _ z => z) rfl dX12_isMoved_14 ?_
  obtain ⟨r17, g17, h⟩ := k_bind h
  refine k_callS (As := [.ref (aR 2)]) (rest := []) (st1 := []) (ws2 := (Wd50 cI aR q_hasImage q_place q_rowAt q_rowEnd q_seed q_thrown r17 r10)) hx hb hml hown hts hK hN hA hP hD hS hl (c_MD_day l D cI cM cS cJ (aR 2) H.size q_m g17) gX12_isMoved_X12_day rfl kdS_X12_day [1] ⟨rfl, rfl⟩ ⟨Nat.le_of_ble_eq_true rfl, Nat.le_of_ble_eq_true rfl⟩ ⟨Nat.zero_le _, Nat.zero_le _⟩ rfl rfl (by decide +kernel) (k_rp rfl (by decide +kernel)) rfl rfl (Nat.le_of_ble_eq_true rfl) dX12_isMoved_17 rfl (fun H locs hP hD hS => ?_)
  refine lv_iconst (v := 0) hx hb dX12_isMoved_20 (by decide) ?_
  have B22 : ∀ (q_m : Nat → Int32) (q_was : Nat → Int32) (n22 : Nat) (y1 : Int32) (y2 : Int32) (H : Heap) (locs : List Loc) (ls : Array Slot), va_P D vwCl (Wd50 cI aR q_hasImage q_place q_rowAt q_rowEnd q_seed q_thrown q_m q_was) H → va_D A (Wd50 cI aR q_hasImage q_place q_rowAt q_rowEnd q_seed q_thrown q_m q_was) → va_S A s.heap H locs → lv_has ls 3 [(0, .ref (aR 0)), (1, .int y1), (2, .int y2)] → S_MD_isMoved_L22 q_m q_was n22 y1 y2 = some o → W p l e rm_X12_isMoved s m ([.ref (aR 0)] : List Value).toArray below meth c H locs 0 0 Q (F0 m 22 ls []) := by
    intro q_m q_was
    intro n22
    induction n22 with
    | zero => intro y1 y2 H locs ls hP hD hS hl h; exact absurd h (by simp [S_MD_isMoved_L22])
    | succ n22 ih22 =>
      intro y1 y2 H locs ls hP hD hS hl h
      rw [S_MD_isMoved_L22] at h
      refine lv_iload_n hx hb dX12_isMoved_22 rfl (lv_at hl 2 rfl) ?_
      refine lv_aload_n hx hb dX12_isMoved_23 rfl (lv_at hl 0 rfl) ?_
      refine va_get (D := D) (ci := 12) (v := .ref (aR 2)) (C := RX12) (T := TX12) (N := 18) hx hb hts hiX12 hown hK hP 0 rfl rfl 1 (by decide) hf13 (fun _ z => z) rfl dX12_isMoved_24 ?_
      refine lv_iconst (v := 0) hx hb dX12_isMoved_27 (by decide) ?_
      refine va_iald hx hb hK hP 1 0 rfl rfl (show ¬ ((0 : Int32) < 0 ∨ 37 ≤ (0 : Int32).toNatClampNeg) by decide) dX12_isMoved_28 ?_
      refine lv_icmp_ge (tgt := 69) hx hb dX12_isMoved_29 (by decide) (fun c29 => ?_) (fun c29 => ?_)
      · have h := k_pos c29 h
        refine lv_iload_n hx hb dX12_isMoved_69 rfl (lv_at hl 1 rfl) ?_
        obtain ⟨g70, h⟩ := k_guard h
        have h := Option.some.inj h; subst h
        exact hret _ _ _ _ (k_z01 g70) hP hS dX12_isMoved_70
      · have h := k_neg c29 h
        refine lv_iload_n hx hb dX12_isMoved_32 rfl (lv_at hl 1 rfl) ?_
        refine lv_aload_n hx hb dX12_isMoved_33 rfl (lv_at hl 0 rfl) ?_
        refine va_get (D := D) (ci := 12) (v := .ref (aR 2)) (C := RX12) (T := TX12) (N := 18) hx hb hts hiX12 hown hK hP 0 rfl rfl 1 (by decide) hf13 (fun _ z => z) rfl dX12_isMoved_34 ?_
        refine lv_iload_n hx hb dX12_isMoved_37 rfl (lv_at hl 2 rfl) ?_
        refine lv_iconst (v := 2) hx hb dX12_isMoved_38 (by decide) ?_
        refine k_callS (As := [.int y2, .int 2]) (rest := [.ref (aR 2), .int y1]) (st1 := [.int (S_MD_of y2 2), .ref (aR 2), .int y1]) (ws2 := (Wd50 cI aR q_hasImage q_place q_rowAt q_rowEnd q_seed q_thrown q_m q_was)) hx hb hml hown hts hK hN hA hP hD hS hl (c_MD_of l D cI cM cS cJ H.size y2 2 rfl) gX12_isMoved_X12_of rfl kdS_X12_of [] ⟨rfl, rfl⟩ ⟨Nat.le_of_ble_eq_true rfl, Nat.le_of_ble_eq_true rfl⟩ ⟨Nat.zero_le _, Nat.zero_le _⟩ rfl rfl (by decide +kernel) (k_rp rfl (by decide +kernel)) rfl rfl (Nat.le_of_ble_eq_true rfl) dX12_isMoved_39 rfl (fun H locs hP hD hS => ?_)
        obtain ⟨g42, h⟩ := k_guard h
        refine va_iald hx hb hK hP 1 0 rfl rfl g42 dX12_isMoved_42 ?_
        refine lv_aload_n hx hb dX12_isMoved_43 rfl (lv_at hl 0 rfl) ?_
        refine va_get (D := D) (ci := 12) (v := .ref (aR 4)) (C := RX12) (T := TX12) (N := 18) hx hb hts hiX12 hown hK hP 0 rfl rfl 3 (by decide) hf19 (fun _ z => z) rfl dX12_isMoved_44 ?_
        refine lv_iload_n hx hb dX12_isMoved_47 rfl (lv_at hl 2 rfl) ?_
        refine lv_iconst (v := 2) hx hb dX12_isMoved_48 (by decide) ?_
        refine k_callS (As := [.int y2, .int 2]) (rest := [.ref (aR 4), .int (q_m (S_MD_of y2 2).toNatClampNeg), .int y1]) (st1 := [.int (S_MD_of y2 2), .ref (aR 4), .int (q_m (S_MD_of y2 2).toNatClampNeg), .int y1]) (ws2 := (Wd50 cI aR q_hasImage q_place q_rowAt q_rowEnd q_seed q_thrown q_m q_was)) hx hb hml hown hts hK hN hA hP hD hS hl (c_MD_of l D cI cM cS cJ H.size y2 2 rfl) gX12_isMoved_X12_of rfl kdS_X12_of [] ⟨rfl, rfl⟩ ⟨Nat.le_of_ble_eq_true rfl, Nat.le_of_ble_eq_true rfl⟩ ⟨Nat.zero_le _, Nat.zero_le _⟩ rfl rfl (by decide +kernel) (k_rp rfl (by decide +kernel)) rfl rfl (Nat.le_of_ble_eq_true rfl) dX12_isMoved_49 rfl (fun H locs hP hD hS => ?_)
        refine va_iald hx hb hK hP 2 0 rfl rfl g42 dX12_isMoved_52 ?_
        refine lv_icmp_eq (tgt := 60) hx hb dX12_isMoved_53 (by decide) (fun c53 => ?_) (fun c53 => ?_)
        · have h := k_pos c53 h
          refine lv_iconst (v := 0) hx hb dX12_isMoved_60 (by decide) ?_
          refine lv_ior hx hb dX12_isMoved_61 ?_
          refine lv_istore_n (lv' := [(1, .int (y1 ||| 0)), (0, .ref (aR 0)), (2, .int y2)]) hx hb dX12_isMoved_62 rfl hl (by decide) rfl (fun ls hl => ?_)
          refine lv_iinc (v := (y2 + 1)) (lv' := [(2, .int (y2 + 1)), (1, .int (y1 ||| 0)), (0, .ref (aR 0))]) hx hb dX12_isMoved_63 hl (k := 2) rfl (by first | rfl | decide) (by decide) rfl (fun ls hl => ?_)
          refine lv_goto (tgt := 22) hx hb dX12_isMoved_66 (by decide) ?_
          exact ih22 (y1 ||| 0) (y2 + 1) H locs ls hP hD hS (lv_sub hl [2, 1, 0] rfl) h
        · have h := k_neg c53 h
          refine lv_iconst (v := 1) hx hb dX12_isMoved_56 (by decide) ?_
          refine lv_goto (tgt := 61) hx hb dX12_isMoved_57 (by decide) ?_
          refine lv_ior hx hb dX12_isMoved_61 ?_
          refine lv_istore_n (lv' := [(1, .int (y1 ||| 1)), (0, .ref (aR 0)), (2, .int y2)]) hx hb dX12_isMoved_62 rfl hl (by decide) rfl (fun ls hl => ?_)
          refine lv_iinc (v := (y2 + 1)) (lv' := [(2, .int (y2 + 1)), (1, .int (y1 ||| 1)), (0, .ref (aR 0))]) hx hb dX12_isMoved_63 hl (k := 2) rfl (by first | rfl | decide) (by decide) rfl (fun ls hl => ?_)
          refine lv_goto (tgt := 22) hx hb dX12_isMoved_66 (by decide) ?_
          exact ih22 (y1 ||| 1) (y2 + 1) H locs ls hP hD hS (lv_sub hl [2, 1, 0] rfl) h
  refine lv_istore_n (lv' := [(2, .int 0), (1, .int 0), (0, .ref (aR 0))]) hx hb dX12_isMoved_21 rfl hl (by decide) rfl (fun ls hl => ?_)
  exact B22 r17 r10 lfu 0 0 H locs ls hP hD hS (lv_sub hl [2, 1, 0] rfl) h
abbrev Wd51 (cI : ClassId) (aR : Nat → Nat) (q_hasImage : Int32) (q_place : Int32) (q_rowAt : Int32) (q_rowEnd : Int32) (q_seed : Int32) (q_thrown : Int32) (q_s : Nat → Int32) (q_m : Nat → Int32) (q_was : Nat → Int32) : va_W := [((aR 0), .inr (12, [.ref (aR 1), .ref (aR 2), .ref (aR 3), .ref (aR 4), .int q_hasImage, .int q_place, .int q_rowAt, .int q_rowEnd, .ref (aR 5), .ref (aR 6), .int q_seed, .ref (aR 7), .ref (aR 8), .ref (aR 9), .ref (aR 10), .ref (aR 11), .ref (aR 12), .int q_thrown])), ((aR 1), .inl (cI, 37, .inl q_s)), ((aR 2), .inl (cI, 37, .inl q_m)), ((aR 4), .inl (cI, 37, .inl q_was))]
theorem kdV_X12_isMoved : yX12_isMoved.cls = RX12 ∧ yX12_isMoved.cls ≠ "java/lang/invoke/MethodHandle" ∧ yX12_isMoved.cls ≠ "java/lang/invoke/VarHandle" ∧ (parseMethodDescriptor yX12_isMoved.desc).map (fun d => d.parameters.length) = some 0 := by decide +kernel
abbrev rm_X12_still : Room := { frames := 5, cells := 0, slots := 0, locals := 112 }
set_option maxHeartbeats 4000000 in
set_option maxRecDepth 100000 in
theorem c_MD_still (l : Launch) (D : va_G) (cI cM cS cJ : ClassId) (aR : Nat → Nat) (sz : Nat) (q_hasImage : Int32) (q_place : Int32) (q_rowAt : Int32) (q_rowEnd : Int32) (q_seed : Int32) (q_thrown : Int32) (q_s : Nat → Int32) (q_m : Nat → Int32) (q_was : Nat → Int32) {o : (Int32) × (Nat → Int32) × (Nat → Int32)} (hsem : S_MD_still q_s q_m q_was = some o) : kMet l yX12_still wsX12_still rm_X12_still [.ref (aR 0)] D (kT cI cM cS cJ) (Wd51 cI aR q_hasImage q_place q_rowAt q_rowEnd q_seed q_thrown q_s q_m q_was) sz (some (.int o.1)) (Wd51 cI aR q_hasImage q_place q_rowAt q_rowEnd q_seed q_thrown q_s o.2.1 o.2.2) := by
  refine k_metI (by decide) rfl rfl (Nat.le_of_ble_eq_true rfl) ?_
  intro p e s m below meth c ls Q A hx hb hml hts hown hK hN hA hP hD hS hl hsz hnm hret
  have hown : s.vm.findClass RX12 = some m.cls := hown
  have hf9 := hts (.fieldLink RX12 9 "PlumbLineModel" "s" "[I") (List.mem_of_getElem? (i := 1) rfl)
  have hf13 := hts (.fieldLink RX12 13 "PlumbLineModel" "m" "[I") (List.mem_of_getElem? (i := 2) rfl)
  have hiX12 : ∀ w ∈ u_ws RX12 TX12 18, w ∈ wsX12_still := fun w h => List.mem_cons_of_mem _ (List.mem_append_right _ h)
  replace hl : lv_has ls 3 [(0, .ref (aR 0))] := hl
  have h := hsem
  clear hsem
  rw [S_MD_still] at h
  refine lv_aload_n hx hb dX12_still_0 rfl (lv_at hl 0 rfl) ?_
  refine va_get (D := D) (ci := 12) (v := .ref (aR 1)) (C := RX12) (T := TX12) (N := 18) hx hb hts hiX12 hown hK hP 0 rfl rfl 0 (by decide) hf9 (fun _ z => z) rfl dX12_still_1 ?_
  refine lv_aload_n hx hb dX12_still_4 rfl (lv_at hl 0 rfl) ?_
  refine va_get (D := D) (ci := 12) (v := .ref (aR 2)) (C := RX12) (T := TX12) (N := 18) hx hb hts hiX12 hown hK hP 0 rfl rfl 1 (by decide) hf13 (fun _ z => z) rfl dX12_still_5 ?_
  obtain ⟨r8, g8, h⟩ := k_bind h
  refine k_callS (As := [.ref (aR 1), .ref (aR 2)]) (rest := []) (st1 := []) (ws2 := (Wd51 cI aR q_hasImage q_place q_rowAt q_rowEnd q_seed q_thrown q_s r8 q_was)) hx hb hml hown hts hK hN hA hP hD hS hl (c_MD_copies l D cI cM cS cJ (aR 1) (aR 2) s.heap.size q_s q_m g8) gX12_still_X12_copies rfl kdS_X12_copies [1, 2] ⟨rfl, rfl⟩ ⟨Nat.le_of_ble_eq_true rfl, Nat.le_of_ble_eq_true rfl⟩ ⟨Nat.zero_le _, Nat.zero_le _⟩ rfl rfl (by decide +kernel) (k_rp rfl (by decide +kernel)) rfl rfl (Nat.le_of_ble_eq_true rfl) dX12_still_8 rfl (fun H locs hP hD hS => ?_)
  refine lv_iconst (v := 0) hx hb dX12_still_11 (by decide) ?_
  refine lv_istore_n (lv' := [(1, .int 0), (0, .ref (aR 0))]) hx hb dX12_still_12 rfl hl (by decide) rfl (fun ls hl => ?_)
  refine lv_iconst (v := 0) hx hb dX12_still_13 (by decide) ?_
  have B15 : ∀ (n15 : Nat) (y1 : Int32) (y2 : Int32) (q_m : Nat → Int32) (q_was : Nat → Int32) (H : Heap) (locs : List Loc) (ls : Array Slot), va_P D vwCl (Wd51 cI aR q_hasImage q_place q_rowAt q_rowEnd q_seed q_thrown q_s q_m q_was) H → va_D A (Wd51 cI aR q_hasImage q_place q_rowAt q_rowEnd q_seed q_thrown q_s q_m q_was) → va_S A s.heap H locs → lv_has ls 3 [(0, .ref (aR 0)), (1, .int y1), (2, .int y2)] → S_MD_still_L15 n15 y1 y2 q_m q_was = some o → W p l e rm_X12_still s m ([.ref (aR 0)] : List Value).toArray below meth c H locs 0 0 Q (F0 m 15 ls []) := by
    intro n15
    induction n15 with
    | zero => intro y1 y2 q_m q_was H locs ls hP hD hS hl h; exact absurd h (by simp [S_MD_still_L15])
    | succ n15 ih15 =>
      intro y1 y2 q_m q_was H locs ls hP hD hS hl h
      rw [S_MD_still_L15] at h
      refine lv_iload_n hx hb dX12_still_15 rfl (lv_at hl 2 rfl) ?_
      refine lv_bipush (v := 60) hx hb dX12_still_16 (by decide) ?_
      refine lv_icmp_ge (tgt := 53) hx hb dX12_still_18 (by decide) (fun c18 => ?_) (fun c18 => ?_)
      · have h := k_pos c18 h
        refine lv_bipush (v := (-4)) hx hb dX12_still_53 (by decide) ?_
        have h := Option.some.inj h; subst h
        exact hret _ _ _ _ hP hS dX12_still_55
      · have h := k_neg c18 h
        refine lv_aload_n hx hb dX12_still_21 rfl (lv_at hl 0 rfl) ?_
        obtain ⟨r22, g22, h⟩ := k_bind h
        refine k_callV (As := []) (rest := []) (st1 := [.int r22.1]) (ws2 := (Wd51 cI aR q_hasImage q_place q_rowAt q_rowEnd q_seed q_thrown q_s r22.2.1 r22.2.2)) hx hb hml hown hts hK hN hA hP hD hS hl (c_MD_isMoved l D cI cM cS cJ aR H.size q_hasImage q_place q_rowAt q_rowEnd q_seed q_thrown q_m q_was g22) gX12_still_X12_isMoved rfl kdV_X12_isMoved 0 12 rfl rfl rfl [0, 2, 3] ⟨rfl, rfl⟩ ⟨Nat.le_of_ble_eq_true rfl, Nat.le_of_ble_eq_true rfl⟩ ⟨Nat.zero_le _, Nat.zero_le _⟩ rfl rfl (by decide +kernel) (k_rp rfl (by decide +kernel)) rfl rfl (Nat.le_of_ble_eq_true rfl) dX12_still_22 rfl (fun H locs hP hD hS => ?_)
        refine lv_if_eq (tgt := 32) hx hb dX12_still_25 (by decide) (fun c25 => ?_) (fun c25 => ?_)
        · have h := k_pos c25 h
          refine lv_iload_n hx hb dX12_still_32 rfl (lv_at hl 1 rfl) ?_
          refine lv_iconst (v := 1) hx hb dX12_still_33 (by decide) ?_
          refine lv_iadd hx hb dX12_still_34 ?_
          refine lv_istore_n (lv' := [(1, .int (y1 + 1)), (0, .ref (aR 0)), (2, .int y2)]) hx hb dX12_still_35 rfl hl (by decide) rfl (fun ls hl => ?_)
          refine lv_iload_n hx hb dX12_still_36 rfl (lv_at hl 0 rfl) ?_
          refine lv_bipush (v := 10) hx hb dX12_still_37 (by decide) ?_
          refine lv_icmp_ne (tgt := 47) hx hb dX12_still_39 (by decide) (fun c39 => ?_) (fun c39 => ?_)
          · have h := k_neg c39 h
            refine lv_iinc (v := (y2 + 1)) (lv' := [(2, .int (y2 + 1)), (1, .int (y1 + 1)), (0, .ref (aR 0))]) hx hb dX12_still_47 hl (k := 2) rfl (by first | rfl | decide) (by decide) rfl (fun ls hl => ?_)
            refine lv_goto (tgt := 15) hx hb dX12_still_50 (by decide) ?_
            exact ih15 (y1 + 1) (y2 + 1) r22.2.1 r22.2.2 H locs ls hP hD hS (lv_sub hl [2, 1, 0] rfl) h
          · have h := k_pos c39 h
            refine lv_iload_n hx hb dX12_still_42 rfl (lv_at hl 2 rfl) ?_
            refine lv_bipush (v := 9) hx hb dX12_still_43 (by decide) ?_
            refine lv_isub hx hb dX12_still_45 ?_
            have h := Option.some.inj h; subst h
            exact hret _ _ _ _ hP hS dX12_still_46
        · have h := k_neg c25 h
          refine lv_iconst (v := 0) hx hb dX12_still_28 (by decide) ?_
          refine lv_goto (tgt := 35) hx hb dX12_still_29 (by decide) ?_
          refine lv_istore_n (lv' := [(1, .int 0), (0, .ref (aR 0)), (2, .int y2)]) hx hb dX12_still_35 rfl hl (by decide) rfl (fun ls hl => ?_)
          refine lv_iload_n hx hb dX12_still_36 rfl (lv_at hl 0 rfl) ?_
          refine lv_bipush (v := 10) hx hb dX12_still_37 (by decide) ?_
          refine lv_icmp_ne (tgt := 47) hx hb dX12_still_39 (by decide) (fun _ => ?_) (fun z => absurd z (by decide))
          refine lv_iinc (v := (y2 + 1)) (lv' := [(2, .int (y2 + 1)), (1, .int 0), (0, .ref (aR 0))]) hx hb dX12_still_47 hl (k := 2) rfl (by first | rfl | decide) (by decide) rfl (fun ls hl => ?_)
          refine lv_goto (tgt := 15) hx hb dX12_still_50 (by decide) ?_
          exact ih15 0 (y2 + 1) r22.2.1 r22.2.2 H locs ls hP hD hS (lv_sub hl [2, 1, 0] rfl) h
  refine lv_istore_n (lv' := [(2, .int 0), (1, .int 0), (0, .ref (aR 0))]) hx hb dX12_still_14 rfl hl (by decide) rfl (fun ls hl => ?_)
  exact B15 lfu 0 0 r8 q_was H locs ls hP hD hS (lv_sub hl [2, 1, 0] rfl) h
theorem kdV_X12_still : yX12_still.cls = RX12 ∧ yX12_still.cls ≠ "java/lang/invoke/MethodHandle" ∧ yX12_still.cls ≠ "java/lang/invoke/VarHandle" ∧ (parseMethodDescriptor yX12_still.desc).map (fun d => d.parameters.length) = some 0 := by decide +kernel
theorem kdV_X12_firstCrash : yX12_firstCrash.cls = RX12 ∧ yX12_firstCrash.cls ≠ "java/lang/invoke/MethodHandle" ∧ yX12_firstCrash.cls ≠ "java/lang/invoke/VarHandle" ∧ (parseMethodDescriptor yX12_firstCrash.desc).map (fun d => d.parameters.length) = some 0 := by decide +kernel
abbrev rm_X12_crash : Room := { frames := 6, cells := 0, slots := 0, locals := 134 }
set_option maxHeartbeats 4000000 in
set_option maxRecDepth 100000 in
theorem c_MD_crash (l : Launch) (D : va_G) (cI cM cS cJ : ClassId) (aR : Nat → Nat) (sz : Nat) (x1 : Int32) (q_hasImage : Int32) (q_place : Int32) (q_rowAt : Int32) (q_rowEnd : Int32) (q_seed : Int32) (q_thrown : Int32) (q_s : Nat → Int32) (q_m : Nat → Int32) (q_was : Nat → Int32) {o : (Int32) × (Nat → Int32) × (Nat → Int32)} (hsem : S_MD_crash x1 q_s q_m q_was = some o) : kMet l yX12_crash wsX12_crash rm_X12_crash [.ref (aR 0), .int x1] D (kT cI cM cS cJ) (Wd51 cI aR q_hasImage q_place q_rowAt q_rowEnd q_seed q_thrown q_s q_m q_was) sz (some (.int o.1)) (Wd51 cI aR q_hasImage q_place q_rowAt q_rowEnd q_seed q_thrown q_s o.2.1 o.2.2) := by
  refine k_metI (by decide) rfl rfl (Nat.le_of_ble_eq_true rfl) ?_
  intro p e s m below meth c ls Q A hx hb hml hts hown hK hN hA hP hD hS hl hsz hnm hret
  have hown : s.vm.findClass RX12 = some m.cls := hown
  replace hl : lv_has ls 2 [(0, .ref (aR 0)), (1, .int x1)] := hl
  have h := hsem
  clear hsem
  rw [S_MD_crash] at h
  refine lv_iload_n hx hb dX12_crash_0 rfl (lv_at hl 1 rfl) ?_
  refine lv_if_ne (tgt := 11) hx hb dX12_crash_1 (by decide) (fun c1 => ?_) (fun c1 => ?_)
  · have h := k_neg c1 h
    refine lv_iload_n hx hb dX12_crash_11 rfl (lv_at hl 1 rfl) ?_
    refine lv_iconst (v := 1) hx hb dX12_crash_12 (by decide) ?_
    refine lv_icmp_ne (tgt := 23) hx hb dX12_crash_13 (by decide) (fun c13 => ?_) (fun c13 => ?_)
    · have h := k_neg c13 h
      refine lv_iconst (v := (-1)) hx hb dX12_crash_23 (by decide) ?_
      have h := Option.some.inj h; subst h
      exact hret _ _ _ _ hP hS dX12_crash_24
    · have h := k_pos c13 h
      refine lv_aload_n hx hb dX12_crash_16 rfl (lv_at hl 0 rfl) ?_
      obtain ⟨r17, g17, h⟩ := k_bind h
      refine k_callV (As := []) (rest := []) (st1 := [.int r17.1]) (ws2 := (Wd51 cI aR q_hasImage q_place q_rowAt q_rowEnd q_seed q_thrown q_s r17.2.1 r17.2.2)) hx hb hml hown hts hK hN hA hP hD hS hl (c_MD_still l D cI cM cS cJ aR s.heap.size q_hasImage q_place q_rowAt q_rowEnd q_seed q_thrown q_s q_m q_was g17) gX12_crash_X12_still rfl kdV_X12_still 0 12 rfl rfl rfl [0, 1, 2, 3] ⟨rfl, rfl⟩ ⟨Nat.le_of_ble_eq_true rfl, Nat.le_of_ble_eq_true rfl⟩ ⟨Nat.zero_le _, Nat.zero_le _⟩ rfl rfl (by decide +kernel) (k_rp rfl (by decide +kernel)) rfl rfl (Nat.le_of_ble_eq_true rfl) dX12_crash_17 rfl (fun H locs hP hD hS => ?_)
      refine lv_goto (tgt := 24) hx hb dX12_crash_20 (by decide) ?_
      have h := Option.some.inj h; subst h
      exact hret _ _ _ _ hP hS dX12_crash_24
  · have h := k_pos c1 h
    refine lv_aload_n hx hb dX12_crash_4 rfl (lv_at hl 0 rfl) ?_
    obtain ⟨r5, g5, h⟩ := k_bind h
    refine k_callV (As := []) (rest := []) (st1 := [.int r5.1]) (ws2 := (Wd51 cI aR q_hasImage q_place q_rowAt q_rowEnd q_seed q_thrown q_s r5.2 q_was)) hx hb hml hown hts hK hN hA hP hD hS hl (c_MD_firstCrash l D cI cM cS cJ aR s.heap.size q_hasImage q_place q_rowAt q_rowEnd q_seed q_thrown q_s q_m g5) gX12_crash_X12_firstCrash rfl kdV_X12_firstCrash 0 12 rfl rfl rfl [0, 1, 2] ⟨rfl, rfl⟩ ⟨Nat.le_of_ble_eq_true rfl, Nat.le_of_ble_eq_true rfl⟩ ⟨Nat.zero_le _, Nat.zero_le _⟩ rfl rfl (by decide +kernel) (k_rp rfl (by decide +kernel)) rfl rfl (Nat.le_of_ble_eq_true rfl) dX12_crash_5 rfl (fun H locs hP hD hS => ?_)
    refine lv_goto (tgt := 24) hx hb dX12_crash_8 (by decide) ?_
    have h := Option.some.inj h; subst h
    exact hret _ _ _ _ hP hS dX12_crash_24
abbrev rm_X12_finds : Room := { frames := 4, cells := 0, slots := 0, locals := 90 }
set_option maxHeartbeats 4000000 in
set_option maxRecDepth 100000 in
theorem c_MD_finds (l : Launch) (D : va_G) (cI cM cS cJ : ClassId) (aR : Nat → Nat) (sz : Nat) (x1 : Int32) (q_hasImage : Int32) (q_place : Int32) (q_rowAt : Int32) (q_rowEnd : Int32) (q_seed : Int32) (q_thrown : Int32) (q_s : Nat → Int32) (q_m : Nat → Int32) {o : (Int32) × (Nat → Int32)} (hsem : S_MD_finds x1 q_s q_m = some o) : kMet l yX12_finds wsX12_finds rm_X12_finds [.ref (aR 0), .int x1] D (kT cI cM cS cJ) (Wd49 cI aR q_hasImage q_place q_rowAt q_rowEnd q_seed q_thrown q_s q_m) sz (some (.int o.1)) (Wd49 cI aR q_hasImage q_place q_rowAt q_rowEnd q_seed q_thrown q_s o.2) := by
  refine k_metI (by decide) rfl rfl (Nat.le_of_ble_eq_true rfl) ?_
  intro p e s m below meth c ls Q A hx hb hml hts hown hK hN hA hP hD hS hl hsz hnm hret
  have hown : s.vm.findClass RX12 = some m.cls := hown
  have hf9 := hts (.fieldLink RX12 9 "PlumbLineModel" "s" "[I") (List.mem_of_getElem? (i := 1) rfl)
  have hf13 := hts (.fieldLink RX12 13 "PlumbLineModel" "m" "[I") (List.mem_of_getElem? (i := 2) rfl)
  have hiX12 : ∀ w ∈ u_ws RX12 TX12 18, w ∈ wsX12_finds := fun w h => List.mem_cons_of_mem _ (List.mem_append_right _ h)
  replace hl : lv_has ls 3 [(0, .ref (aR 0)), (1, .int x1)] := hl
  have h := hsem
  clear hsem
  rw [S_MD_finds] at h
  refine lv_aload_n hx hb dX12_finds_0 rfl (lv_at hl 0 rfl) ?_
  refine lv_iload_n hx hb dX12_finds_1 rfl (lv_at hl 1 rfl) ?_
  obtain ⟨r2, g2, h⟩ := k_bind h
  refine k_callV (As := [.int x1]) (rest := []) (st1 := [.int r2]) (ws2 := (Wd49 cI aR q_hasImage q_place q_rowAt q_rowEnd q_seed q_thrown q_s q_m)) hx hb hml hown hts hK hN hA hP hD hS hl (c_MD_isMan l D cI cM cS cJ aR s.heap.size x1 q_hasImage q_place q_rowAt q_rowEnd q_seed q_thrown q_s g2) gX12_finds_X12_isMan rfl kdV_X12_isMan 0 12 rfl rfl rfl [0, 1] ⟨rfl, rfl⟩ ⟨Nat.le_of_ble_eq_true rfl, Nat.le_of_ble_eq_true rfl⟩ ⟨Nat.zero_le _, Nat.zero_le _⟩ rfl rfl (by decide +kernel) (k_rp rfl (by decide +kernel)) rfl rfl (Nat.le_of_ble_eq_true rfl) dX12_finds_2 rfl (fun H locs hP hD hS => ?_)
  refine lv_if_ne (tgt := 10) hx hb dX12_finds_5 (by decide) (fun c5 => ?_) (fun c5 => ?_)
  · have h := k_neg c5 h
    refine lv_aload_n hx hb dX12_finds_10 rfl (lv_at hl 0 rfl) ?_
    refine va_get (D := D) (ci := 12) (v := .ref (aR 1)) (C := RX12) (T := TX12) (N := 18) hx hb hts hiX12 hown hK hP 0 rfl rfl 0 (by decide) hf9 (fun _ z => z) rfl dX12_finds_11 ?_
    refine lv_aload_n hx hb dX12_finds_14 rfl (lv_at hl 0 rfl) ?_
    refine va_get (D := D) (ci := 12) (v := .ref (aR 2)) (C := RX12) (T := TX12) (N := 18) hx hb hts hiX12 hown hK hP 0 rfl rfl 1 (by decide) hf13 (fun _ z => z) rfl dX12_finds_15 ?_
    obtain ⟨r18, g18, h⟩ := k_bind h
    refine k_callS (As := [.ref (aR 1), .ref (aR 2)]) (rest := []) (st1 := []) (ws2 := (Wd49 cI aR q_hasImage q_place q_rowAt q_rowEnd q_seed q_thrown q_s r18)) hx hb hml hown hts hK hN hA hP hD hS hl (c_MD_copies l D cI cM cS cJ (aR 1) (aR 2) H.size q_s q_m g18) gX12_finds_X12_copies rfl kdS_X12_copies [1, 2] ⟨rfl, rfl⟩ ⟨Nat.le_of_ble_eq_true rfl, Nat.le_of_ble_eq_true rfl⟩ ⟨Nat.zero_le _, Nat.zero_le _⟩ rfl rfl (by decide +kernel) (k_rp rfl (by decide +kernel)) rfl rfl (Nat.le_of_ble_eq_true rfl) dX12_finds_18 rfl (fun H locs hP hD hS => ?_)
    refine lv_iconst (v := 0) hx hb dX12_finds_21 (by decide) ?_
    have B23 : ∀ (n23 : Nat) (y2 : Int32) (q_m : Nat → Int32) (H : Heap) (locs : List Loc) (ls : Array Slot), va_P D vwCl (Wd49 cI aR q_hasImage q_place q_rowAt q_rowEnd q_seed q_thrown q_s q_m) H → va_D A (Wd49 cI aR q_hasImage q_place q_rowAt q_rowEnd q_seed q_thrown q_s q_m) → va_S A s.heap H locs → lv_has ls 3 [(0, .ref (aR 0)), (1, .int x1), (2, .int y2)] → S_MD_finds_L23 x1 n23 y2 q_m = some o → W p l e rm_X12_finds s m ([.ref (aR 0), .int x1] : List Value).toArray below meth c H locs 0 0 Q (F0 m 23 ls []) := by
      intro n23
      induction n23 with
      | zero => intro y2 q_m H locs ls hP hD hS hl h; exact absurd h (by simp [S_MD_finds_L23])
      | succ n23 ih23 =>
        intro y2 q_m H locs ls hP hD hS hl h
        rw [S_MD_finds_L23] at h
        refine lv_iload_n hx hb dX12_finds_23 rfl (lv_at hl 2 rfl) ?_
        refine lv_bipush (v := 60) hx hb dX12_finds_24 (by decide) ?_
        refine lv_icmp_gt (tgt := 54) hx hb dX12_finds_26 (by decide) (fun c26 => ?_) (fun c26 => ?_)
        · have h := k_pos c26 h
          refine lv_bipush (v := (-4)) hx hb dX12_finds_54 (by decide) ?_
          have h := Option.some.inj h; subst h
          exact hret _ _ _ _ hP hS dX12_finds_56
        · have h := k_neg c26 h
          refine lv_aload_n hx hb dX12_finds_29 rfl (lv_at hl 0 rfl) ?_
          refine va_get (D := D) (ci := 12) (v := .ref (aR 2)) (C := RX12) (T := TX12) (N := 18) hx hb hts hiX12 hown hK hP 0 rfl rfl 1 (by decide) hf13 (fun _ z => z) rfl dX12_finds_30 ?_
          refine lv_iconst (v := 2) hx hb dX12_finds_33 (by decide) ?_
          refine va_iald hx hb hK hP 2 0 rfl rfl (show ¬ ((2 : Int32) < 0 ∨ 37 ≤ (2 : Int32).toNatClampNeg) by decide) dX12_finds_34 ?_
          refine lv_iload_n hx hb dX12_finds_35 rfl (lv_at hl 1 rfl) ?_
          refine lv_icmp_ne (tgt := 41) hx hb dX12_finds_36 (by decide) (fun c36 => ?_) (fun c36 => ?_)
          · have h := k_neg c36 h
            refine lv_aload_n hx hb dX12_finds_41 rfl (lv_at hl 0 rfl) ?_
            refine va_get (D := D) (ci := 12) (v := .ref (aR 2)) (C := RX12) (T := TX12) (N := 18) hx hb hts hiX12 hown hK hP 0 rfl rfl 1 (by decide) hf13 (fun _ z => z) rfl dX12_finds_42 ?_
            obtain ⟨r45, g45, h⟩ := k_bind h
            refine k_callS (As := [.ref (aR 2)]) (rest := []) (st1 := []) (ws2 := (Wd49 cI aR q_hasImage q_place q_rowAt q_rowEnd q_seed q_thrown q_s r45)) hx hb hml hown hts hK hN hA hP hD hS hl (c_MD_day l D cI cM cS cJ (aR 2) H.size q_m g45) gX12_finds_X12_day rfl kdS_X12_day [2] ⟨rfl, rfl⟩ ⟨Nat.le_of_ble_eq_true rfl, Nat.le_of_ble_eq_true rfl⟩ ⟨Nat.zero_le _, Nat.zero_le _⟩ rfl rfl (by decide +kernel) (k_rp rfl (by decide +kernel)) rfl rfl (Nat.le_of_ble_eq_true rfl) dX12_finds_45 rfl (fun H locs hP hD hS => ?_)
            refine lv_iinc (v := (y2 + 1)) (lv' := [(2, .int (y2 + 1)), (0, .ref (aR 0)), (1, .int x1)]) hx hb dX12_finds_48 hl (k := 2) rfl (by first | rfl | decide) (by decide) rfl (fun ls hl => ?_)
            refine lv_goto (tgt := 23) hx hb dX12_finds_51 (by decide) ?_
            exact ih23 (y2 + 1) r45 H locs ls hP hD hS (lv_sub hl [1, 2, 0] rfl) h
          · have h := k_pos c36 h
            refine lv_iload_n hx hb dX12_finds_39 rfl (lv_at hl 2 rfl) ?_
            have h := Option.some.inj h; subst h
            exact hret _ _ _ _ hP hS dX12_finds_40
    refine lv_istore_n (lv' := [(2, .int 0), (0, .ref (aR 0)), (1, .int x1)]) hx hb dX12_finds_22 rfl hl (by decide) rfl (fun ls hl => ?_)
    exact B23 lfu 0 r18 H locs ls hP hD hS (lv_sub hl [1, 2, 0] rfl) h
  · have h := k_pos c5 h
    refine lv_iconst (v := (-1)) hx hb dX12_finds_8 (by decide) ?_
    have h := Option.some.inj h; subst h
    exact hret _ _ _ _ hP hS dX12_finds_9
