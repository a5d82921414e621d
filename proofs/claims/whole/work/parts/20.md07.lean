abbrev rm_X12_hangs : Room := { frames := 1, cells := 0, slots := 0, locals := 22 }
set_option maxHeartbeats 4000000 in
set_option maxRecDepth 100000 in
theorem c_MD_hangs (l : Launch) (D : va_G) (cI cM cS cJ : ClassId) (aR : Nat → Nat) (sz : Nat) (x1 : Int32) (x2 : Int32) (q_hasImage : Int32) (q_place : Int32) (q_rowAt : Int32) (q_rowEnd : Int32) (q_seed : Int32) (q_thrown : Int32) (q_s : Nat → Int32) {o : (Int32) × (Nat → Int32)} (hsem : S_MD_hangs x1 x2 q_s = o) : kMet l yX12_hangs wsX12_hangs rm_X12_hangs [.ref (aR 0), .int x1, .int x2] D (kT cI cM cS cJ) (Wd40 cI aR q_hasImage q_place q_rowAt q_rowEnd q_seed q_thrown q_s) sz (some (.int o.1)) (Wd40 cI aR q_hasImage q_place q_rowAt q_rowEnd q_seed q_thrown o.2) := by
  refine k_metI (by decide) rfl rfl (Nat.le_of_ble_eq_true rfl) ?_
  intro p e s m below meth c ls Q A hx hb hml hts hown hK hN hA hP hD hS hl hsz hnm hret
  have hown : s.vm.findClass RX12 = some m.cls := hown
  have hf9 := hts (.fieldLink RX12 9 "PlumbLineModel" "s" "[I") (List.mem_of_getElem? (i := 1) rfl)
  have hiX12 : ∀ w ∈ u_ws RX12 TX12 18, w ∈ wsX12_hangs := fun w h => List.mem_cons_of_mem _ (List.mem_append_right _ h)
  replace hl : lv_has ls 4 [(0, .ref (aR 0)), (1, .int x1), (2, .int x2)] := hl
  have h := hsem
  clear hsem
  rw [S_MD_hangs] at h
  refine lv_iload_n hx hb dX12_hangs_0 rfl (lv_at hl 1 rfl) ?_
  refine lv_iconst (v := 0) hx hb dX12_hangs_1 (by decide) ?_
  refine lv_bipush (v := 9) hx hb dX12_hangs_2 (by decide) ?_
  refine k_callS (As := [.int x1, .int 0, .int 9]) (rest := []) (st1 := [.int (S_MD_isIn x1 0 9)]) (ws2 := (Wd40 cI aR q_hasImage q_place q_rowAt q_rowEnd q_seed q_thrown q_s)) hx hb hml hown hts hK hN hA hP hD hS hl (c_MD_isIn l D cI cM cS cJ s.heap.size x1 0 9 rfl) gX12_hangs_X12_isIn rfl kdS_X12_isIn [] ⟨rfl, rfl⟩ ⟨Nat.le_of_ble_eq_true rfl, Nat.le_of_ble_eq_true rfl⟩ ⟨Nat.zero_le _, Nat.zero_le _⟩ rfl rfl (by decide +kernel) (k_rp rfl (by decide +kernel)) rfl rfl (Nat.le_of_ble_eq_true rfl) dX12_hangs_4 rfl (fun H locs hP hD hS => ?_)
  refine lv_if_eq (tgt := 20) hx hb dX12_hangs_7 (by decide) (fun c7 => ?_) (fun c7 => ?_)
  · have h := k_pos c7 h
    refine lv_iconst (v := (-1)) hx hb dX12_hangs_20 (by decide) ?_
    subst h
    exact hret _ _ _ _ hP hS dX12_hangs_21
  · have h := k_neg c7 h
    refine lv_iload_n hx hb dX12_hangs_10 rfl (lv_at hl 2 rfl) ?_
    refine lv_iconst (v := 0) hx hb dX12_hangs_11 (by decide) ?_
    refine lv_bipush (v := 7) hx hb dX12_hangs_12 (by decide) ?_
    refine k_callS (As := [.int x2, .int 0, .int 7]) (rest := []) (st1 := [.int (S_MD_isIn x2 0 7)]) (ws2 := (Wd40 cI aR q_hasImage q_place q_rowAt q_rowEnd q_seed q_thrown q_s)) hx hb hml hown hts hK hN hA hP hD hS hl (c_MD_isIn l D cI cM cS cJ H.size x2 0 7 rfl) gX12_hangs_X12_isIn rfl kdS_X12_isIn [] ⟨rfl, rfl⟩ ⟨Nat.le_of_ble_eq_true rfl, Nat.le_of_ble_eq_true rfl⟩ ⟨Nat.zero_le _, Nat.zero_le _⟩ rfl rfl (by decide +kernel) (k_rp rfl (by decide +kernel)) rfl rfl (Nat.le_of_ble_eq_true rfl) dX12_hangs_14 rfl (fun H locs hP hD hS => ?_)
    refine lv_if_ne (tgt := 22) hx hb dX12_hangs_17 (by decide) (fun c17 => ?_) (fun c17 => ?_)
    · have h := k_neg c17 h
      refine lv_bipush (v := 10) hx hb dX12_hangs_22 (by decide) ?_
      refine lv_aload_n hx hb dX12_hangs_24 rfl (lv_at hl 0 rfl) ?_
      refine va_get (D := D) (ci := 12) (v := .ref (aR 1)) (C := RX12) (T := TX12) (N := 18) hx hb hts hiX12 hown hK hP 0 rfl rfl 0 (by decide) hf9 (fun _ z => z) rfl dX12_hangs_25 ?_
      refine lv_iconst (v := 3) hx hb dX12_hangs_28 (by decide) ?_
      refine va_iald hx hb hK hP 1 0 rfl rfl (show ¬ ((3 : Int32) < 0 ∨ 37 ≤ (3 : Int32).toNatClampNeg) by decide) dX12_hangs_29 ?_
      refine lv_imul hx hb dX12_hangs_30 ?_
      refine lv_aload_n hx hb dX12_hangs_31 rfl (lv_at hl 0 rfl) ?_
      refine va_get (D := D) (ci := 12) (v := .ref (aR 1)) (C := RX12) (T := TX12) (N := 18) hx hb hts hiX12 hown hK hP 0 rfl rfl 0 (by decide) hf9 (fun _ z => z) rfl dX12_hangs_32 ?_
      refine lv_iconst (v := 2) hx hb dX12_hangs_35 (by decide) ?_
      refine va_iald hx hb hK hP 1 0 rfl rfl (show ¬ ((2 : Int32) < 0 ∨ 37 ≤ (2 : Int32).toNatClampNeg) by decide) dX12_hangs_36 ?_
      refine lv_iadd hx hb dX12_hangs_37 ?_
      refine lv_istore_n (lv' := [(3, .int (((10 : Int32) * (q_s (3 : Int32).toNatClampNeg)) + (q_s (2 : Int32).toNatClampNeg))), (0, .ref (aR 0)), (1, .int x1), (2, .int x2)]) hx hb dX12_hangs_38 rfl hl (by decide) rfl (fun ls hl => ?_)
      refine lv_aload_n hx hb dX12_hangs_39 rfl (lv_at hl 1 rfl) ?_
      refine va_get (D := D) (ci := 12) (v := .ref (aR 1)) (C := RX12) (T := TX12) (N := 18) hx hb hts hiX12 hown hK hP 0 rfl rfl 0 (by decide) hf9 (fun _ z => z) rfl dX12_hangs_40 ?_
      refine lv_iconst (v := 3) hx hb dX12_hangs_43 (by decide) ?_
      refine lv_iload_n hx hb dX12_hangs_44 rfl (lv_at hl 2 rfl) ?_
      refine va_iast hx hb hK hP hD hS 1 0 rfl rfl (show ¬ ((3 : Int32) < 0 ∨ 37 ≤ (3 : Int32).toNatClampNeg) by decide) dX12_hangs_45 (fun H locs hP hD hS => ?_)
      replace hP : va_P D vwCl (Wd40 cI aR q_hasImage q_place q_rowAt q_rowEnd q_seed q_thrown (upd q_s (3 : Int32).toNatClampNeg x1)) H := hP
      replace hD : va_D A (Wd40 cI aR q_hasImage q_place q_rowAt q_rowEnd q_seed q_thrown (upd q_s (3 : Int32).toNatClampNeg x1)) := hD
      refine lv_aload_n hx hb dX12_hangs_46 rfl (lv_at hl 1 rfl) ?_
      refine va_get (D := D) (ci := 12) (v := .ref (aR 1)) (C := RX12) (T := TX12) (N := 18) hx hb hts hiX12 hown hK hP 0 rfl rfl 0 (by decide) hf9 (fun _ z => z) rfl dX12_hangs_47 ?_
      refine lv_iconst (v := 2) hx hb dX12_hangs_50 (by decide) ?_
      refine lv_iload_n hx hb dX12_hangs_51 rfl (lv_at hl 3 rfl) ?_
      refine va_iast hx hb hK hP hD hS 1 0 rfl rfl (show ¬ ((2 : Int32) < 0 ∨ 37 ≤ (2 : Int32).toNatClampNeg) by decide) dX12_hangs_52 (fun H locs hP hD hS => ?_)
      replace hP : va_P D vwCl (Wd40 cI aR q_hasImage q_place q_rowAt q_rowEnd q_seed q_thrown (upd (upd q_s (3 : Int32).toNatClampNeg x1) (2 : Int32).toNatClampNeg x2)) H := hP
      replace hD : va_D A (Wd40 cI aR q_hasImage q_place q_rowAt q_rowEnd q_seed q_thrown (upd (upd q_s (3 : Int32).toNatClampNeg x1) (2 : Int32).toNatClampNeg x2)) := hD
      refine lv_iload_n hx hb dX12_hangs_53 rfl (lv_at hl 0 rfl) ?_
      subst h
      exact hret _ _ _ _ hP hS dX12_hangs_54
    · have h := k_pos c17 h
      refine lv_iconst (v := (-1)) hx hb dX12_hangs_20 (by decide) ?_
      subst h
      exact hret _ _ _ _ hP hS dX12_hangs_21
abbrev rm_X12_days : Room := { frames := 5, cells := 0, slots := 0, locals := 112 }
set_option maxHeartbeats 4000000 in
set_option maxRecDepth 100000 in
theorem c_MD_days (l : Launch) (D : va_G) (cI cM cS cJ : ClassId) (aR : Nat → Nat) (sz : Nat) (x1 : Int32) (q_hasImage : Int32) (q_place : Int32) (q_rowAt : Int32) (q_rowEnd : Int32) (q_seed : Int32) (q_thrown : Int32) (q_s : Nat → Int32) {o : (Int32) × (Nat → Int32)} (hsem : S_MD_days x1 q_s = some o) : kMet l yX12_days wsX12_days rm_X12_days [.ref (aR 0), .int x1] D (kT cI cM cS cJ) (Wd40 cI aR q_hasImage q_place q_rowAt q_rowEnd q_seed q_thrown q_s) sz (some (.int o.1)) (Wd40 cI aR q_hasImage q_place q_rowAt q_rowEnd q_seed q_thrown o.2) := by
  refine k_metI (by decide) rfl rfl (Nat.le_of_ble_eq_true rfl) ?_
  intro p e s m below meth c ls Q A hx hb hml hts hown hK hN hA hP hD hS hl hsz hnm hret
  have hown : s.vm.findClass RX12 = some m.cls := hown
  have hf9 := hts (.fieldLink RX12 9 "PlumbLineModel" "s" "[I") (List.mem_of_getElem? (i := 1) rfl)
  have hiX12 : ∀ w ∈ u_ws RX12 TX12 18, w ∈ wsX12_days := fun w h => List.mem_cons_of_mem _ (List.mem_append_right _ h)
  replace hl : lv_has ls 2 [(0, .ref (aR 0)), (1, .int x1)] := hl
  have h := hsem
  clear hsem
  rw [S_MD_days] at h
  refine lv_iload_n hx hb dX12_days_0 rfl (lv_at hl 1 rfl) ?_
  refine lv_iconst (v := 1) hx hb dX12_days_1 (by decide) ?_
  refine lv_bipush (v := 60) hx hb dX12_days_2 (by decide) ?_
  refine k_callS (As := [.int x1, .int 1, .int 60]) (rest := []) (st1 := [.int (S_MD_isIn x1 1 60)]) (ws2 := (Wd40 cI aR q_hasImage q_place q_rowAt q_rowEnd q_seed q_thrown q_s)) hx hb hml hown hts hK hN hA hP hD hS hl (c_MD_isIn l D cI cM cS cJ s.heap.size x1 1 60 rfl) gX12_days_X12_isIn rfl kdS_X12_isIn [] ⟨rfl, rfl⟩ ⟨Nat.le_of_ble_eq_true rfl, Nat.le_of_ble_eq_true rfl⟩ ⟨Nat.zero_le _, Nat.zero_le _⟩ rfl rfl (by decide +kernel) (k_rp rfl (by decide +kernel)) rfl rfl (Nat.le_of_ble_eq_true rfl) dX12_days_4 rfl (fun H locs hP hD hS => ?_)
  refine lv_if_ne (tgt := 12) hx hb dX12_days_7 (by decide) (fun c7 => ?_) (fun c7 => ?_)
  · have h := k_neg c7 h
    refine lv_aload_n hx hb dX12_days_12 rfl (lv_at hl 0 rfl) ?_
    refine va_get (D := D) (ci := 12) (v := .ref (aR 1)) (C := RX12) (T := TX12) (N := 18) hx hb hts hiX12 hown hK hP 0 rfl rfl 0 (by decide) hf9 (fun _ z => z) rfl dX12_days_13 ?_
    refine lv_iconst (v := 1) hx hb dX12_days_16 (by decide) ?_
    refine va_iald hx hb hK hP 1 0 rfl rfl (show ¬ ((1 : Int32) < 0 ∨ 37 ≤ (1 : Int32).toNatClampNeg) by decide) dX12_days_17 ?_
    refine lv_iload_n hx hb dX12_days_18 rfl (lv_at hl 1 rfl) ?_
    refine lv_iadd hx hb dX12_days_19 ?_
    refine lv_sipush (v := 999) hx hb dX12_days_20 (by decide) ?_
    refine lv_icmp_le (tgt := 29) hx hb dX12_days_23 (by decide) (fun c23 => ?_) (fun c23 => ?_)
    · have h := k_pos c23 h
      refine lv_aload_n hx hb dX12_days_29 rfl (lv_at hl 0 rfl) ?_
      refine va_get (D := D) (ci := 12) (v := .ref (aR 1)) (C := RX12) (T := TX12) (N := 18) hx hb hts hiX12 hown hK hP 0 rfl rfl 0 (by decide) hf9 (fun _ z => z) rfl dX12_days_30 ?_
      refine lv_iload_n hx hb dX12_days_33 rfl (lv_at hl 1 rfl) ?_
      obtain ⟨r34, g34, h⟩ := k_bind h
      refine k_callS (As := [.ref (aR 1), .int x1]) (rest := []) (st1 := []) (ws2 := (Wd40 cI aR q_hasImage q_place q_rowAt q_rowEnd q_seed q_thrown r34)) hx hb hml hown hts hK hN hA hP hD hS hl (c_MD_daysOn l D cI cM cS cJ (aR 1) H.size x1 q_s g34) gX12_days_X12_daysOn rfl kdS_X12_daysOn [1] ⟨rfl, rfl⟩ ⟨Nat.le_of_ble_eq_true rfl, Nat.le_of_ble_eq_true rfl⟩ ⟨Nat.zero_le _, Nat.zero_le _⟩ rfl rfl (by decide +kernel) (k_rp rfl (by decide +kernel)) rfl rfl (Nat.le_of_ble_eq_true rfl) dX12_days_34 rfl (fun H locs hP hD hS => ?_)
      refine lv_aload_n hx hb dX12_days_37 rfl (lv_at hl 0 rfl) ?_
      refine va_get (D := D) (ci := 12) (v := .ref (aR 1)) (C := RX12) (T := TX12) (N := 18) hx hb hts hiX12 hown hK hP 0 rfl rfl 0 (by decide) hf9 (fun _ z => z) rfl dX12_days_38 ?_
      obtain ⟨r41, g41, h⟩ := k_bind h
      refine k_callS (As := [.ref (aR 1)]) (rest := []) (st1 := [.int r41]) (ws2 := (Wd40 cI aR q_hasImage q_place q_rowAt q_rowEnd q_seed q_thrown r34)) hx hb hml hown hts hK hN hA hP hD hS hl (c_MD_upright l D cI cM cS cJ (aR 1) H.size r34 g41) gX12_days_X12_upright rfl kdS_X12_upright [1] ⟨rfl, rfl⟩ ⟨Nat.le_of_ble_eq_true rfl, Nat.le_of_ble_eq_true rfl⟩ ⟨Nat.zero_le _, Nat.zero_le _⟩ rfl rfl (by decide +kernel) (k_rp rfl (by decide +kernel)) rfl rfl (Nat.le_of_ble_eq_true rfl) dX12_days_41 rfl (fun H locs hP hD hS => ?_)
      obtain ⟨r44, g44, h⟩ := k_bind h
      refine k_callS (As := [.int r41]) (rest := []) (st1 := [.int r44]) (ws2 := (Wd40 cI aR q_hasImage q_place q_rowAt q_rowEnd q_seed q_thrown r34)) hx hb hml hown hts hK hN hA hP hD hS hl (c_MD_bits l D cI cM cS cJ H.size r41 g44) gX12_days_X12_bits rfl kdS_X12_bits [] ⟨rfl, rfl⟩ ⟨Nat.le_of_ble_eq_true rfl, Nat.le_of_ble_eq_true rfl⟩ ⟨Nat.zero_le _, Nat.zero_le _⟩ rfl rfl (by decide +kernel) (k_rp rfl (by decide +kernel)) rfl rfl (Nat.le_of_ble_eq_true rfl) dX12_days_44 rfl (fun H locs hP hD hS => ?_)
      have h := Option.some.inj h; subst h
      exact hret _ _ _ _ hP hS dX12_days_47
    · have h := k_neg c23 h
      refine lv_bipush (v := (-3)) hx hb dX12_days_26 (by decide) ?_
      have h := Option.some.inj h; subst h
      exact hret _ _ _ _ hP hS dX12_days_28
  · have h := k_pos c7 h
    refine lv_iconst (v := (-1)) hx hb dX12_days_10 (by decide) ?_
    have h := Option.some.inj h; subst h
    exact hret _ _ _ _ hP hS dX12_days_11
abbrev rm_X12_isLate : Room := { frames := 1, cells := 0, slots := 0, locals := 22 }
set_option maxHeartbeats 4000000 in
set_option maxRecDepth 100000 in
theorem c_MD_isLate (l : Launch) (D : va_G) (cI cM cS cJ : ClassId) (sz : Nat) (x0 : Int32) {o : (Int32)} (hsem : S_MD_isLate x0 = some o) : kMet l yX12_isLate wsX12_isLate rm_X12_isLate [.int x0] D (kT cI cM cS cJ) (Wd0) sz (some (.int o)) (Wd0) := by
  refine k_metZ (by decide) rfl rfl (Nat.le_of_ble_eq_true rfl) ?_
  intro p e s m below meth c ls Q A hx hb hml hts hown hK hN hA hP hD hS hl hsz hnm hret
  have hown : s.vm.findClass RX12 = some m.cls := hown
  replace hl : lv_has ls 1 [(0, .int x0)] := hl
  have h := hsem
  clear hsem
  rw [S_MD_isLate] at h
  refine lv_iload_n hx hb dX12_isLate_0 rfl (lv_at hl 0 rfl) ?_
  refine lv_iconst (v := 0) hx hb dX12_isLate_1 (by decide) ?_
  refine lv_bipush (v := 60) hx hb dX12_isLate_2 (by decide) ?_
  refine k_callS (As := [.int x0, .int 0, .int 60]) (rest := []) (st1 := [.int (S_MD_isIn x0 0 60)]) (ws2 := (Wd0)) hx hb hml hown hts hK hN hA hP hD hS hl (c_MD_isIn l D cI cM cS cJ s.heap.size x0 0 60 rfl) gX12_isLate_X12_isIn rfl kdS_X12_isIn [] ⟨rfl, rfl⟩ ⟨Nat.le_of_ble_eq_true rfl, Nat.le_of_ble_eq_true rfl⟩ ⟨Nat.zero_le _, Nat.zero_le _⟩ rfl rfl (by decide +kernel) (k_rp rfl (by decide +kernel)) rfl rfl (Nat.le_of_ble_eq_true rfl) dX12_isLate_4 rfl (fun H locs hP hD hS => ?_)
  obtain ⟨g7, h⟩ := k_guard h
  have h := Option.some.inj h; subst h
  exact hret _ _ _ _ (k_z01 g7) hP hS dX12_isLate_7
abbrev Wd49 (cI : ClassId) (aR : Nat → Nat) (q_hasImage : Int32) (q_place : Int32) (q_rowAt : Int32) (q_rowEnd : Int32) (q_seed : Int32) (q_thrown : Int32) (q_s : Nat → Int32) (q_m : Nat → Int32) : va_W := [((aR 0), .inr (12, [.ref (aR 1), .ref (aR 2), .ref (aR 3), .ref (aR 4), .int q_hasImage, .int q_place, .int q_rowAt, .int q_rowEnd, .ref (aR 5), .ref (aR 6), .int q_seed, .ref (aR 7), .ref (aR 8), .ref (aR 9), .ref (aR 10), .ref (aR 11), .ref (aR 12), .int q_thrown])), ((aR 1), .inl (cI, 37, .inl q_s)), ((aR 2), .inl (cI, 37, .inl q_m))]
abbrev rm_X12_takes : Room := { frames := 5, cells := 0, slots := 0, locals := 112 }
set_option maxHeartbeats 4000000 in
set_option maxRecDepth 100000 in
theorem c_MD_takes (l : Launch) (D : va_G) (cI cM cS cJ : ClassId) (aR : Nat → Nat) (sz : Nat) (x1 : Int32) (q_hasImage : Int32) (q_place : Int32) (q_rowAt : Int32) (q_rowEnd : Int32) (q_seed : Int32) (q_thrown : Int32) (q_s : Nat → Int32) (q_m : Nat → Int32) {o : (Nat → Int32)} (hsem : S_MD_takes x1 q_s q_m = some o) : kMet l yX12_takes wsX12_takes rm_X12_takes [.ref (aR 0), .int x1] D (kT cI cM cS cJ) (Wd49 cI aR q_hasImage q_place q_rowAt q_rowEnd q_seed q_thrown q_s q_m) sz none (Wd49 cI aR q_hasImage q_place q_rowAt q_rowEnd q_seed q_thrown q_s o) := by
  refine k_metV (by decide) rfl rfl (Nat.le_of_ble_eq_true rfl) ?_
  intro p e s m below meth c ls Q A hx hb hml hts hown hK hN hA hP hD hS hl hsz hnm hret
  have hown : s.vm.findClass RX12 = some m.cls := hown
  have hf9 := hts (.fieldLink RX12 9 "PlumbLineModel" "s" "[I") (List.mem_of_getElem? (i := 1) rfl)
  have hf13 := hts (.fieldLink RX12 13 "PlumbLineModel" "m" "[I") (List.mem_of_getElem? (i := 2) rfl)
  have hiX12 : ∀ w ∈ u_ws RX12 TX12 18, w ∈ wsX12_takes := fun w h => List.mem_cons_of_mem _ (List.mem_append_right _ h)
  replace hl : lv_has ls 2 [(0, .ref (aR 0)), (1, .int x1)] := hl
  have h := hsem
  clear hsem
  rw [S_MD_takes] at h
  refine lv_aload_n hx hb dX12_takes_0 rfl (lv_at hl 0 rfl) ?_
  refine va_get (D := D) (ci := 12) (v := .ref (aR 1)) (C := RX12) (T := TX12) (N := 18) hx hb hts hiX12 hown hK hP 0 rfl rfl 0 (by decide) hf9 (fun _ z => z) rfl dX12_takes_1 ?_
  refine lv_aload_n hx hb dX12_takes_4 rfl (lv_at hl 0 rfl) ?_
  refine va_get (D := D) (ci := 12) (v := .ref (aR 2)) (C := RX12) (T := TX12) (N := 18) hx hb hts hiX12 hown hK hP 0 rfl rfl 1 (by decide) hf13 (fun _ z => z) rfl dX12_takes_5 ?_
  obtain ⟨r8, g8, h⟩ := k_bind h
  refine k_callS (As := [.ref (aR 1), .ref (aR 2)]) (rest := []) (st1 := []) (ws2 := (Wd49 cI aR q_hasImage q_place q_rowAt q_rowEnd q_seed q_thrown q_s r8)) hx hb hml hown hts hK hN hA hP hD hS hl (c_MD_copies l D cI cM cS cJ (aR 1) (aR 2) s.heap.size q_s q_m g8) gX12_takes_X12_copies rfl kdS_X12_copies [1, 2] ⟨rfl, rfl⟩ ⟨Nat.le_of_ble_eq_true rfl, Nat.le_of_ble_eq_true rfl⟩ ⟨Nat.zero_le _, Nat.zero_le _⟩ rfl rfl (by decide +kernel) (k_rp rfl (by decide +kernel)) rfl rfl (Nat.le_of_ble_eq_true rfl) dX12_takes_8 rfl (fun H locs hP hD hS => ?_)
  refine lv_aload_n hx hb dX12_takes_11 rfl (lv_at hl 0 rfl) ?_
  refine va_get (D := D) (ci := 12) (v := .ref (aR 2)) (C := RX12) (T := TX12) (N := 18) hx hb hts hiX12 hown hK hP 0 rfl rfl 1 (by decide) hf13 (fun _ z => z) rfl dX12_takes_12 ?_
  refine lv_iload_n hx hb dX12_takes_15 rfl (lv_at hl 1 rfl) ?_
  obtain ⟨r16, g16, h⟩ := k_bind h
  refine k_callS (As := [.ref (aR 2), .int x1]) (rest := []) (st1 := []) (ws2 := (Wd49 cI aR q_hasImage q_place q_rowAt q_rowEnd q_seed q_thrown q_s r16)) hx hb hml hown hts hK hN hA hP hD hS hl (c_MD_daysOn l D cI cM cS cJ (aR 2) H.size x1 r8 g16) gX12_takes_X12_daysOn rfl kdS_X12_daysOn [2] ⟨rfl, rfl⟩ ⟨Nat.le_of_ble_eq_true rfl, Nat.le_of_ble_eq_true rfl⟩ ⟨Nat.zero_le _, Nat.zero_le _⟩ rfl rfl (by decide +kernel) (k_rp rfl (by decide +kernel)) rfl rfl (Nat.le_of_ble_eq_true rfl) dX12_takes_16 rfl (fun H locs hP hD hS => ?_)
  have h := Option.some.inj h; subst h
  exact hret _ _ _ _ hP hS dX12_takes_19
theorem kdS_X12_isLate : yX12_isLate.cls ≠ "java/lang/invoke/MethodHandle" ∧ yX12_isLate.cls ≠ "java/lang/invoke/VarHandle" ∧ (parseMethodDescriptor yX12_isLate.desc).map (fun d => d.parameters.length) = some 1 := by decide +kernel
theorem kdV_X12_takes : yX12_takes.cls = RX12 ∧ yX12_takes.cls ≠ "java/lang/invoke/MethodHandle" ∧ yX12_takes.cls ≠ "java/lang/invoke/VarHandle" ∧ (parseMethodDescriptor yX12_takes.desc).map (fun d => d.parameters.length) = some 1 := by decide +kernel
abbrev rm_X12_leanThen : Room := { frames := 6, cells := 0, slots := 0, locals := 133 }
set_option maxHeartbeats 4000000 in
set_option maxRecDepth 100000 in
theorem c_MD_leanThen (l : Launch) (D : va_G) (cI cM cS cJ : ClassId) (aR : Nat → Nat) (sz : Nat) (x1 : Int32) (x2 : Int32) (q_hasImage : Int32) (q_place : Int32) (q_rowAt : Int32) (q_rowEnd : Int32) (q_seed : Int32) (q_thrown : Int32) (q_s : Nat → Int32) (q_m : Nat → Int32) {o : (Int32) × (Nat → Int32)} (hsem : S_MD_leanThen x1 x2 q_s q_m = some o) : kMet l yX12_leanThen wsX12_leanThen rm_X12_leanThen [.ref (aR 0), .int x1, .int x2] D (kT cI cM cS cJ) (Wd49 cI aR q_hasImage q_place q_rowAt q_rowEnd q_seed q_thrown q_s q_m) sz (some (.int o.1)) (Wd49 cI aR q_hasImage q_place q_rowAt q_rowEnd q_seed q_thrown q_s o.2) := by
  refine k_metI (by decide) rfl rfl (Nat.le_of_ble_eq_true rfl) ?_
  intro p e s m below meth c ls Q A hx hb hml hts hown hK hN hA hP hD hS hl hsz hnm hret
  have hown : s.vm.findClass RX12 = some m.cls := hown
  have hf13 := hts (.fieldLink RX12 13 "PlumbLineModel" "m" "[I") (List.mem_of_getElem? (i := 2) rfl)
  have hiX12 : ∀ w ∈ u_ws RX12 TX12 18, w ∈ wsX12_leanThen := fun w h => List.mem_cons_of_mem _ (List.mem_append_right _ h)
  replace hl : lv_has ls 3 [(0, .ref (aR 0)), (1, .int x1), (2, .int x2)] := hl
  have h := hsem
  clear hsem
  rw [S_MD_leanThen] at h
  refine lv_aload_n hx hb dX12_leanThen_0 rfl (lv_at hl 0 rfl) ?_
  refine lv_iload_n hx hb dX12_leanThen_1 rfl (lv_at hl 1 rfl) ?_
  obtain ⟨r2, g2, h⟩ := k_bind h
  refine k_callV (As := [.int x1]) (rest := []) (st1 := [.int r2]) (ws2 := (Wd49 cI aR q_hasImage q_place q_rowAt q_rowEnd q_seed q_thrown q_s q_m)) hx hb hml hown hts hK hN hA hP hD hS hl (c_MD_isMan l D cI cM cS cJ aR s.heap.size x1 q_hasImage q_place q_rowAt q_rowEnd q_seed q_thrown q_s g2) gX12_leanThen_X12_isMan rfl kdV_X12_isMan 0 12 rfl rfl rfl [0, 1] ⟨rfl, rfl⟩ ⟨Nat.le_of_ble_eq_true rfl, Nat.le_of_ble_eq_true rfl⟩ ⟨Nat.zero_le _, Nat.zero_le _⟩ rfl rfl (by decide +kernel) (k_rp rfl (by decide +kernel)) rfl rfl (Nat.le_of_ble_eq_true rfl) dX12_leanThen_2 rfl (fun H locs hP hD hS => ?_)
  refine lv_if_eq (tgt := 15) hx hb dX12_leanThen_5 (by decide) (fun c5 => ?_) (fun c5 => ?_)
  · have h := k_pos c5 h
    refine lv_ldc (v := 1000000001) hx hb hown (hts (.constant RX12 155 1000000001) (List.mem_of_getElem? (i := 1) rfl)) dX12_leanThen_15 ?_
    have h := Option.some.inj h; subst h
    exact hret _ _ _ _ hP hS dX12_leanThen_17
  · have h := k_neg c5 h
    refine lv_iload_n hx hb dX12_leanThen_8 rfl (lv_at hl 2 rfl) ?_
    obtain ⟨r9, g9, h⟩ := k_bind h
    refine k_callS (As := [.int x2]) (rest := []) (st1 := [.int r9]) (ws2 := (Wd49 cI aR q_hasImage q_place q_rowAt q_rowEnd q_seed q_thrown q_s q_m)) hx hb hml hown hts hK hN hA hP hD hS hl (c_MD_isLate l D cI cM cS cJ H.size x2 g9) gX12_leanThen_X12_isLate rfl kdS_X12_isLate [] ⟨rfl, rfl⟩ ⟨Nat.le_of_ble_eq_true rfl, Nat.le_of_ble_eq_true rfl⟩ ⟨Nat.zero_le _, Nat.zero_le _⟩ rfl rfl (by decide +kernel) (k_rp rfl (by decide +kernel)) rfl rfl (Nat.le_of_ble_eq_true rfl) dX12_leanThen_9 rfl (fun H locs hP hD hS => ?_)
    refine lv_if_ne (tgt := 18) hx hb dX12_leanThen_12 (by decide) (fun c12 => ?_) (fun c12 => ?_)
    · have h := k_neg c12 h
      refine lv_aload_n hx hb dX12_leanThen_18 rfl (lv_at hl 0 rfl) ?_
      refine lv_iload_n hx hb dX12_leanThen_19 rfl (lv_at hl 2 rfl) ?_
      obtain ⟨r20, g20, h⟩ := k_bind h
      refine k_callV (As := [.int x2]) (rest := []) (st1 := []) (ws2 := (Wd49 cI aR q_hasImage q_place q_rowAt q_rowEnd q_seed q_thrown q_s r20)) hx hb hml hown hts hK hN hA hP hD hS hl (c_MD_takes l D cI cM cS cJ aR H.size x2 q_hasImage q_place q_rowAt q_rowEnd q_seed q_thrown q_s q_m g20) gX12_leanThen_X12_takes rfl kdV_X12_takes 0 12 rfl rfl rfl [0, 1, 2] ⟨rfl, rfl⟩ ⟨Nat.le_of_ble_eq_true rfl, Nat.le_of_ble_eq_true rfl⟩ ⟨Nat.zero_le _, Nat.zero_le _⟩ rfl rfl (by decide +kernel) (k_rp rfl (by decide +kernel)) rfl rfl (Nat.le_of_ble_eq_true rfl) dX12_leanThen_20 rfl (fun H locs hP hD hS => ?_)
      refine lv_aload_n hx hb dX12_leanThen_23 rfl (lv_at hl 0 rfl) ?_
      refine va_get (D := D) (ci := 12) (v := .ref (aR 2)) (C := RX12) (T := TX12) (N := 18) hx hb hts hiX12 hown hK hP 0 rfl rfl 1 (by decide) hf13 (fun _ z => z) rfl dX12_leanThen_24 ?_
      refine lv_iload_n hx hb dX12_leanThen_27 rfl (lv_at hl 1 rfl) ?_
      refine lv_iconst (v := 2) hx hb dX12_leanThen_28 (by decide) ?_
      refine k_callS (As := [.int x1, .int 2]) (rest := [.ref (aR 2)]) (st1 := [.int (S_MD_of x1 2), .ref (aR 2)]) (ws2 := (Wd49 cI aR q_hasImage q_place q_rowAt q_rowEnd q_seed q_thrown q_s r20)) hx hb hml hown hts hK hN hA hP hD hS hl (c_MD_of l D cI cM cS cJ H.size x1 2 rfl) gX12_leanThen_X12_of rfl kdS_X12_of [] ⟨rfl, rfl⟩ ⟨Nat.le_of_ble_eq_true rfl, Nat.le_of_ble_eq_true rfl⟩ ⟨Nat.zero_le _, Nat.zero_le _⟩ rfl rfl (by decide +kernel) (k_rp rfl (by decide +kernel)) rfl rfl (Nat.le_of_ble_eq_true rfl) dX12_leanThen_29 rfl (fun H locs hP hD hS => ?_)
      obtain ⟨g32, h⟩ := k_guard h
      refine va_iald hx hb hK hP 2 0 rfl rfl g32 dX12_leanThen_32 ?_
      have h := Option.some.inj h; subst h
      exact hret _ _ _ _ hP hS dX12_leanThen_33
    · have h := k_pos c12 h
      refine lv_ldc (v := 1000000001) hx hb hown (hts (.constant RX12 155 1000000001) (List.mem_of_getElem? (i := 1) rfl)) dX12_leanThen_15 ?_
      have h := Option.some.inj h; subst h
      exact hret _ _ _ _ hP hS dX12_leanThen_17
abbrev rm_X12_then : Room := { frames := 6, cells := 0, slots := 0, locals := 133 }
set_option maxHeartbeats 4000000 in
set_option maxRecDepth 100000 in
theorem c_MD_then (l : Launch) (D : va_G) (cI cM cS cJ : ClassId) (aR : Nat → Nat) (sz : Nat) (x1 : Int32) (x2 : Int32) (q_hasImage : Int32) (q_place : Int32) (q_rowAt : Int32) (q_rowEnd : Int32) (q_seed : Int32) (q_thrown : Int32) (q_s : Nat → Int32) (q_m : Nat → Int32) {o : (Int32) × (Nat → Int32)} (hsem : S_MD_then x1 x2 q_s q_m = some o) : kMet l yX12_then wsX12_then rm_X12_then [.ref (aR 0), .int x1, .int x2] D (kT cI cM cS cJ) (Wd49 cI aR q_hasImage q_place q_rowAt q_rowEnd q_seed q_thrown q_s q_m) sz (some (.int o.1)) (Wd49 cI aR q_hasImage q_place q_rowAt q_rowEnd q_seed q_thrown q_s o.2) := by
  refine k_metI (by decide) rfl rfl (Nat.le_of_ble_eq_true rfl) ?_
  intro p e s m below meth c ls Q A hx hb hml hts hown hK hN hA hP hD hS hl hsz hnm hret
  have hown : s.vm.findClass RX12 = some m.cls := hown
  have hf13 := hts (.fieldLink RX12 13 "PlumbLineModel" "m" "[I") (List.mem_of_getElem? (i := 1) rfl)
  have hiX12 : ∀ w ∈ u_ws RX12 TX12 18, w ∈ wsX12_then := fun w h => List.mem_cons_of_mem _ (List.mem_append_right _ h)
  replace hl : lv_has ls 3 [(0, .ref (aR 0)), (1, .int x1), (2, .int x2)] := hl
  have h := hsem
  clear hsem
  rw [S_MD_then] at h
  refine lv_iload_n hx hb dX12_then_0 rfl (lv_at hl 1 rfl) ?_
  obtain ⟨r1, g1, h⟩ := k_bind h
  refine k_callS (As := [.int x1]) (rest := []) (st1 := [.int r1]) (ws2 := (Wd49 cI aR q_hasImage q_place q_rowAt q_rowEnd q_seed q_thrown q_s q_m)) hx hb hml hown hts hK hN hA hP hD hS hl (c_MD_isLate l D cI cM cS cJ s.heap.size x1 g1) gX12_then_X12_isLate rfl kdS_X12_isLate [] ⟨rfl, rfl⟩ ⟨Nat.le_of_ble_eq_true rfl, Nat.le_of_ble_eq_true rfl⟩ ⟨Nat.zero_le _, Nat.zero_le _⟩ rfl rfl (by decide +kernel) (k_rp rfl (by decide +kernel)) rfl rfl (Nat.le_of_ble_eq_true rfl) dX12_then_1 rfl (fun H locs hP hD hS => ?_)
  refine lv_if_eq (tgt := 16) hx hb dX12_then_4 (by decide) (fun c4 => ?_) (fun c4 => ?_)
  · have h := k_pos c4 h
    refine lv_iconst (v := (-1)) hx hb dX12_then_16 (by decide) ?_
    have h := Option.some.inj h; subst h
    exact hret _ _ _ _ hP hS dX12_then_17
  · have h := k_neg c4 h
    refine lv_iload_n hx hb dX12_then_7 rfl (lv_at hl 2 rfl) ?_
    refine lv_iconst (v := 0) hx hb dX12_then_8 (by decide) ?_
    refine lv_iconst (v := 3) hx hb dX12_then_9 (by decide) ?_
    refine k_callS (As := [.int x2, .int 0, .int 3]) (rest := []) (st1 := [.int (S_MD_isIn x2 0 3)]) (ws2 := (Wd49 cI aR q_hasImage q_place q_rowAt q_rowEnd q_seed q_thrown q_s q_m)) hx hb hml hown hts hK hN hA hP hD hS hl (c_MD_isIn l D cI cM cS cJ H.size x2 0 3 rfl) gX12_then_X12_isIn rfl kdS_X12_isIn [] ⟨rfl, rfl⟩ ⟨Nat.le_of_ble_eq_true rfl, Nat.le_of_ble_eq_true rfl⟩ ⟨Nat.zero_le _, Nat.zero_le _⟩ rfl rfl (by decide +kernel) (k_rp rfl (by decide +kernel)) rfl rfl (Nat.le_of_ble_eq_true rfl) dX12_then_10 rfl (fun H locs hP hD hS => ?_)
    refine lv_if_ne (tgt := 18) hx hb dX12_then_13 (by decide) (fun c13 => ?_) (fun c13 => ?_)
    · have h := k_neg c13 h
      refine lv_aload_n hx hb dX12_then_18 rfl (lv_at hl 0 rfl) ?_
      refine lv_iload_n hx hb dX12_then_19 rfl (lv_at hl 1 rfl) ?_
      obtain ⟨r20, g20, h⟩ := k_bind h
      refine k_callV (As := [.int x1]) (rest := []) (st1 := []) (ws2 := (Wd49 cI aR q_hasImage q_place q_rowAt q_rowEnd q_seed q_thrown q_s r20)) hx hb hml hown hts hK hN hA hP hD hS hl (c_MD_takes l D cI cM cS cJ aR H.size x1 q_hasImage q_place q_rowAt q_rowEnd q_seed q_thrown q_s q_m g20) gX12_then_X12_takes rfl kdV_X12_takes 0 12 rfl rfl rfl [0, 1, 2] ⟨rfl, rfl⟩ ⟨Nat.le_of_ble_eq_true rfl, Nat.le_of_ble_eq_true rfl⟩ ⟨Nat.zero_le _, Nat.zero_le _⟩ rfl rfl (by decide +kernel) (k_rp rfl (by decide +kernel)) rfl rfl (Nat.le_of_ble_eq_true rfl) dX12_then_20 rfl (fun H locs hP hD hS => ?_)
      refine lv_iload_n hx hb dX12_then_23 rfl (lv_at hl 2 rfl) ?_
      refine lv_iconst (v := 3) hx hb dX12_then_24 (by decide) ?_
      refine lv_icmp_ne (tgt := 38) hx hb dX12_then_25 (by decide) (fun c25 => ?_) (fun c25 => ?_)
      · have h := k_neg c25 h
        refine lv_aload_n hx hb dX12_then_38 rfl (lv_at hl 0 rfl) ?_
        refine va_get (D := D) (ci := 12) (v := .ref (aR 2)) (C := RX12) (T := TX12) (N := 18) hx hb hts hiX12 hown hK hP 0 rfl rfl 1 (by decide) hf13 (fun _ z => z) rfl dX12_then_39 ?_
        refine lv_iconst (v := 2) hx hb dX12_then_42 (by decide) ?_
        refine lv_iload_n hx hb dX12_then_43 rfl (lv_at hl 2 rfl) ?_
        refine lv_iadd hx hb dX12_then_44 ?_
        obtain ⟨g45, h⟩ := k_guard h
        refine va_iald hx hb hK hP 2 0 rfl rfl g45 dX12_then_45 ?_
        have h := Option.some.inj h; subst h
        exact hret _ _ _ _ hP hS dX12_then_46
      · have h := k_pos c25 h
        refine lv_aload_n hx hb dX12_then_28 rfl (lv_at hl 0 rfl) ?_
        refine va_get (D := D) (ci := 12) (v := .ref (aR 2)) (C := RX12) (T := TX12) (N := 18) hx hb hts hiX12 hown hK hP 0 rfl rfl 1 (by decide) hf13 (fun _ z => z) rfl dX12_then_29 ?_
        obtain ⟨r32, g32, h⟩ := k_bind h
        refine k_callS (As := [.ref (aR 2)]) (rest := []) (st1 := [.int r32]) (ws2 := (Wd49 cI aR q_hasImage q_place q_rowAt q_rowEnd q_seed q_thrown q_s r20)) hx hb hml hown hts hK hN hA hP hD hS hl (c_MD_upright l D cI cM cS cJ (aR 2) H.size r20 g32) gX12_then_X12_upright rfl kdS_X12_upright [2] ⟨rfl, rfl⟩ ⟨Nat.le_of_ble_eq_true rfl, Nat.le_of_ble_eq_true rfl⟩ ⟨Nat.zero_le _, Nat.zero_le _⟩ rfl rfl (by decide +kernel) (k_rp rfl (by decide +kernel)) rfl rfl (Nat.le_of_ble_eq_true rfl) dX12_then_32 rfl (fun H locs hP hD hS => ?_)
        refine lv_goto (tgt := 46) hx hb dX12_then_35 (by decide) ?_
        have h := Option.some.inj h; subst h
        exact hret _ _ _ _ hP hS dX12_then_46
    · have h := k_pos c13 h
      refine lv_iconst (v := (-1)) hx hb dX12_then_16 (by decide) ?_
      have h := Option.some.inj h; subst h
      exact hret _ _ _ _ hP hS dX12_then_17
