def S_MD_toss (x1 : Int32) (q_kept : Nat → Int32) (q_keptKind : Nat → Int32) (q_keptFigure : Nat → Int32) : Option ((Int32)) :=
  ((S_MD_wrongKept x1 q_kept).bind (fun r2 => (if r2 = 0 then (if x1 < 0 ∨ 8 ≤ x1.toNatClampNeg then none else (if (q_keptKind x1.toNatClampNeg) = 2 then some (-15) else (if (q_keptKind x1.toNatClampNeg) = 5 then some (-15) else (if (q_keptFigure x1.toNatClampNeg) = 0 then some (-15) else (if (q_keptKind x1.toNatClampNeg) = 6 then some ((200 : Int32) + (S_MD_costBy (q_keptKind x1.toNatClampNeg) (q_keptFigure x1.toNatClampNeg))) else (if (q_keptKind x1.toNatClampNeg) = 1 then some ((100 : Int32) + (q_keptFigure x1.toNatClampNeg)) else (if (q_keptKind x1.toNatClampNeg) = 4 then some ((100 : Int32) + (q_keptFigure x1.toNatClampNeg)) else some (q_keptFigure x1.toNatClampNeg)))))))) else some r2)))
abbrev rm_X12_toss : Room := { frames := 3, cells := 0, slots := 0, locals := 63 }
set_option maxHeartbeats 4000000 in
set_option maxRecDepth 100000 in
theorem c_MD_toss (l : Launch) (D : va_G) (cI cM cS cJ : ClassId) (aR : Nat → Nat) (sz : Nat) (x1 : Int32) (q_hasImage : Int32) (q_place : Int32) (q_rowAt : Int32) (q_rowEnd : Int32) (q_seed : Int32) (q_thrown : Int32) (q_kept : Nat → Int32) (q_keptKind : Nat → Int32) (q_keptFigure : Nat → Int32) {o : (Int32)} (hsem : S_MD_toss x1 q_kept q_keptKind q_keptFigure = some o) : kMet l yX12_toss wsX12_toss rm_X12_toss [.ref (aR 0), .int x1] D (kT cI cM cS cJ) (Wd59 cI aR q_hasImage q_place q_rowAt q_rowEnd q_seed q_thrown q_kept q_keptKind q_keptFigure) sz (some (.int o)) (Wd59 cI aR q_hasImage q_place q_rowAt q_rowEnd q_seed q_thrown q_kept q_keptKind q_keptFigure) := by
  refine k_metI (by decide) rfl rfl (Nat.le_of_ble_eq_true rfl) ?_
  intro p e s m below meth c ls Q A hx hb hml hts hown hK hN hA hP hD hS hl hsz hnm hret
  have hown : s.vm.findClass RX12 = some m.cls := hown
  have hf31 := hts (.fieldLink RX12 31 "PlumbLineModel" "keptKind" "[I") (List.mem_of_getElem? (i := 1) rfl)
  have hf34 := hts (.fieldLink RX12 34 "PlumbLineModel" "keptFigure" "[I") (List.mem_of_getElem? (i := 2) rfl)
  have hiX12 : ∀ w ∈ u_ws RX12 TX12 18, w ∈ wsX12_toss := fun w h => List.mem_cons_of_mem _ (List.mem_append_right _ h)
  replace hl : lv_has ls 5 [(0, .ref (aR 0)), (1, .int x1)] := hl
  have h := hsem
  clear hsem
  rw [S_MD_toss] at h
  refine lv_aload_n hx hb dX12_toss_0 rfl (lv_at hl 0 rfl) ?_
  refine lv_iload_n hx hb dX12_toss_1 rfl (lv_at hl 1 rfl) ?_
  obtain ⟨r2, g2, h⟩ := k_bind h
  refine k_callV (As := [.int x1]) (rest := []) (st1 := [.int r2]) (ws2 := (Wd59 cI aR q_hasImage q_place q_rowAt q_rowEnd q_seed q_thrown q_kept q_keptKind q_keptFigure)) hx hb hml hown hts hK hN hA hP hD hS hl (c_MD_wrongKept l D cI cM cS cJ aR s.heap.size x1 q_hasImage q_place q_rowAt q_rowEnd q_seed q_thrown q_kept g2) gX12_toss_X12_wrongKept rfl kdV_X12_wrongKept 0 12 rfl rfl rfl [0, 1] ⟨rfl, rfl⟩ ⟨Nat.le_of_ble_eq_true rfl, Nat.le_of_ble_eq_true rfl⟩ ⟨Nat.zero_le _, Nat.zero_le _⟩ rfl rfl (by decide +kernel) (k_rp rfl (by decide +kernel)) rfl rfl (Nat.le_of_ble_eq_true rfl) dX12_toss_2 rfl (fun H locs hP hD hS => ?_)
  refine lv_istore_n (lv' := [(2, .int r2), (0, .ref (aR 0)), (1, .int x1)]) hx hb dX12_toss_5 rfl hl (by decide) rfl (fun ls hl => ?_)
  refine lv_iload_n hx hb dX12_toss_6 rfl (lv_at hl 0 rfl) ?_
  refine lv_if_eq (tgt := 12) hx hb dX12_toss_7 (by decide) (fun c7 => ?_) (fun c7 => ?_)
  · have h := k_pos c7 h
    refine lv_aload_n hx hb dX12_toss_12 rfl (lv_at hl 1 rfl) ?_
    refine va_get (D := D) (ci := 12) (v := .ref (aR 8)) (C := RX12) (T := TX12) (N := 18) hx hb hts hiX12 hown hK hP 0 rfl rfl 12 (by decide) hf31 (fun _ z => z) rfl dX12_toss_13 ?_
    refine lv_iload_n hx hb dX12_toss_16 rfl (lv_at hl 2 rfl) ?_
    obtain ⟨g17, h⟩ := k_guard h
    refine va_iald hx hb hK hP 2 0 rfl rfl g17 dX12_toss_17 ?_
    refine lv_istore_n (lv' := [(3, .int (q_keptKind x1.toNatClampNeg)), (2, .int r2), (0, .ref (aR 0)), (1, .int x1)]) hx hb dX12_toss_18 rfl hl (by decide) rfl (fun ls hl => ?_)
    refine lv_aload_n hx hb dX12_toss_19 rfl (lv_at hl 2 rfl) ?_
    refine va_get (D := D) (ci := 12) (v := .ref (aR 9)) (C := RX12) (T := TX12) (N := 18) hx hb hts hiX12 hown hK hP 0 rfl rfl 13 (by decide) hf34 (fun _ z => z) rfl dX12_toss_20 ?_
    refine lv_iload_n hx hb dX12_toss_23 rfl (lv_at hl 3 rfl) ?_
    refine va_iald hx hb hK hP 3 0 rfl rfl g17 dX12_toss_24 ?_
    refine lv_istore (lv' := [(4, .int (q_keptFigure x1.toNatClampNeg)), (3, .int (q_keptKind x1.toNatClampNeg)), (2, .int r2), (0, .ref (aR 0)), (1, .int x1)]) hx hb dX12_toss_25 hl (by decide) rfl (fun ls hl => ?_)
    refine lv_iload_n hx hb dX12_toss_27 rfl (lv_at hl 1 rfl) ?_
    refine lv_iconst (v := 2) hx hb dX12_toss_28 (by decide) ?_
    refine lv_icmp_eq (tgt := 42) hx hb dX12_toss_29 (by decide) (fun c29 => ?_) (fun c29 => ?_)
    · have h := k_pos c29 h
      refine lv_bipush (v := (-15)) hx hb dX12_toss_42 (by decide) ?_
      have h := Option.some.inj h; subst h
      exact hret _ _ _ _ hP hS dX12_toss_44
    · have h := k_neg c29 h
      refine lv_iload_n hx hb dX12_toss_32 rfl (lv_at hl 1 rfl) ?_
      refine lv_iconst (v := 5) hx hb dX12_toss_33 (by decide) ?_
      refine lv_icmp_eq (tgt := 42) hx hb dX12_toss_34 (by decide) (fun c34 => ?_) (fun c34 => ?_)
      · have h := k_pos c34 h
        refine lv_bipush (v := (-15)) hx hb dX12_toss_42 (by decide) ?_
        have h := Option.some.inj h; subst h
        exact hret _ _ _ _ hP hS dX12_toss_44
      · have h := k_neg c34 h
        refine lv_iload hx hb dX12_toss_37 (lv_at hl 0 rfl) ?_
        refine lv_if_ne (tgt := 45) hx hb dX12_toss_39 (by decide) (fun c39 => ?_) (fun c39 => ?_)
        · have h := k_neg c39 h
          refine lv_iload_n hx hb dX12_toss_45 rfl (lv_at hl 1 rfl) ?_
          refine lv_bipush (v := 6) hx hb dX12_toss_46 (by decide) ?_
          refine lv_icmp_ne (tgt := 64) hx hb dX12_toss_48 (by decide) (fun c48 => ?_) (fun c48 => ?_)
          · have h := k_neg c48 h
            refine lv_iload_n hx hb dX12_toss_64 rfl (lv_at hl 1 rfl) ?_
            refine lv_iconst (v := 1) hx hb dX12_toss_65 (by decide) ?_
            refine lv_icmp_eq (tgt := 74) hx hb dX12_toss_66 (by decide) (fun c66 => ?_) (fun c66 => ?_)
            · have h := k_pos c66 h
              refine lv_bipush (v := 100) hx hb dX12_toss_74 (by decide) ?_
              refine lv_iload hx hb dX12_toss_76 (lv_at hl 0 rfl) ?_
              refine lv_iadd hx hb dX12_toss_78 ?_
              refine lv_goto (tgt := 84) hx hb dX12_toss_79 (by decide) ?_
              have h := Option.some.inj h; subst h
              exact hret _ _ _ _ hP hS dX12_toss_84
            · have h := k_neg c66 h
              refine lv_iload_n hx hb dX12_toss_69 rfl (lv_at hl 1 rfl) ?_
              refine lv_iconst (v := 4) hx hb dX12_toss_70 (by decide) ?_
              refine lv_icmp_ne (tgt := 82) hx hb dX12_toss_71 (by decide) (fun c71 => ?_) (fun c71 => ?_)
              · have h := k_neg c71 h
                refine lv_iload hx hb dX12_toss_82 (lv_at hl 0 rfl) ?_
                have h := Option.some.inj h; subst h
                exact hret _ _ _ _ hP hS dX12_toss_84
              · have h := k_pos c71 h
                refine lv_bipush (v := 100) hx hb dX12_toss_74 (by decide) ?_
                refine lv_iload hx hb dX12_toss_76 (lv_at hl 0 rfl) ?_
                refine lv_iadd hx hb dX12_toss_78 ?_
                refine lv_goto (tgt := 84) hx hb dX12_toss_79 (by decide) ?_
                have h := Option.some.inj h; subst h
                exact hret _ _ _ _ hP hS dX12_toss_84
          · have h := k_pos c48 h
            refine lv_sipush (v := 200) hx hb dX12_toss_51 (by decide) ?_
            refine lv_iload_n hx hb dX12_toss_54 rfl (lv_at hl 1 rfl) ?_
            refine lv_iload hx hb dX12_toss_55 (lv_at hl 0 rfl) ?_
            refine k_callS (As := [.int (q_keptKind x1.toNatClampNeg), .int (q_keptFigure x1.toNatClampNeg)]) (rest := [.int 200]) (st1 := [.int (S_MD_costBy (q_keptKind x1.toNatClampNeg) (q_keptFigure x1.toNatClampNeg)), .int 200]) (ws2 := (Wd59 cI aR q_hasImage q_place q_rowAt q_rowEnd q_seed q_thrown q_kept q_keptKind q_keptFigure)) hx hb hml hown hts hK hN hA hP hD hS hl (c_MD_costBy l D cI cM cS cJ H.size (q_keptKind x1.toNatClampNeg) (q_keptFigure x1.toNatClampNeg) rfl) gX12_toss_X12_costBy rfl kdS_X12_costBy [] ⟨rfl, rfl⟩ ⟨Nat.le_of_ble_eq_true rfl, Nat.le_of_ble_eq_true rfl⟩ ⟨Nat.zero_le _, Nat.zero_le _⟩ rfl rfl (by decide +kernel) (k_rp rfl (by decide +kernel)) rfl rfl (Nat.le_of_ble_eq_true rfl) dX12_toss_57 rfl (fun H locs hP hD hS => ?_)
            refine lv_iadd hx hb dX12_toss_60 ?_
            refine lv_goto (tgt := 84) hx hb dX12_toss_61 (by decide) ?_
            have h := Option.some.inj h; subst h
            exact hret _ _ _ _ hP hS dX12_toss_84
        · have h := k_pos c39 h
          refine lv_bipush (v := (-15)) hx hb dX12_toss_42 (by decide) ?_
          have h := Option.some.inj h; subst h
          exact hret _ _ _ _ hP hS dX12_toss_44
  · have h := k_neg c7 h
    refine lv_iload_n hx hb dX12_toss_10 rfl (lv_at hl 0 rfl) ?_
    have h := Option.some.inj h; subst h
    exact hret _ _ _ _ hP hS dX12_toss_11
