abbrev Wd52 (cI : ClassId) (aR : Nat → Nat) (q_hasImage : Int32) (q_place : Int32) (q_rowAt : Int32) (q_rowEnd : Int32) (q_seed : Int32) (q_thrown : Int32) (q_s : Nat → Int32) (q_chain : Nat → Int32) : va_W := [((aR 0), .inr (12, [.ref (aR 1), .ref (aR 2), .ref (aR 3), .ref (aR 4), .int q_hasImage, .int q_place, .int q_rowAt, .int q_rowEnd, .ref (aR 5), .ref (aR 6), .int q_seed, .ref (aR 7), .ref (aR 8), .ref (aR 9), .ref (aR 10), .ref (aR 11), .ref (aR 12), .int q_thrown])), ((aR 1), .inl (cI, 37, .inl q_s)), ((aR 6), .inl (cI, 8, .inl q_chain))]
abbrev rm_X12_walls : Room := { frames := 1, cells := 0, slots := 0, locals := 21 }
set_option maxHeartbeats 4000000 in
set_option maxRecDepth 100000 in
theorem c_MD_walls (l : Launch) (D : va_G) (cI cM cS cJ : ClassId) (aR : Nat → Nat) (sz : Nat) (q_hasImage : Int32) (q_place : Int32) (q_rowAt : Int32) (q_rowEnd : Int32) (q_seed : Int32) (q_thrown : Int32) (q_s : Nat → Int32) (q_chain : Nat → Int32) {o : (Int32) × (Nat → Int32)} (hsem : S_MD_walls q_s q_chain = some o) : kMet l yX12_walls wsX12_walls rm_X12_walls [.ref (aR 0)] D (kT cI cM cS cJ) (Wd52 cI aR q_hasImage q_place q_rowAt q_rowEnd q_seed q_thrown q_s q_chain) sz (some (.int o.1)) (Wd52 cI aR q_hasImage q_place q_rowAt q_rowEnd q_seed q_thrown q_s o.2) := by
  refine k_metI (by decide) rfl rfl (Nat.le_of_ble_eq_true rfl) ?_
  intro p e s m below meth c ls Q A hx hb hml hts hown hK hN hA hP hD hS hl hsz hnm hret
  have hown : s.vm.findClass RX12 = some m.cls := hown
  have hf9 := hts (.fieldLink RX12 9 "PlumbLineModel" "s" "[I") (List.mem_of_getElem? (i := 1) rfl)
  have hf25 := hts (.fieldLink RX12 25 "PlumbLineModel" "chain" "[I") (List.mem_of_getElem? (i := 2) rfl)
  have hiX12 : ∀ w ∈ u_ws RX12 TX12 18, w ∈ wsX12_walls := fun w h => List.mem_cons_of_mem _ (List.mem_append_right _ h)
  replace hl : lv_has ls 4 [(0, .ref (aR 0))] := hl
  have h := hsem
  clear hsem
  rw [S_MD_walls] at h
  refine lv_bipush (v := (-4)) hx hb dX12_walls_0 (by decide) ?_
  refine lv_istore_n (lv' := [(1, .int (-4)), (0, .ref (aR 0))]) hx hb dX12_walls_2 rfl hl (by decide) rfl (fun ls hl => ?_)
  refine lv_iconst (v := 0) hx hb dX12_walls_3 (by decide) ?_
  have B5 : ∀ (n5 : Nat) (y1 : Int32) (y2 : Int32) (q_chain : Nat → Int32) (H : Heap) (locs : List Loc) (ls : Array Slot), va_P D vwCl (Wd52 cI aR q_hasImage q_place q_rowAt q_rowEnd q_seed q_thrown q_s q_chain) H → va_D A (Wd52 cI aR q_hasImage q_place q_rowAt q_rowEnd q_seed q_thrown q_s q_chain) → va_S A s.heap H locs → lv_has ls 4 [(0, .ref (aR 0)), (1, .int y1), (2, .int y2)] → S_MD_walls_L5 q_s n5 y1 y2 q_chain = some o → W p l e rm_X12_walls s m ([.ref (aR 0)] : List Value).toArray below meth c H locs 0 0 Q (F0 m 5 ls []) := by
    intro n5
    induction n5 with
    | zero => intro y1 y2 q_chain H locs ls hP hD hS hl h; exact absurd h (by simp [S_MD_walls_L5])
    | succ n5 ih5 =>
      intro y1 y2 q_chain H locs ls hP hD hS hl h
      rw [S_MD_walls_L5] at h
      refine lv_iload_n hx hb dX12_walls_5 rfl (lv_at hl 2 rfl) ?_
      refine lv_aload_n hx hb dX12_walls_6 rfl (lv_at hl 0 rfl) ?_
      refine va_get (D := D) (ci := 12) (v := .ref (aR 1)) (C := RX12) (T := TX12) (N := 18) hx hb hts hiX12 hown hK hP 0 rfl rfl 0 (by decide) hf9 (fun _ z => z) rfl dX12_walls_7 ?_
      refine lv_iconst (v := 0) hx hb dX12_walls_10 (by decide) ?_
      refine va_iald hx hb hK hP 1 0 rfl rfl (show ¬ ((0 : Int32) < 0 ∨ 37 ≤ (0 : Int32).toNatClampNeg) by decide) dX12_walls_11 ?_
      refine lv_icmp_ge (tgt := 116) hx hb dX12_walls_12 (by decide) (fun c12 => ?_) (fun c12 => ?_)
      · have h := k_pos c12 h
        refine lv_iload_n hx hb dX12_walls_116 rfl (lv_at hl 1 rfl) ?_
        have h := Option.some.inj h; subst h
        exact hret _ _ _ _ hP hS dX12_walls_117
      · have h := k_neg c12 h
        refine lv_aload_n hx hb dX12_walls_15 rfl (lv_at hl 0 rfl) ?_
        refine va_get (D := D) (ci := 12) (v := .ref (aR 6)) (C := RX12) (T := TX12) (N := 18) hx hb hts hiX12 hown hK hP 0 rfl rfl 9 (by decide) hf25 (fun _ z => z) rfl dX12_walls_16 ?_
        refine lv_iload_n hx hb dX12_walls_19 rfl (lv_at hl 2 rfl) ?_
        refine lv_iconst (v := 1) hx hb dX12_walls_20 (by decide) ?_
        obtain ⟨g21, h⟩ := k_guard h
        refine va_iast hx hb hK hP hD hS 2 0 rfl rfl g21 dX12_walls_21 (fun H locs hP hD hS => ?_)
        replace hP : va_P D vwCl (Wd52 cI aR q_hasImage q_place q_rowAt q_rowEnd q_seed q_thrown q_s (upd q_chain y2.toNatClampNeg 1)) H := hP
        replace hD : va_D A (Wd52 cI aR q_hasImage q_place q_rowAt q_rowEnd q_seed q_thrown q_s (upd q_chain y2.toNatClampNeg 1)) := hD
        refine lv_iconst (v := 0) hx hb dX12_walls_22 (by decide) ?_
        have B24 : ∀ (y1 : Int32) (y2 : Int32) (n24 : Nat) (y3 : Int32) (q_chain : Nat → Int32) (H : Heap) (locs : List Loc) (ls : Array Slot), va_P D vwCl (Wd52 cI aR q_hasImage q_place q_rowAt q_rowEnd q_seed q_thrown q_s q_chain) H → va_D A (Wd52 cI aR q_hasImage q_place q_rowAt q_rowEnd q_seed q_thrown q_s q_chain) → va_S A s.heap H locs → lv_has ls 4 [(0, .ref (aR 0)), (1, .int y1), (2, .int y2), (3, .int y3)] → S_MD_walls_L24 (S_MD_walls_L5 q_s n5) y1 y2 q_s n24 y3 q_chain = some o → W p l e rm_X12_walls s m ([.ref (aR 0)] : List Value).toArray below meth c H locs 0 0 Q (F0 m 24 ls []) := by
          intro y1 y2
          intro n24
          induction n24 with
          | zero => intro y3 q_chain H locs ls hP hD hS hl h; exact absurd h (by simp [S_MD_walls_L24])
          | succ n24 ih24 =>
            intro y3 q_chain H locs ls hP hD hS hl h
            rw [S_MD_walls_L24] at h
            refine lv_iload_n hx hb dX12_walls_24 rfl (lv_at hl 3 rfl) ?_
            refine lv_iload_n hx hb dX12_walls_25 rfl (lv_at hl 2 rfl) ?_
            refine lv_icmp_ge (tgt := 89) hx hb dX12_walls_26 (by decide) (fun c26 => ?_) (fun c26 => ?_)
            · have h := k_pos c26 h
              refine lv_aload_n hx hb dX12_walls_89 rfl (lv_at hl 0 rfl) ?_
              refine va_get (D := D) (ci := 12) (v := .ref (aR 6)) (C := RX12) (T := TX12) (N := 18) hx hb hts hiX12 hown hK hP 0 rfl rfl 9 (by decide) hf25 (fun _ z => z) rfl dX12_walls_90 ?_
              refine lv_iload_n hx hb dX12_walls_93 rfl (lv_at hl 2 rfl) ?_
              obtain ⟨g94, h⟩ := k_guard h
              refine va_iald hx hb hK hP 2 0 rfl rfl g94 dX12_walls_94 ?_
              refine lv_iload_n hx hb dX12_walls_95 rfl (lv_at hl 1 rfl) ?_
              refine lv_icmp_le (tgt := 108) hx hb dX12_walls_96 (by decide) (fun c96 => ?_) (fun c96 => ?_)
              · have h := k_pos c96 h
                refine lv_iload_n hx hb dX12_walls_108 rfl (lv_at hl 1 rfl) ?_
                refine lv_istore_n (lv' := [(1, .int y1), (0, .ref (aR 0)), (2, .int y2), (3, .int y3)]) hx hb dX12_walls_109 rfl hl (by decide) rfl (fun ls hl => ?_)
                refine lv_iinc (v := (y2 + 1)) (lv' := [(2, .int (y2 + 1)), (1, .int y1), (0, .ref (aR 0)), (3, .int y3)]) hx hb dX12_walls_110 hl (k := 2) rfl (by first | rfl | decide) (by decide) rfl (fun ls hl => ?_)
                refine lv_goto (tgt := 5) hx hb dX12_walls_113 (by decide) ?_
                exact ih5 y1 (y2 + 1) q_chain H locs ls hP hD hS (lv_sub hl [2, 1, 0] rfl) h
              · have h := k_neg c96 h
                refine lv_aload_n hx hb dX12_walls_99 rfl (lv_at hl 0 rfl) ?_
                refine va_get (D := D) (ci := 12) (v := .ref (aR 6)) (C := RX12) (T := TX12) (N := 18) hx hb hts hiX12 hown hK hP 0 rfl rfl 9 (by decide) hf25 (fun _ z => z) rfl dX12_walls_100 ?_
                refine lv_iload_n hx hb dX12_walls_103 rfl (lv_at hl 2 rfl) ?_
                refine va_iald hx hb hK hP 2 0 rfl rfl g94 dX12_walls_104 ?_
                refine lv_goto (tgt := 109) hx hb dX12_walls_105 (by decide) ?_
                refine lv_istore_n (lv' := [(1, .int (q_chain y2.toNatClampNeg)), (0, .ref (aR 0)), (2, .int y2), (3, .int y3)]) hx hb dX12_walls_109 rfl hl (by decide) rfl (fun ls hl => ?_)
                refine lv_iinc (v := (y2 + 1)) (lv' := [(2, .int (y2 + 1)), (1, .int (q_chain y2.toNatClampNeg)), (0, .ref (aR 0)), (3, .int y3)]) hx hb dX12_walls_110 hl (k := 2) rfl (by first | rfl | decide) (by decide) rfl (fun ls hl => ?_)
                refine lv_goto (tgt := 5) hx hb dX12_walls_113 (by decide) ?_
                exact ih5 (q_chain y2.toNatClampNeg) (y2 + 1) q_chain H locs ls hP hD hS (lv_sub hl [2, 1, 0] rfl) h
            · have h := k_neg c26 h
              refine lv_aload_n hx hb dX12_walls_29 rfl (lv_at hl 0 rfl) ?_
              refine va_get (D := D) (ci := 12) (v := .ref (aR 1)) (C := RX12) (T := TX12) (N := 18) hx hb hts hiX12 hown hK hP 0 rfl rfl 0 (by decide) hf9 (fun _ z => z) rfl dX12_walls_30 ?_
              refine lv_iload_n hx hb dX12_walls_33 rfl (lv_at hl 3 rfl) ?_
              refine lv_iconst (v := 2) hx hb dX12_walls_34 (by decide) ?_
              refine k_callS (As := [.int y3, .int 2]) (rest := [.ref (aR 1)]) (st1 := [.int (S_MD_of y3 2), .ref (aR 1)]) (ws2 := (Wd52 cI aR q_hasImage q_place q_rowAt q_rowEnd q_seed q_thrown q_s q_chain)) hx hb hml hown hts hK hN hA hP hD hS hl (c_MD_of l D cI cM cS cJ H.size y3 2 rfl) gX12_walls_X12_of rfl kdS_X12_of [] ⟨rfl, rfl⟩ ⟨Nat.le_of_ble_eq_true rfl, Nat.le_of_ble_eq_true rfl⟩ ⟨Nat.zero_le _, Nat.zero_le _⟩ rfl rfl (by decide +kernel) (k_rp rfl (by decide +kernel)) rfl rfl (Nat.le_of_ble_eq_true rfl) dX12_walls_35 rfl (fun H locs hP hD hS => ?_)
              obtain ⟨g38, h⟩ := k_guard h
              refine va_iald hx hb hK hP 1 0 rfl rfl g38 dX12_walls_38 ?_
              refine lv_aload_n hx hb dX12_walls_39 rfl (lv_at hl 0 rfl) ?_
              refine va_get (D := D) (ci := 12) (v := .ref (aR 1)) (C := RX12) (T := TX12) (N := 18) hx hb hts hiX12 hown hK hP 0 rfl rfl 0 (by decide) hf9 (fun _ z => z) rfl dX12_walls_40 ?_
              refine lv_iload_n hx hb dX12_walls_43 rfl (lv_at hl 2 rfl) ?_
              refine lv_iconst (v := 2) hx hb dX12_walls_44 (by decide) ?_
              refine k_callS (As := [.int y2, .int 2]) (rest := [.ref (aR 1), .int (q_s (S_MD_of y3 2).toNatClampNeg)]) (st1 := [.int (S_MD_of y2 2), .ref (aR 1), .int (q_s (S_MD_of y3 2).toNatClampNeg)]) (ws2 := (Wd52 cI aR q_hasImage q_place q_rowAt q_rowEnd q_seed q_thrown q_s q_chain)) hx hb hml hown hts hK hN hA hP hD hS hl (c_MD_of l D cI cM cS cJ H.size y2 2 rfl) gX12_walls_X12_of rfl kdS_X12_of [] ⟨rfl, rfl⟩ ⟨Nat.le_of_ble_eq_true rfl, Nat.le_of_ble_eq_true rfl⟩ ⟨Nat.zero_le _, Nat.zero_le _⟩ rfl rfl (by decide +kernel) (k_rp rfl (by decide +kernel)) rfl rfl (Nat.le_of_ble_eq_true rfl) dX12_walls_45 rfl (fun H locs hP hD hS => ?_)
              obtain ⟨g48, h⟩ := k_guard h
              refine va_iald hx hb hK hP 1 0 rfl rfl g48 dX12_walls_48 ?_
              refine lv_icmp_gt (tgt := 83) hx hb dX12_walls_49 (by decide) (fun c49 => ?_) (fun c49 => ?_)
              · have h := k_pos c49 h
                refine lv_iinc (v := (y3 + 1)) (lv' := [(3, .int (y3 + 1)), (0, .ref (aR 0)), (1, .int y1), (2, .int y2)]) hx hb dX12_walls_83 hl (k := 3) rfl (by first | rfl | decide) (by decide) rfl (fun ls hl => ?_)
                refine lv_goto (tgt := 24) hx hb dX12_walls_86 (by decide) ?_
                exact ih24 (y3 + 1) q_chain H locs ls hP hD hS (lv_sub hl [1, 2, 3, 0] rfl) h
              · have h := k_neg c49 h
                refine lv_aload_n hx hb dX12_walls_52 rfl (lv_at hl 0 rfl) ?_
                refine va_get (D := D) (ci := 12) (v := .ref (aR 6)) (C := RX12) (T := TX12) (N := 18) hx hb hts hiX12 hown hK hP 0 rfl rfl 9 (by decide) hf25 (fun _ z => z) rfl dX12_walls_53 ?_
                refine lv_iload_n hx hb dX12_walls_56 rfl (lv_at hl 3 rfl) ?_
                obtain ⟨g57, h⟩ := k_guard h
                refine va_iald hx hb hK hP 2 0 rfl rfl g57 dX12_walls_57 ?_
                refine lv_iconst (v := 1) hx hb dX12_walls_58 (by decide) ?_
                refine lv_iadd hx hb dX12_walls_59 ?_
                refine lv_aload_n hx hb dX12_walls_60 rfl (lv_at hl 0 rfl) ?_
                refine va_get (D := D) (ci := 12) (v := .ref (aR 6)) (C := RX12) (T := TX12) (N := 18) hx hb hts hiX12 hown hK hP 0 rfl rfl 9 (by decide) hf25 (fun _ z => z) rfl dX12_walls_61 ?_
                refine lv_iload_n hx hb dX12_walls_64 rfl (lv_at hl 2 rfl) ?_
                obtain ⟨g65, h⟩ := k_guard h
                refine va_iald hx hb hK hP 2 0 rfl rfl g65 dX12_walls_65 ?_
                refine lv_icmp_le (tgt := 83) hx hb dX12_walls_66 (by decide) (fun c66 => ?_) (fun c66 => ?_)
                · have h := k_pos c66 h
                  refine lv_iinc (v := (y3 + 1)) (lv' := [(3, .int (y3 + 1)), (0, .ref (aR 0)), (1, .int y1), (2, .int y2)]) hx hb dX12_walls_83 hl (k := 3) rfl (by first | rfl | decide) (by decide) rfl (fun ls hl => ?_)
                  refine lv_goto (tgt := 24) hx hb dX12_walls_86 (by decide) ?_
                  exact ih24 (y3 + 1) q_chain H locs ls hP hD hS (lv_sub hl [1, 2, 3, 0] rfl) h
                · have h := k_neg c66 h
                  refine lv_aload_n hx hb dX12_walls_69 rfl (lv_at hl 0 rfl) ?_
                  refine va_get (D := D) (ci := 12) (v := .ref (aR 6)) (C := RX12) (T := TX12) (N := 18) hx hb hts hiX12 hown hK hP 0 rfl rfl 9 (by decide) hf25 (fun _ z => z) rfl dX12_walls_70 ?_
                  refine lv_iload_n hx hb dX12_walls_73 rfl (lv_at hl 2 rfl) ?_
                  refine lv_aload_n hx hb dX12_walls_74 rfl (lv_at hl 0 rfl) ?_
                  refine va_get (D := D) (ci := 12) (v := .ref (aR 6)) (C := RX12) (T := TX12) (N := 18) hx hb hts hiX12 hown hK hP 0 rfl rfl 9 (by decide) hf25 (fun _ z => z) rfl dX12_walls_75 ?_
                  refine lv_iload_n hx hb dX12_walls_78 rfl (lv_at hl 3 rfl) ?_
                  refine va_iald hx hb hK hP 2 0 rfl rfl g57 dX12_walls_79 ?_
                  refine lv_iconst (v := 1) hx hb dX12_walls_80 (by decide) ?_
                  refine lv_iadd hx hb dX12_walls_81 ?_
                  refine va_iast hx hb hK hP hD hS 2 0 rfl rfl g65 dX12_walls_82 (fun H locs hP hD hS => ?_)
                  replace hP : va_P D vwCl (Wd52 cI aR q_hasImage q_place q_rowAt q_rowEnd q_seed q_thrown q_s (upd q_chain y2.toNatClampNeg ((q_chain y3.toNatClampNeg) + 1))) H := hP
                  replace hD : va_D A (Wd52 cI aR q_hasImage q_place q_rowAt q_rowEnd q_seed q_thrown q_s (upd q_chain y2.toNatClampNeg ((q_chain y3.toNatClampNeg) + 1))) := hD
                  refine lv_iinc (v := (y3 + 1)) (lv' := [(3, .int (y3 + 1)), (0, .ref (aR 0)), (1, .int y1), (2, .int y2)]) hx hb dX12_walls_83 hl (k := 3) rfl (by first | rfl | decide) (by decide) rfl (fun ls hl => ?_)
                  refine lv_goto (tgt := 24) hx hb dX12_walls_86 (by decide) ?_
                  exact ih24 (y3 + 1) (upd q_chain y2.toNatClampNeg ((q_chain y3.toNatClampNeg) + 1)) H locs ls hP hD hS (lv_sub hl [1, 2, 3, 0] rfl) h
        refine lv_istore_n (lv' := [(3, .int 0), (0, .ref (aR 0)), (1, .int y1), (2, .int y2)]) hx hb dX12_walls_23 rfl hl (by decide) rfl (fun ls hl => ?_)
        exact B24 y1 y2 lfu 0 (upd q_chain y2.toNatClampNeg 1) H locs ls hP hD hS (lv_sub hl [1, 2, 3, 0] rfl) h
  refine lv_istore_n (lv' := [(2, .int 0), (1, .int (-4)), (0, .ref (aR 0))]) hx hb dX12_walls_4 rfl hl (by decide) rfl (fun ls hl => ?_)
  exact B5 lfu (-4) 0 q_chain s.heap [] ls hP hD hS (lv_sub hl [2, 1, 0] rfl) h
abbrev rm_X12_balance : Room := { frames := 1, cells := 0, slots := 0, locals := 22 }
set_option maxHeartbeats 4000000 in
set_option maxRecDepth 100000 in
theorem c_MD_balance (l : Launch) (D : va_G) (cI cM cS cJ : ClassId) (aR : Nat → Nat) (sz : Nat) (q_hasImage : Int32) (q_place : Int32) (q_rowAt : Int32) (q_rowEnd : Int32) (q_seed : Int32) (q_thrown : Int32) (q_s : Nat → Int32) {o : (Int32)} (hsem : S_MD_balance q_s = some o) : kMet l yX12_balance wsX12_balance rm_X12_balance [.ref (aR 0)] D (kT cI cM cS cJ) (Wd40 cI aR q_hasImage q_place q_rowAt q_rowEnd q_seed q_thrown q_s) sz (some (.int o)) (Wd40 cI aR q_hasImage q_place q_rowAt q_rowEnd q_seed q_thrown q_s) := by
  refine k_metI (by decide) rfl rfl (Nat.le_of_ble_eq_true rfl) ?_
  intro p e s m below meth c ls Q A hx hb hml hts hown hK hN hA hP hD hS hl hsz hnm hret
  have hown : s.vm.findClass RX12 = some m.cls := hown
  have hf9 := hts (.fieldLink RX12 9 "PlumbLineModel" "s" "[I") (List.mem_of_getElem? (i := 1) rfl)
  have hiX12 : ∀ w ∈ u_ws RX12 TX12 18, w ∈ wsX12_balance := fun w h => List.mem_cons_of_mem _ (List.mem_append_right _ h)
  replace hl : lv_has ls 5 [(0, .ref (aR 0))] := hl
  have h := hsem
  clear hsem
  rw [S_MD_balance] at h
  refine lv_iconst (v := 0) hx hb dX12_balance_0 (by decide) ?_
  refine lv_istore_n (lv' := [(1, .int 0), (0, .ref (aR 0))]) hx hb dX12_balance_1 rfl hl (by decide) rfl (fun ls hl => ?_)
  refine lv_iconst (v := 0) hx hb dX12_balance_2 (by decide) ?_
  have B4 : ∀ (n4 : Nat) (y1 : Int32) (y2 : Int32) (H : Heap) (locs : List Loc) (ls : Array Slot), va_P D vwCl (Wd40 cI aR q_hasImage q_place q_rowAt q_rowEnd q_seed q_thrown q_s) H → va_D A (Wd40 cI aR q_hasImage q_place q_rowAt q_rowEnd q_seed q_thrown q_s) → va_S A s.heap H locs → lv_has ls 5 [(0, .ref (aR 0)), (1, .int y1), (2, .int y2)] → S_MD_balance_L4 q_s n4 y1 y2 = some o → W p l e rm_X12_balance s m ([.ref (aR 0)] : List Value).toArray below meth c H locs 0 0 Q (F0 m 4 ls []) := by
    intro n4
    induction n4 with
    | zero => intro y1 y2 H locs ls hP hD hS hl h; exact absurd h (by simp [S_MD_balance_L4])
    | succ n4 ih4 =>
      intro y1 y2 H locs ls hP hD hS hl h
      rw [S_MD_balance_L4] at h
      refine lv_iload_n hx hb dX12_balance_4 rfl (lv_at hl 2 rfl) ?_
      refine lv_iconst (v := 1) hx hb dX12_balance_5 (by decide) ?_
      refine lv_aload_n hx hb dX12_balance_6 rfl (lv_at hl 0 rfl) ?_
      refine va_get (D := D) (ci := 12) (v := .ref (aR 1)) (C := RX12) (T := TX12) (N := 18) hx hb hts hiX12 hown hK hP 0 rfl rfl 0 (by decide) hf9 (fun _ z => z) rfl dX12_balance_7 ?_
      refine lv_iconst (v := 0) hx hb dX12_balance_10 (by decide) ?_
      refine va_iald hx hb hK hP 1 0 rfl rfl (show ¬ ((0 : Int32) < 0 ∨ 37 ≤ (0 : Int32).toNatClampNeg) by decide) dX12_balance_11 ?_
      refine lv_ishl hx hb dX12_balance_12 ?_
      refine lv_icmp_ge (tgt := 88) hx hb dX12_balance_13 (by decide) (fun c13 => ?_) (fun c13 => ?_)
      · have h := k_pos c13 h
        refine lv_iload_n hx hb dX12_balance_88 rfl (lv_at hl 1 rfl) ?_
        have h := Option.some.inj h; subst h
        exact hret _ _ _ _ hP hS dX12_balance_89
      · have h := k_neg c13 h
        refine lv_iconst (v := 0) hx hb dX12_balance_16 (by decide) ?_
        refine lv_istore_n (lv' := [(3, .int 0), (0, .ref (aR 0)), (1, .int y1), (2, .int y2)]) hx hb dX12_balance_17 rfl hl (by decide) rfl (fun ls hl => ?_)
        refine lv_iconst (v := 0) hx hb dX12_balance_18 (by decide) ?_
        have B21 : ∀ (y1 : Int32) (y2 : Int32) (n21 : Nat) (y3 : Int32) (y4 : Int32) (H : Heap) (locs : List Loc) (ls : Array Slot), va_P D vwCl (Wd40 cI aR q_hasImage q_place q_rowAt q_rowEnd q_seed q_thrown q_s) H → va_D A (Wd40 cI aR q_hasImage q_place q_rowAt q_rowEnd q_seed q_thrown q_s) → va_S A s.heap H locs → lv_has ls 5 [(0, .ref (aR 0)), (1, .int y1), (2, .int y2), (3, .int y3), (4, .int y4)] → S_MD_balance_L21 (S_MD_balance_L4 q_s n4) y1 y2 q_s n21 y3 y4 = some o → W p l e rm_X12_balance s m ([.ref (aR 0)] : List Value).toArray below meth c H locs 0 0 Q (F0 m 21 ls []) := by
          intro y1 y2
          intro n21
          induction n21 with
          | zero => intro y3 y4 H locs ls hP hD hS hl h; exact absurd h (by simp [S_MD_balance_L21])
          | succ n21 ih21 =>
            intro y3 y4 H locs ls hP hD hS hl h
            rw [S_MD_balance_L21] at h
            refine lv_iload hx hb dX12_balance_21 (lv_at hl 4 rfl) ?_
            refine lv_aload_n hx hb dX12_balance_23 rfl (lv_at hl 0 rfl) ?_
            refine va_get (D := D) (ci := 12) (v := .ref (aR 1)) (C := RX12) (T := TX12) (N := 18) hx hb hts hiX12 hown hK hP 0 rfl rfl 0 (by decide) hf9 (fun _ z => z) rfl dX12_balance_24 ?_
            refine lv_iconst (v := 0) hx hb dX12_balance_27 (by decide) ?_
            refine va_iald hx hb hK hP 1 0 rfl rfl (show ¬ ((0 : Int32) < 0 ∨ 37 ≤ (0 : Int32).toNatClampNeg) by decide) dX12_balance_28 ?_
            refine lv_icmp_ge (tgt := 65) hx hb dX12_balance_29 (by decide) (fun c29 => ?_) (fun c29 => ?_)
            · have h := k_pos c29 h
              refine lv_iload_n hx hb dX12_balance_65 rfl (lv_at hl 3 rfl) ?_
              refine lv_if_ne (tgt := 82) hx hb dX12_balance_66 (by decide) (fun c66 => ?_) (fun c66 => ?_)
              · have h := k_neg c66 h
                refine lv_iinc (v := (y2 + 1)) (lv' := [(2, .int (y2 + 1)), (0, .ref (aR 0)), (1, .int y1), (3, .int y3), (4, .int y4)]) hx hb dX12_balance_82 hl (k := 2) rfl (by first | rfl | decide) (by decide) rfl (fun ls hl => ?_)
                refine lv_goto (tgt := 4) hx hb dX12_balance_85 (by decide) ?_
                exact ih4 y1 (y2 + 1) H locs ls hP hD hS (lv_sub hl [1, 2, 0] rfl) h
              · have h := k_pos c66 h
                refine lv_iload_n hx hb dX12_balance_69 rfl (lv_at hl 2 rfl) ?_
                obtain ⟨r70, g70, h⟩ := k_bind h
                refine k_callS (As := [.int y2]) (rest := []) (st1 := [.int r70]) (ws2 := (Wd40 cI aR q_hasImage q_place q_rowAt q_rowEnd q_seed q_thrown q_s)) hx hb hml hown hts hK hN hA hP hD hS hl (c_MD_bits l D cI cM cS cJ H.size y2 g70) gX12_balance_X12_bits rfl kdS_X12_bits [] ⟨rfl, rfl⟩ ⟨Nat.le_of_ble_eq_true rfl, Nat.le_of_ble_eq_true rfl⟩ ⟨Nat.zero_le _, Nat.zero_le _⟩ rfl rfl (by decide +kernel) (k_rp rfl (by decide +kernel)) rfl rfl (Nat.le_of_ble_eq_true rfl) dX12_balance_70 rfl (fun H locs hP hD hS => ?_)
                refine lv_iload_n hx hb dX12_balance_73 rfl (lv_at hl 1 rfl) ?_
                obtain ⟨r74, g74, h⟩ := k_bind h
                refine k_callS (As := [.int y1]) (rest := [.int r70]) (st1 := [.int r74, .int r70]) (ws2 := (Wd40 cI aR q_hasImage q_place q_rowAt q_rowEnd q_seed q_thrown q_s)) hx hb hml hown hts hK hN hA hP hD hS hl (c_MD_bits l D cI cM cS cJ H.size y1 g74) gX12_balance_X12_bits rfl kdS_X12_bits [] ⟨rfl, rfl⟩ ⟨Nat.le_of_ble_eq_true rfl, Nat.le_of_ble_eq_true rfl⟩ ⟨Nat.zero_le _, Nat.zero_le _⟩ rfl rfl (by decide +kernel) (k_rp rfl (by decide +kernel)) rfl rfl (Nat.le_of_ble_eq_true rfl) dX12_balance_74 rfl (fun H locs hP hD hS => ?_)
                refine lv_icmp_le (tgt := 82) hx hb dX12_balance_77 (by decide) (fun c77 => ?_) (fun c77 => ?_)
                · have h := k_pos c77 h
                  refine lv_iinc (v := (y2 + 1)) (lv' := [(2, .int (y2 + 1)), (0, .ref (aR 0)), (1, .int y1), (3, .int y3), (4, .int y4)]) hx hb dX12_balance_82 hl (k := 2) rfl (by first | rfl | decide) (by decide) rfl (fun ls hl => ?_)
                  refine lv_goto (tgt := 4) hx hb dX12_balance_85 (by decide) ?_
                  exact ih4 y1 (y2 + 1) H locs ls hP hD hS (lv_sub hl [1, 2, 0] rfl) h
                · have h := k_neg c77 h
                  refine lv_iload_n hx hb dX12_balance_80 rfl (lv_at hl 2 rfl) ?_
                  refine lv_istore_n (lv' := [(1, .int y2), (0, .ref (aR 0)), (2, .int y2), (3, .int y3), (4, .int y4)]) hx hb dX12_balance_81 rfl hl (by decide) rfl (fun ls hl => ?_)
                  refine lv_iinc (v := (y2 + 1)) (lv' := [(2, .int (y2 + 1)), (1, .int y2), (0, .ref (aR 0)), (3, .int y3), (4, .int y4)]) hx hb dX12_balance_82 hl (k := 2) rfl (by first | rfl | decide) (by decide) rfl (fun ls hl => ?_)
                  refine lv_goto (tgt := 4) hx hb dX12_balance_85 (by decide) ?_
                  exact ih4 y2 (y2 + 1) H locs ls hP hD hS (lv_sub hl [2, 1, 0] rfl) h
            · have h := k_neg c29 h
              refine lv_iload_n hx hb dX12_balance_32 rfl (lv_at hl 3 rfl) ?_
              refine lv_iload_n hx hb dX12_balance_33 rfl (lv_at hl 2 rfl) ?_
              refine lv_iload hx hb dX12_balance_34 (lv_at hl 4 rfl) ?_
              refine k_callS (As := [.int y2, .int y4]) (rest := [.int y3]) (st1 := [.int (S_MD_has y2 y4), .int y3]) (ws2 := (Wd40 cI aR q_hasImage q_place q_rowAt q_rowEnd q_seed q_thrown q_s)) hx hb hml hown hts hK hN hA hP hD hS hl (c_MD_has l D cI cM cS cJ H.size y2 y4 rfl) gX12_balance_X12_has rfl kdS_X12_has [] ⟨rfl, rfl⟩ ⟨Nat.le_of_ble_eq_true rfl, Nat.le_of_ble_eq_true rfl⟩ ⟨Nat.zero_le _, Nat.zero_le _⟩ rfl rfl (by decide +kernel) (k_rp rfl (by decide +kernel)) rfl rfl (Nat.le_of_ble_eq_true rfl) dX12_balance_36 rfl (fun H locs hP hD hS => ?_)
              refine lv_if_eq (tgt := 56) hx hb dX12_balance_39 (by decide) (fun c39 => ?_) (fun c39 => ?_)
              · have h := k_pos c39 h
                refine lv_iconst (v := 0) hx hb dX12_balance_56 (by decide) ?_
                refine lv_iadd hx hb dX12_balance_57 ?_
                refine lv_istore_n (lv' := [(3, .int (y3 + 0)), (0, .ref (aR 0)), (1, .int y1), (2, .int y2), (4, .int y4)]) hx hb dX12_balance_58 rfl hl (by decide) rfl (fun ls hl => ?_)
                refine lv_iinc (v := (y4 + 1)) (lv' := [(4, .int (y4 + 1)), (3, .int (y3 + 0)), (0, .ref (aR 0)), (1, .int y1), (2, .int y2)]) hx hb dX12_balance_59 hl (k := 4) rfl (by first | rfl | decide) (by decide) rfl (fun ls hl => ?_)
                refine lv_goto (tgt := 21) hx hb dX12_balance_62 (by decide) ?_
                exact ih21 (y3 + 0) (y4 + 1) H locs ls hP hD hS (lv_sub hl [2, 3, 4, 1, 0] rfl) h
              · have h := k_neg c39 h
                refine lv_aload_n hx hb dX12_balance_42 rfl (lv_at hl 0 rfl) ?_
                refine va_get (D := D) (ci := 12) (v := .ref (aR 1)) (C := RX12) (T := TX12) (N := 18) hx hb hts hiX12 hown hK hP 0 rfl rfl 0 (by decide) hf9 (fun _ z => z) rfl dX12_balance_43 ?_
                refine lv_iload hx hb dX12_balance_46 (lv_at hl 4 rfl) ?_
                refine lv_iconst (v := 2) hx hb dX12_balance_48 (by decide) ?_
                refine k_callS (As := [.int y4, .int 2]) (rest := [.ref (aR 1), .int y3]) (st1 := [.int (S_MD_of y4 2), .ref (aR 1), .int y3]) (ws2 := (Wd40 cI aR q_hasImage q_place q_rowAt q_rowEnd q_seed q_thrown q_s)) hx hb hml hown hts hK hN hA hP hD hS hl (c_MD_of l D cI cM cS cJ H.size y4 2 rfl) gX12_balance_X12_of rfl kdS_X12_of [] ⟨rfl, rfl⟩ ⟨Nat.le_of_ble_eq_true rfl, Nat.le_of_ble_eq_true rfl⟩ ⟨Nat.zero_le _, Nat.zero_le _⟩ rfl rfl (by decide +kernel) (k_rp rfl (by decide +kernel)) rfl rfl (Nat.le_of_ble_eq_true rfl) dX12_balance_49 rfl (fun H locs hP hD hS => ?_)
                obtain ⟨g52, h⟩ := k_guard h
                refine va_iald hx hb hK hP 1 0 rfl rfl g52 dX12_balance_52 ?_
                refine lv_goto (tgt := 57) hx hb dX12_balance_53 (by decide) ?_
                refine lv_iadd hx hb dX12_balance_57 ?_
                refine lv_istore_n (lv' := [(3, .int (y3 + (q_s (S_MD_of y4 2).toNatClampNeg))), (0, .ref (aR 0)), (1, .int y1), (2, .int y2), (4, .int y4)]) hx hb dX12_balance_58 rfl hl (by decide) rfl (fun ls hl => ?_)
                refine lv_iinc (v := (y4 + 1)) (lv' := [(4, .int (y4 + 1)), (3, .int (y3 + (q_s (S_MD_of y4 2).toNatClampNeg))), (0, .ref (aR 0)), (1, .int y1), (2, .int y2)]) hx hb dX12_balance_59 hl (k := 4) rfl (by first | rfl | decide) (by decide) rfl (fun ls hl => ?_)
                refine lv_goto (tgt := 21) hx hb dX12_balance_62 (by decide) ?_
                exact ih21 (y3 + (q_s (S_MD_of y4 2).toNatClampNeg)) (y4 + 1) H locs ls hP hD hS (lv_sub hl [2, 3, 4, 1, 0] rfl) h
        refine lv_istore (lv' := [(4, .int 0), (3, .int 0), (0, .ref (aR 0)), (1, .int y1), (2, .int y2)]) hx hb dX12_balance_19 hl (by decide) rfl (fun ls hl => ?_)
        exact B21 y1 y2 lfu 0 0 H locs ls hP hD hS (lv_sub hl [2, 3, 4, 1, 0] rfl) h
  refine lv_istore_n (lv' := [(2, .int 0), (1, .int 0), (0, .ref (aR 0))]) hx hb dX12_balance_3 rfl hl (by decide) rfl (fun ls hl => ?_)
  exact B4 lfu 0 0 s.heap [] ls hP hD hS (lv_sub hl [2, 1, 0] rfl) h
theorem kdV_X12_balance : yX12_balance.cls = RX12 ∧ yX12_balance.cls ≠ "java/lang/invoke/MethodHandle" ∧ yX12_balance.cls ≠ "java/lang/invoke/VarHandle" ∧ (parseMethodDescriptor yX12_balance.desc).map (fun d => d.parameters.length) = some 0 := by decide +kernel
theorem kdV_X12_walls : yX12_walls.cls = RX12 ∧ yX12_walls.cls ≠ "java/lang/invoke/MethodHandle" ∧ yX12_walls.cls ≠ "java/lang/invoke/VarHandle" ∧ (parseMethodDescriptor yX12_walls.desc).map (fun d => d.parameters.length) = some 0 := by decide +kernel
theorem kdV_X12_rightOne : yX12_rightOne.cls = RX12 ∧ yX12_rightOne.cls ≠ "java/lang/invoke/MethodHandle" ∧ yX12_rightOne.cls ≠ "java/lang/invoke/VarHandle" ∧ (parseMethodDescriptor yX12_rightOne.desc).map (fun d => d.parameters.length) = some 0 := by decide +kernel
abbrev rm_X12_right : Room := { frames := 3, cells := 0, slots := 0, locals := 68 }
set_option maxHeartbeats 4000000 in
set_option maxRecDepth 100000 in
theorem c_MD_right (l : Launch) (D : va_G) (cI cM cS cJ : ClassId) (aR : Nat → Nat) (sz : Nat) (x1 : Int32) (q_hasImage : Int32) (q_place : Int32) (q_rowAt : Int32) (q_rowEnd : Int32) (q_seed : Int32) (q_thrown : Int32) (q_s : Nat → Int32) (q_chain : Nat → Int32) {o : (Int32) × (Nat → Int32)} (hsem : S_MD_right x1 q_s q_chain = some o) : kMet l yX12_right wsX12_right rm_X12_right [.ref (aR 0), .int x1] D (kT cI cM cS cJ) (Wd52 cI aR q_hasImage q_place q_rowAt q_rowEnd q_seed q_thrown q_s q_chain) sz (some (.int o.1)) (Wd52 cI aR q_hasImage q_place q_rowAt q_rowEnd q_seed q_thrown q_s o.2) := by
  refine k_metI (by decide) rfl rfl (Nat.le_of_ble_eq_true rfl) ?_
  intro p e s m below meth c ls Q A hx hb hml hts hown hK hN hA hP hD hS hl hsz hnm hret
  have hown : s.vm.findClass RX12 = some m.cls := hown
  replace hl : lv_has ls 2 [(0, .ref (aR 0)), (1, .int x1)] := hl
  have h := hsem
  clear hsem
  rw [S_MD_right] at h
  refine lv_iload_n hx hb dX12_right_0 rfl (lv_at hl 1 rfl) ?_
  refine lv_if_ne (tgt := 11) hx hb dX12_right_1 (by decide) (fun c1 => ?_) (fun c1 => ?_)
  · have h := k_neg c1 h
    refine lv_iload_n hx hb dX12_right_11 rfl (lv_at hl 1 rfl) ?_
    refine lv_iconst (v := 1) hx hb dX12_right_12 (by decide) ?_
    refine lv_icmp_ne (tgt := 23) hx hb dX12_right_13 (by decide) (fun c13 => ?_) (fun c13 => ?_)
    · have h := k_neg c13 h
      refine lv_iload_n hx hb dX12_right_23 rfl (lv_at hl 1 rfl) ?_
      refine lv_iconst (v := 2) hx hb dX12_right_24 (by decide) ?_
      refine lv_icmp_ne (tgt := 35) hx hb dX12_right_25 (by decide) (fun c25 => ?_) (fun c25 => ?_)
      · have h := k_neg c25 h
        refine lv_iconst (v := (-1)) hx hb dX12_right_35 (by decide) ?_
        have h := Option.some.inj h; subst h
        exact hret _ _ _ _ hP hS dX12_right_36
      · have h := k_pos c25 h
        refine lv_aload_n hx hb dX12_right_28 rfl (lv_at hl 0 rfl) ?_
        obtain ⟨r29, g29, h⟩ := k_bind h
        refine k_callV (As := []) (rest := []) (st1 := [.int r29]) (ws2 := (Wd52 cI aR q_hasImage q_place q_rowAt q_rowEnd q_seed q_thrown q_s q_chain)) hx hb hml hown hts hK hN hA hP hD hS hl (c_MD_balance l D cI cM cS cJ aR s.heap.size q_hasImage q_place q_rowAt q_rowEnd q_seed q_thrown q_s g29) gX12_right_X12_balance rfl kdV_X12_balance 0 12 rfl rfl rfl [0, 1] ⟨rfl, rfl⟩ ⟨Nat.le_of_ble_eq_true rfl, Nat.le_of_ble_eq_true rfl⟩ ⟨Nat.zero_le _, Nat.zero_le _⟩ rfl rfl (by decide +kernel) (k_rp rfl (by decide +kernel)) rfl rfl (Nat.le_of_ble_eq_true rfl) dX12_right_29 rfl (fun H locs hP hD hS => ?_)
        refine lv_goto (tgt := 36) hx hb dX12_right_32 (by decide) ?_
        have h := Option.some.inj h; subst h
        exact hret _ _ _ _ hP hS dX12_right_36
    · have h := k_pos c13 h
      refine lv_aload_n hx hb dX12_right_16 rfl (lv_at hl 0 rfl) ?_
      obtain ⟨r17, g17, h⟩ := k_bind h
      refine k_callV (As := []) (rest := []) (st1 := [.int r17.1]) (ws2 := (Wd52 cI aR q_hasImage q_place q_rowAt q_rowEnd q_seed q_thrown q_s r17.2)) hx hb hml hown hts hK hN hA hP hD hS hl (c_MD_walls l D cI cM cS cJ aR s.heap.size q_hasImage q_place q_rowAt q_rowEnd q_seed q_thrown q_s q_chain g17) gX12_right_X12_walls rfl kdV_X12_walls 0 12 rfl rfl rfl [0, 1, 2] ⟨rfl, rfl⟩ ⟨Nat.le_of_ble_eq_true rfl, Nat.le_of_ble_eq_true rfl⟩ ⟨Nat.zero_le _, Nat.zero_le _⟩ rfl rfl (by decide +kernel) (k_rp rfl (by decide +kernel)) rfl rfl (Nat.le_of_ble_eq_true rfl) dX12_right_17 rfl (fun H locs hP hD hS => ?_)
      refine lv_goto (tgt := 36) hx hb dX12_right_20 (by decide) ?_
      have h := Option.some.inj h; subst h
      exact hret _ _ _ _ hP hS dX12_right_36
  · have h := k_pos c1 h
    refine lv_aload_n hx hb dX12_right_4 rfl (lv_at hl 0 rfl) ?_
    obtain ⟨r5, g5, h⟩ := k_bind h
    refine k_callV (As := []) (rest := []) (st1 := [.int r5]) (ws2 := (Wd52 cI aR q_hasImage q_place q_rowAt q_rowEnd q_seed q_thrown q_s q_chain)) hx hb hml hown hts hK hN hA hP hD hS hl (c_MD_rightOne l D cI cM cS cJ aR s.heap.size q_hasImage q_place q_rowAt q_rowEnd q_seed q_thrown q_s g5) gX12_right_X12_rightOne rfl kdV_X12_rightOne 0 12 rfl rfl rfl [0, 1] ⟨rfl, rfl⟩ ⟨Nat.le_of_ble_eq_true rfl, Nat.le_of_ble_eq_true rfl⟩ ⟨Nat.zero_le _, Nat.zero_le _⟩ rfl rfl (by decide +kernel) (k_rp rfl (by decide +kernel)) rfl rfl (Nat.le_of_ble_eq_true rfl) dX12_right_5 rfl (fun H locs hP hD hS => ?_)
    refine lv_goto (tgt := 36) hx hb dX12_right_8 (by decide) ?_
    have h := Option.some.inj h; subst h
    exact hret _ _ _ _ hP hS dX12_right_36
abbrev rm_X12_leastOf : Room := { frames := 0, cells := 0, slots := 0, locals := 0 }
set_option maxHeartbeats 4000000 in
set_option maxRecDepth 100000 in
theorem c_MD_leastOf (l : Launch) (D : va_G) (cI cM cS cJ : ClassId) (sz : Nat) (x0 : Int32) {o : (Int32)} (hsem : S_MD_leastOf x0 = o) : kMet l yX12_leastOf wsX12_leastOf rm_X12_leastOf [.int x0] D (kT cI cM cS cJ) (Wd0) sz (some (.int o)) (Wd0) := by
  refine k_metI (by decide) rfl rfl (Nat.le_of_ble_eq_true rfl) ?_
  intro p e s m below meth c ls Q A hx hb hml hts hown hK hN hA hP hD hS hl hsz hnm hret
  have hown : s.vm.findClass RX12 = some m.cls := hown
  replace hl : lv_has ls 1 [(0, .int x0)] := hl
  have h := hsem
  clear hsem
  rw [S_MD_leastOf] at h
  refine lv_iload_n hx hb dX12_leastOf_0 rfl (lv_at hl 0 rfl) ?_
  refine lv_if_ne (tgt := 9) hx hb dX12_leastOf_1 (by decide) (fun c1 => ?_) (fun c1 => ?_)
  · have h := k_neg c1 h
    refine lv_iload_n hx hb dX12_leastOf_9 rfl (lv_at hl 0 rfl) ?_
    refine lv_iconst (v := 1) hx hb dX12_leastOf_10 (by decide) ?_
    refine lv_icmp_ne (tgt := 20) hx hb dX12_leastOf_11 (by decide) (fun c11 => ?_) (fun c11 => ?_)
    · have h := k_neg c11 h
      refine lv_ldc (v := (-2147483648)) hx hb hown (hts (.constant RX12 202 (-2147483648)) (List.mem_of_getElem? (i := 1) rfl)) dX12_leastOf_20 ?_
      subst h
      exact hret _ _ _ _ hP hS dX12_leastOf_22
    · have h := k_pos c11 h
      refine lv_sipush (v := (-32768)) hx hb dX12_leastOf_14 (by decide) ?_
      refine lv_goto (tgt := 22) hx hb dX12_leastOf_17 (by decide) ?_
      subst h
      exact hret _ _ _ _ hP hS dX12_leastOf_22
  · have h := k_pos c1 h
    refine lv_bipush (v := (-128)) hx hb dX12_leastOf_4 (by decide) ?_
    refine lv_goto (tgt := 22) hx hb dX12_leastOf_6 (by decide) ?_
    subst h
    exact hret _ _ _ _ hP hS dX12_leastOf_22
abbrev Wd53 (cI : ClassId) (aR : Nat → Nat) (q_hasImage : Int32) (q_place : Int32) (q_rowAt : Int32) (q_rowEnd : Int32) (q_seed : Int32) (q_thrown : Int32) (q_sort : Nat → Int32) (q_element : Nat → Int32) : va_W := [((aR 0), .inr (12, [.ref (aR 1), .ref (aR 2), .ref (aR 3), .ref (aR 4), .int q_hasImage, .int q_place, .int q_rowAt, .int q_rowEnd, .ref (aR 5), .ref (aR 6), .int q_seed, .ref (aR 7), .ref (aR 8), .ref (aR 9), .ref (aR 10), .ref (aR 11), .ref (aR 12), .int q_thrown])), ((aR 10), .inl (cI, 8, .inl q_sort)), ((aR 12), .inl (cI, 800, .inl q_element))]
theorem kdS_X12_leastOf : yX12_leastOf.cls ≠ "java/lang/invoke/MethodHandle" ∧ yX12_leastOf.cls ≠ "java/lang/invoke/VarHandle" ∧ (parseMethodDescriptor yX12_leastOf.desc).map (fun d => d.parameters.length) = some 1 := by decide +kernel
abbrev rm_X12_isTold : Room := { frames := 1, cells := 0, slots := 0, locals := 20 }
set_option maxHeartbeats 4000000 in
set_option maxRecDepth 100000 in
theorem c_MD_isTold (l : Launch) (D : va_G) (cI cM cS cJ : ClassId) (aR : Nat → Nat) (sz : Nat) (x1 : Int32) (x2 : Int32) (x3 : Int32) (q_hasImage : Int32) (q_place : Int32) (q_rowAt : Int32) (q_rowEnd : Int32) (q_seed : Int32) (q_thrown : Int32) (q_sort : Nat → Int32) (q_element : Nat → Int32) {o : (Int32)} (hsem : S_MD_isTold x1 x2 x3 q_sort q_element = some o) : kMet l yX12_isTold wsX12_isTold rm_X12_isTold [.ref (aR 0), .int x1, .int x2, .int x3] D (kT cI cM cS cJ) (Wd53 cI aR q_hasImage q_place q_rowAt q_rowEnd q_seed q_thrown q_sort q_element) sz (some (.int o)) (Wd53 cI aR q_hasImage q_place q_rowAt q_rowEnd q_seed q_thrown q_sort q_element) := by
  refine k_metZ (by decide) rfl rfl (Nat.le_of_ble_eq_true rfl) ?_
  intro p e s m below meth c ls Q A hx hb hml hts hown hK hN hA hP hD hS hl hsz hnm hret
  have hown : s.vm.findClass RX12 = some m.cls := hown
  have hf43 := hts (.fieldLink RX12 43 "PlumbLineModel" "element" "[I") (List.mem_of_getElem? (i := 1) rfl)
  have hf37 := hts (.fieldLink RX12 37 "PlumbLineModel" "sort" "[I") (List.mem_of_getElem? (i := 2) rfl)
  have hiX12 : ∀ w ∈ u_ws RX12 TX12 18, w ∈ wsX12_isTold := fun w h => List.mem_cons_of_mem _ (List.mem_append_right _ h)
  replace hl : lv_has ls 4 [(0, .ref (aR 0)), (1, .int x1), (2, .int x2), (3, .int x3)] := hl
  have h := hsem
  clear hsem
  rw [S_MD_isTold] at h
  refine lv_aload_n hx hb dX12_isTold_0 rfl (lv_at hl 0 rfl) ?_
  refine va_get (D := D) (ci := 12) (v := .ref (aR 12)) (C := RX12) (T := TX12) (N := 18) hx hb hts hiX12 hown hK hP 0 rfl rfl 16 (by decide) hf43 (fun _ z => z) rfl dX12_isTold_1 ?_
  refine lv_bipush (v := 100) hx hb dX12_isTold_4 (by decide) ?_
  refine lv_iload_n hx hb dX12_isTold_6 rfl (lv_at hl 1 rfl) ?_
  refine lv_imul hx hb dX12_isTold_7 ?_
  refine lv_iload_n hx hb dX12_isTold_8 rfl (lv_at hl 2 rfl) ?_
  refine lv_iadd hx hb dX12_isTold_9 ?_
  obtain ⟨g10, h⟩ := k_guard h
  refine va_iald hx hb hK hP 2 0 rfl rfl g10 dX12_isTold_10 ?_
  refine lv_aload_n hx hb dX12_isTold_11 rfl (lv_at hl 0 rfl) ?_
  refine va_get (D := D) (ci := 12) (v := .ref (aR 10)) (C := RX12) (T := TX12) (N := 18) hx hb hts hiX12 hown hK hP 0 rfl rfl 14 (by decide) hf37 (fun _ z => z) rfl dX12_isTold_12 ?_
  refine lv_iload_n hx hb dX12_isTold_15 rfl (lv_at hl 1 rfl) ?_
  obtain ⟨g16, h⟩ := k_guard h
  refine va_iald hx hb hK hP 1 0 rfl rfl g16 dX12_isTold_16 ?_
  refine k_callS (As := [.int (q_sort x1.toNatClampNeg)]) (rest := [.int (q_element (((100 : Int32) * x1) + x2).toNatClampNeg)]) (st1 := [.int (S_MD_leastOf (q_sort x1.toNatClampNeg)), .int (q_element (((100 : Int32) * x1) + x2).toNatClampNeg)]) (ws2 := (Wd53 cI aR q_hasImage q_place q_rowAt q_rowEnd q_seed q_thrown q_sort q_element)) hx hb hml hown hts hK hN hA hP hD hS hl (c_MD_leastOf l D cI cM cS cJ s.heap.size (q_sort x1.toNatClampNeg) rfl) gX12_isTold_X12_leastOf rfl kdS_X12_leastOf [] ⟨rfl, rfl⟩ ⟨Nat.le_of_ble_eq_true rfl, Nat.le_of_ble_eq_true rfl⟩ ⟨Nat.zero_le _, Nat.zero_le _⟩ rfl rfl (by decide +kernel) (k_rp rfl (by decide +kernel)) rfl rfl (Nat.le_of_ble_eq_true rfl) dX12_isTold_17 rfl (fun H locs hP hD hS => ?_)
  refine lv_icmp_eq (tgt := 38) hx hb dX12_isTold_20 (by decide) (fun c20 => ?_) (fun c20 => ?_)
  · have h := k_pos c20 h
    refine lv_iconst (v := 1) hx hb dX12_isTold_38 (by decide) ?_
    refine lv_goto (tgt := 43) hx hb dX12_isTold_39 (by decide) ?_
    have h := Option.some.inj h; subst h
    exact hret _ _ _ _ rfl hP hS dX12_isTold_43
  · have h := k_neg c20 h
    refine lv_aload_n hx hb dX12_isTold_23 rfl (lv_at hl 0 rfl) ?_
    refine va_get (D := D) (ci := 12) (v := .ref (aR 12)) (C := RX12) (T := TX12) (N := 18) hx hb hts hiX12 hown hK hP 0 rfl rfl 16 (by decide) hf43 (fun _ z => z) rfl dX12_isTold_24 ?_
    refine lv_bipush (v := 100) hx hb dX12_isTold_27 (by decide) ?_
    refine lv_iload_n hx hb dX12_isTold_29 rfl (lv_at hl 1 rfl) ?_
    refine lv_imul hx hb dX12_isTold_30 ?_
    refine lv_iload_n hx hb dX12_isTold_31 rfl (lv_at hl 2 rfl) ?_
    refine lv_iadd hx hb dX12_isTold_32 ?_
    refine va_iald hx hb hK hP 2 0 rfl rfl g10 dX12_isTold_33 ?_
    refine lv_iload_n hx hb dX12_isTold_34 rfl (lv_at hl 3 rfl) ?_
    refine lv_icmp_ne (tgt := 42) hx hb dX12_isTold_35 (by decide) (fun c35 => ?_) (fun c35 => ?_)
    · have h := k_neg c35 h
      refine lv_iconst (v := 0) hx hb dX12_isTold_42 (by decide) ?_
      have h := Option.some.inj h; subst h
      exact hret _ _ _ _ rfl hP hS dX12_isTold_43
    · have h := k_pos c35 h
      refine lv_iconst (v := 1) hx hb dX12_isTold_38 (by decide) ?_
      refine lv_goto (tgt := 43) hx hb dX12_isTold_39 (by decide) ?_
      have h := Option.some.inj h; subst h
      exact hret _ _ _ _ rfl hP hS dX12_isTold_43
abbrev Wd54 (cI : ClassId) (aR : Nat → Nat) (q_hasImage : Int32) (q_place : Int32) (q_rowAt : Int32) (q_rowEnd : Int32) (q_seed : Int32) (q_thrown : Int32) (q_s : Nat → Int32) (q_m : Nat → Int32) (q_kept : Nat → Int32) (q_sort : Nat → Int32) (q_size : Nat → Int32) (q_element : Nat → Int32) : va_W := [((aR 0), .inr (12, [.ref (aR 1), .ref (aR 2), .ref (aR 3), .ref (aR 4), .int q_hasImage, .int q_place, .int q_rowAt, .int q_rowEnd, .ref (aR 5), .ref (aR 6), .int q_seed, .ref (aR 7), .ref (aR 8), .ref (aR 9), .ref (aR 10), .ref (aR 11), .ref (aR 12), .int q_thrown])), ((aR 1), .inl (cI, 37, .inl q_s)), ((aR 2), .inl (cI, 37, .inl q_m)), ((aR 7), .inl (cI, 8, .inl q_kept)), ((aR 10), .inl (cI, 8, .inl q_sort)), ((aR 11), .inl (cI, 8, .inl q_size)), ((aR 12), .inl (cI, 800, .inl q_element))]
theorem kdV_X12_isTold : yX12_isTold.cls = RX12 ∧ yX12_isTold.cls ≠ "java/lang/invoke/MethodHandle" ∧ yX12_isTold.cls ≠ "java/lang/invoke/VarHandle" ∧ (parseMethodDescriptor yX12_isTold.desc).map (fun d => d.parameters.length) = some 3 := by decide +kernel
abbrev rm_X12_whatIs : Room := { frames := 4, cells := 0, slots := 0, locals := 90 }
set_option maxHeartbeats 4000000 in
set_option maxRecDepth 100000 in
theorem c_MD_whatIs (l : Launch) (D : va_G) (cI cM cS cJ : ClassId) (aR : Nat → Nat) (sz : Nat) (x1 : Int32) (x2 : Int32) (x3 : Int32) (q_hasImage : Int32) (q_place : Int32) (q_rowAt : Int32) (q_rowEnd : Int32) (q_seed : Int32) (q_thrown : Int32) (q_s : Nat → Int32) (q_m : Nat → Int32) (q_kept : Nat → Int32) (q_sort : Nat → Int32) (q_size : Nat → Int32) (q_element : Nat → Int32) {o : (Int32) × (Nat → Int32)} (hsem : S_MD_whatIs x1 x2 x3 q_s q_m q_kept q_sort q_size q_element = some o) : kMet l yX12_whatIs wsX12_whatIs rm_X12_whatIs [.ref (aR 0), .int x1, .int x2, .int x3] D (kT cI cM cS cJ) (Wd54 cI aR q_hasImage q_place q_rowAt q_rowEnd q_seed q_thrown q_s q_m q_kept q_sort q_size q_element) sz (some (.int o.1)) (Wd54 cI aR q_hasImage q_place q_rowAt q_rowEnd q_seed q_thrown q_s o.2 q_kept q_sort q_size q_element) := by
  refine k_metI (by decide) rfl rfl (Nat.le_of_ble_eq_true rfl) ?_
  intro p e s m below meth c ls Q A hx hb hml hts hown hK hN hA hP hD hS hl hsz hnm hret
  have hown : s.vm.findClass RX12 = some m.cls := hown
  have hf9 := hts (.fieldLink RX12 9 "PlumbLineModel" "s" "[I") (List.mem_of_getElem? (i := 1) rfl)
  have hf13 := hts (.fieldLink RX12 13 "PlumbLineModel" "m" "[I") (List.mem_of_getElem? (i := 2) rfl)
  have hf40 := hts (.fieldLink RX12 40 "PlumbLineModel" "size" "[I") (List.mem_of_getElem? (i := 3) rfl)
  have hiX12 : ∀ w ∈ u_ws RX12 TX12 18, w ∈ wsX12_whatIs := fun w h => List.mem_cons_of_mem _ (List.mem_append_right _ h)
  replace hl : lv_has ls 9 [(0, .ref (aR 0)), (1, .int x1), (2, .int x2), (3, .int x3)] := hl
  have h := hsem
  clear hsem
  rw [S_MD_whatIs] at h
  refine lv_aload_n hx hb dX12_whatIs_0 rfl (lv_at hl 0 rfl) ?_
  refine lv_iload_n hx hb dX12_whatIs_1 rfl (lv_at hl 2 rfl) ?_
  obtain ⟨r2, g2, h⟩ := k_bind h
  refine k_callV (As := [.int x2]) (rest := []) (st1 := [.int r2]) (ws2 := (Wd54 cI aR q_hasImage q_place q_rowAt q_rowEnd q_seed q_thrown q_s q_m q_kept q_sort q_size q_element)) hx hb hml hown hts hK hN hA hP hD hS hl (c_MD_isMan l D cI cM cS cJ aR s.heap.size x2 q_hasImage q_place q_rowAt q_rowEnd q_seed q_thrown q_s g2) gX12_whatIs_X12_isMan rfl kdV_X12_isMan 0 12 rfl rfl rfl [0, 1] ⟨rfl, rfl⟩ ⟨Nat.le_of_ble_eq_true rfl, Nat.le_of_ble_eq_true rfl⟩ ⟨Nat.zero_le _, Nat.zero_le _⟩ rfl rfl (by decide +kernel) (k_rp rfl (by decide +kernel)) rfl rfl (Nat.le_of_ble_eq_true rfl) dX12_whatIs_2 rfl (fun H locs hP hD hS => ?_)
  refine lv_if_eq (tgt := 17) hx hb dX12_whatIs_5 (by decide) (fun c5 => ?_) (fun c5 => ?_)
  · have h := k_pos c5 h
    refine lv_iconst (v := (-1)) hx hb dX12_whatIs_17 (by decide) ?_
    have h := Option.some.inj h; subst h
    exact hret _ _ _ _ hP hS dX12_whatIs_18
  · have h := k_neg c5 h
    refine lv_iload_n hx hb dX12_whatIs_8 rfl (lv_at hl 3 rfl) ?_
    refine lv_iconst (v := 0) hx hb dX12_whatIs_9 (by decide) ?_
    refine lv_iconst (v := 1) hx hb dX12_whatIs_10 (by decide) ?_
    refine k_callS (As := [.int x3, .int 0, .int 1]) (rest := []) (st1 := [.int (S_MD_isIn x3 0 1)]) (ws2 := (Wd54 cI aR q_hasImage q_place q_rowAt q_rowEnd q_seed q_thrown q_s q_m q_kept q_sort q_size q_element)) hx hb hml hown hts hK hN hA hP hD hS hl (c_MD_isIn l D cI cM cS cJ H.size x3 0 1 rfl) gX12_whatIs_X12_isIn rfl kdS_X12_isIn [] ⟨rfl, rfl⟩ ⟨Nat.le_of_ble_eq_true rfl, Nat.le_of_ble_eq_true rfl⟩ ⟨Nat.zero_le _, Nat.zero_le _⟩ rfl rfl (by decide +kernel) (k_rp rfl (by decide +kernel)) rfl rfl (Nat.le_of_ble_eq_true rfl) dX12_whatIs_11 rfl (fun H locs hP hD hS => ?_)
    refine lv_if_ne (tgt := 19) hx hb dX12_whatIs_14 (by decide) (fun c14 => ?_) (fun c14 => ?_)
    · have h := k_neg c14 h
      refine lv_aload_n hx hb dX12_whatIs_19 rfl (lv_at hl 0 rfl) ?_
      refine lv_iload_n hx hb dX12_whatIs_20 rfl (lv_at hl 1 rfl) ?_
      refine lv_iconst (v := (-1)) hx hb dX12_whatIs_21 (by decide) ?_
      obtain ⟨r22, g22, h⟩ := k_bind h
      refine k_callV (As := [.int x1, .int (-1)]) (rest := []) (st1 := [.int r22]) (ws2 := (Wd54 cI aR q_hasImage q_place q_rowAt q_rowEnd q_seed q_thrown q_s q_m q_kept q_sort q_size q_element)) hx hb hml hown hts hK hN hA hP hD hS hl (c_MD_wrongRow l D cI cM cS cJ aR H.size x1 (-1) q_hasImage q_place q_rowAt q_rowEnd q_seed q_thrown q_kept q_sort g22) gX12_whatIs_X12_wrongRow rfl kdV_X12_wrongRow 0 12 rfl rfl rfl [0, 3, 4] ⟨rfl, rfl⟩ ⟨Nat.le_of_ble_eq_true rfl, Nat.le_of_ble_eq_true rfl⟩ ⟨Nat.zero_le _, Nat.zero_le _⟩ rfl rfl (by decide +kernel) (k_rp rfl (by decide +kernel)) rfl rfl (Nat.le_of_ble_eq_true rfl) dX12_whatIs_22 rfl (fun H locs hP hD hS => ?_)
      refine lv_istore (lv' := [(4, .int r22), (0, .ref (aR 0)), (1, .int x1), (2, .int x2), (3, .int x3)]) hx hb dX12_whatIs_25 hl (by decide) rfl (fun ls hl => ?_)
      refine lv_iload hx hb dX12_whatIs_27 (lv_at hl 0 rfl) ?_
      refine lv_if_eq (tgt := 35) hx hb dX12_whatIs_29 (by decide) (fun c29 => ?_) (fun c29 => ?_)
      · have h := k_pos c29 h
        refine lv_iconst (v := 0) hx hb dX12_whatIs_35 (by decide) ?_
        refine lv_istore (lv' := [(5, .int 0), (4, .int r22), (0, .ref (aR 0)), (1, .int x1), (2, .int x2), (3, .int x3)]) hx hb dX12_whatIs_36 hl (by decide) rfl (fun ls hl => ?_)
        refine lv_iconst (v := 0) hx hb dX12_whatIs_38 (by decide) ?_
        have B41 : ∀ (n41 : Nat) (y5 : Int32) (y6 : Int32) (q_m : Nat → Int32) (H : Heap) (locs : List Loc) (ls : Array Slot), va_P D vwCl (Wd54 cI aR q_hasImage q_place q_rowAt q_rowEnd q_seed q_thrown q_s q_m q_kept q_sort q_size q_element) H → va_D A (Wd54 cI aR q_hasImage q_place q_rowAt q_rowEnd q_seed q_thrown q_s q_m q_kept q_sort q_size q_element) → va_S A s.heap H locs → lv_has ls 9 [(0, .ref (aR 0)), (1, .int x1), (2, .int x2), (3, .int x3), (5, .int y5), (6, .int y6)] → S_MD_whatIs_L41 x1 x2 x3 q_s q_sort q_size q_element n41 y5 y6 q_m = some o → W p l e rm_X12_whatIs s m ([.ref (aR 0), .int x1, .int x2, .int x3] : List Value).toArray below meth c H locs 0 0 Q (F0 m 41 ls []) := by
          intro n41
          induction n41 with
          | zero => intro y5 y6 q_m H locs ls hP hD hS hl h; exact absurd h (by simp [S_MD_whatIs_L41])
          | succ n41 ih41 =>
            intro y5 y6 q_m H locs ls hP hD hS hl h
            rw [S_MD_whatIs_L41] at h
            refine lv_iload hx hb dX12_whatIs_41 (lv_at hl 5 rfl) ?_
            refine lv_iload_n hx hb dX12_whatIs_43 rfl (lv_at hl 3 rfl) ?_
            have B54 : ∀ (y5 : Int32) (y6 : Int32) (v0 : Int32) (v1 : Int32) (q_m : Nat → Int32) (H : Heap) (locs : List Loc) (ls : Array Slot), va_P D vwCl (Wd54 cI aR q_hasImage q_place q_rowAt q_rowEnd q_seed q_thrown q_s q_m q_kept q_sort q_size q_element) H → va_D A (Wd54 cI aR q_hasImage q_place q_rowAt q_rowEnd q_seed q_thrown q_s q_m q_kept q_sort q_size q_element) → va_S A s.heap H locs → lv_has ls 9 [(0, .ref (aR 0)), (1, .int x1), (2, .int x2), (3, .int x3), (5, .int y5), (6, .int y6)] → S_MD_whatIs_J54 (S_MD_whatIs_L41 x1 x2 x3 q_s q_sort q_size q_element n41) x1 x2 x3 y5 y6 v0 v1 q_s q_sort q_size q_element q_m = some o → W p l e rm_X12_whatIs s m ([.ref (aR 0), .int x1, .int x2, .int x3] : List Value).toArray below meth c H locs 0 0 Q (F0 m 54 ls [.int v1, .int v0]) := by
              intro y5 y6 v0 v1 q_m H locs ls hP hD hS hl h
              rw [S_MD_whatIs_J54] at h
              refine lv_icmp_ge (tgt := 156) hx hb dX12_whatIs_54 (by decide) (fun c54 => ?_) (fun c54 => ?_)
              · have h := k_pos c54 h
                refine lv_iload hx hb dX12_whatIs_156 (lv_at hl 4 rfl) ?_
                have h := Option.some.inj h; subst h
                exact hret _ _ _ _ hP hS dX12_whatIs_158
              · have h := k_neg c54 h
                refine lv_iconst (v := 1) hx hb dX12_whatIs_57 (by decide) ?_
                refine lv_istore (lv' := [(7, .int 1), (0, .ref (aR 0)), (1, .int x1), (2, .int x2), (3, .int x3), (5, .int y5), (6, .int y6)]) hx hb dX12_whatIs_58 hl (by decide) rfl (fun ls hl => ?_)
                refine lv_aload_n hx hb dX12_whatIs_60 rfl (lv_at hl 1 rfl) ?_
                refine va_get (D := D) (ci := 12) (v := .ref (aR 1)) (C := RX12) (T := TX12) (N := 18) hx hb hts hiX12 hown hK hP 0 rfl rfl 0 (by decide) hf9 (fun _ z => z) rfl dX12_whatIs_61 ?_
                refine lv_aload_n hx hb dX12_whatIs_64 rfl (lv_at hl 1 rfl) ?_
                refine va_get (D := D) (ci := 12) (v := .ref (aR 2)) (C := RX12) (T := TX12) (N := 18) hx hb hts hiX12 hown hK hP 0 rfl rfl 1 (by decide) hf13 (fun _ z => z) rfl dX12_whatIs_65 ?_
                obtain ⟨r68, g68, h⟩ := k_bind h
                refine k_callS (As := [.ref (aR 1), .ref (aR 2)]) (rest := []) (st1 := []) (ws2 := (Wd54 cI aR q_hasImage q_place q_rowAt q_rowEnd q_seed q_thrown q_s r68 q_kept q_sort q_size q_element)) hx hb hml hown hts hK hN hA hP hD hS hl (c_MD_copies l D cI cM cS cJ (aR 1) (aR 2) H.size q_s q_m g68) gX12_whatIs_X12_copies rfl kdS_X12_copies [1, 2] ⟨rfl, rfl⟩ ⟨Nat.le_of_ble_eq_true rfl, Nat.le_of_ble_eq_true rfl⟩ ⟨Nat.zero_le _, Nat.zero_le _⟩ rfl rfl (by decide +kernel) (k_rp rfl (by decide +kernel)) rfl rfl (Nat.le_of_ble_eq_true rfl) dX12_whatIs_68 rfl (fun H locs hP hD hS => ?_)
                refine lv_aload_n hx hb dX12_whatIs_71 rfl (lv_at hl 1 rfl) ?_
                refine va_get (D := D) (ci := 12) (v := .ref (aR 2)) (C := RX12) (T := TX12) (N := 18) hx hb hts hiX12 hown hK hP 0 rfl rfl 1 (by decide) hf13 (fun _ z => z) rfl dX12_whatIs_72 ?_
                refine lv_iload_n hx hb dX12_whatIs_75 rfl (lv_at hl 3 rfl) ?_
                refine lv_iload_n hx hb dX12_whatIs_76 rfl (lv_at hl 4 rfl) ?_
                refine k_callS (As := [.int x2, .int x3]) (rest := [.ref (aR 2)]) (st1 := [.int (S_MD_of x2 x3), .ref (aR 2)]) (ws2 := (Wd54 cI aR q_hasImage q_place q_rowAt q_rowEnd q_seed q_thrown q_s r68 q_kept q_sort q_size q_element)) hx hb hml hown hts hK hN hA hP hD hS hl (c_MD_of l D cI cM cS cJ H.size x2 x3 rfl) gX12_whatIs_X12_of rfl kdS_X12_of [] ⟨rfl, rfl⟩ ⟨Nat.le_of_ble_eq_true rfl, Nat.le_of_ble_eq_true rfl⟩ ⟨Nat.zero_le _, Nat.zero_le _⟩ rfl rfl (by decide +kernel) (k_rp rfl (by decide +kernel)) rfl rfl (Nat.le_of_ble_eq_true rfl) dX12_whatIs_77 rfl (fun H locs hP hD hS => ?_)
                refine lv_iload hx hb dX12_whatIs_80 (lv_at hl 6 rfl) ?_
                obtain ⟨g82, h⟩ := k_guard h
                refine va_iast hx hb hK hP hD hS 2 0 rfl rfl g82 dX12_whatIs_82 (fun H locs hP hD hS => ?_)
                replace hP : va_P D vwCl (Wd54 cI aR q_hasImage q_place q_rowAt q_rowEnd q_seed q_thrown q_s (upd r68 (S_MD_of x2 x3).toNatClampNeg y6) q_kept q_sort q_size q_element) H := hP
                replace hD : va_D A (Wd54 cI aR q_hasImage q_place q_rowAt q_rowEnd q_seed q_thrown q_s (upd r68 (S_MD_of x2 x3).toNatClampNeg y6) q_kept q_sort q_size q_element) := hD
                refine lv_iconst (v := 0) hx hb dX12_whatIs_83 (by decide) ?_
                have B86 : ∀ (y5 : Int32) (y6 : Int32) (n86 : Nat) (y7 : Int32) (y8 : Int32) (q_m : Nat → Int32) (H : Heap) (locs : List Loc) (ls : Array Slot), va_P D vwCl (Wd54 cI aR q_hasImage q_place q_rowAt q_rowEnd q_seed q_thrown q_s q_m q_kept q_sort q_size q_element) H → va_D A (Wd54 cI aR q_hasImage q_place q_rowAt q_rowEnd q_seed q_thrown q_s q_m q_kept q_sort q_size q_element) → va_S A s.heap H locs → lv_has ls 9 [(0, .ref (aR 0)), (1, .int x1), (2, .int x2), (3, .int x3), (5, .int y5), (6, .int y6), (7, .int y7), (8, .int y8)] → S_MD_whatIs_L86 (S_MD_whatIs_L41 x1 x2 x3 q_s q_sort q_size q_element n41) x1 x2 y5 y6 q_sort q_size q_element n86 y7 y8 q_m = some o → W p l e rm_X12_whatIs s m ([.ref (aR 0), .int x1, .int x2, .int x3] : List Value).toArray below meth c H locs 0 0 Q (F0 m 86 ls []) := by
                  intro y5 y6
                  intro n86
                  induction n86 with
                  | zero => intro y7 y8 q_m H locs ls hP hD hS hl h; exact absurd h (by simp [S_MD_whatIs_L86])
                  | succ n86 ih86 =>
                    intro y7 y8 q_m H locs ls hP hD hS hl h
                    rw [S_MD_whatIs_L86] at h
                    refine lv_iload hx hb dX12_whatIs_86 (lv_at hl 7 rfl) ?_
                    refine lv_aload_n hx hb dX12_whatIs_88 rfl (lv_at hl 0 rfl) ?_
                    refine va_get (D := D) (ci := 12) (v := .ref (aR 11)) (C := RX12) (T := TX12) (N := 18) hx hb hts hiX12 hown hK hP 0 rfl rfl 15 (by decide) hf40 (fun _ z => z) rfl dX12_whatIs_89 ?_
                    refine lv_iload_n hx hb dX12_whatIs_92 rfl (lv_at hl 1 rfl) ?_
                    obtain ⟨g93, h⟩ := k_guard h
                    refine va_iald hx hb hK hP 5 0 rfl rfl g93 dX12_whatIs_93 ?_
                    refine lv_icmp_ge (tgt := 132) hx hb dX12_whatIs_94 (by decide) (fun c94 => ?_) (fun c94 => ?_)
                    · have h := k_pos c94 h
                      refine lv_iload hx hb dX12_whatIs_132 (lv_at hl 4 rfl) ?_
                      refine lv_iload hx hb dX12_whatIs_134 (lv_at hl 6 rfl) ?_
                      refine lv_if_eq (tgt := 146) hx hb dX12_whatIs_136 (by decide) (fun c136 => ?_) (fun c136 => ?_)
                      · have h := k_pos c136 h
                        refine lv_iconst (v := 0) hx hb dX12_whatIs_146 (by decide) ?_
                        refine lv_ior hx hb dX12_whatIs_147 ?_
                        refine lv_istore (lv' := [(5, .int (y5 ||| 0)), (0, .ref (aR 0)), (1, .int x1), (2, .int x2), (3, .int x3), (6, .int y6), (7, .int y7), (8, .int y8)]) hx hb dX12_whatIs_148 hl (by decide) rfl (fun ls hl => ?_)
                        refine lv_iinc (v := (y6 + 1)) (lv' := [(6, .int (y6 + 1)), (5, .int (y5 ||| 0)), (0, .ref (aR 0)), (1, .int x1), (2, .int x2), (3, .int x3), (7, .int y7), (8, .int y8)]) hx hb dX12_whatIs_150 hl (k := 5) rfl (by first | rfl | decide) (by decide) rfl (fun ls hl => ?_)
                        refine lv_goto (tgt := 41) hx hb dX12_whatIs_153 (by decide) ?_
                        exact ih41 (y5 ||| 0) (y6 + 1) q_m H locs ls hP hD hS (lv_sub hl [2, 3, 4, 5, 1, 0] rfl) h
                      · have h := k_neg c136 h
                        refine lv_iconst (v := 1) hx hb dX12_whatIs_139 (by decide) ?_
                        refine lv_iload hx hb dX12_whatIs_140 (lv_at hl 5 rfl) ?_
                        refine lv_ishl hx hb dX12_whatIs_142 ?_
                        refine lv_goto (tgt := 147) hx hb dX12_whatIs_143 (by decide) ?_
                        refine lv_ior hx hb dX12_whatIs_147 ?_
                        refine lv_istore (lv' := [(5, .int (y5 ||| ((1 : Int32) <<< (y6 &&& 31)))), (0, .ref (aR 0)), (1, .int x1), (2, .int x2), (3, .int x3), (6, .int y6), (7, .int y7), (8, .int y8)]) hx hb dX12_whatIs_148 hl (by decide) rfl (fun ls hl => ?_)
                        refine lv_iinc (v := (y6 + 1)) (lv' := [(6, .int (y6 + 1)), (5, .int (y5 ||| ((1 : Int32) <<< (y6 &&& 31)))), (0, .ref (aR 0)), (1, .int x1), (2, .int x2), (3, .int x3), (7, .int y7), (8, .int y8)]) hx hb dX12_whatIs_150 hl (k := 5) rfl (by first | rfl | decide) (by decide) rfl (fun ls hl => ?_)
                        refine lv_goto (tgt := 41) hx hb dX12_whatIs_153 (by decide) ?_
                        exact ih41 (y5 ||| ((1 : Int32) <<< (y6 &&& 31))) (y6 + 1) q_m H locs ls hP hD hS (lv_sub hl [2, 3, 4, 5, 1, 0] rfl) h
                    · have h := k_neg c94 h
                      refine lv_iload hx hb dX12_whatIs_97 (lv_at hl 6 rfl) ?_
                      refine lv_aload_n hx hb dX12_whatIs_99 rfl (lv_at hl 0 rfl) ?_
                      refine lv_iload_n hx hb dX12_whatIs_100 rfl (lv_at hl 1 rfl) ?_
                      refine lv_iload hx hb dX12_whatIs_101 (lv_at hl 7 rfl) ?_
                      refine lv_aload_n hx hb dX12_whatIs_103 rfl (lv_at hl 0 rfl) ?_
                      refine va_get (D := D) (ci := 12) (v := .ref (aR 2)) (C := RX12) (T := TX12) (N := 18) hx hb hts hiX12 hown hK hP 0 rfl rfl 1 (by decide) hf13 (fun _ z => z) rfl dX12_whatIs_104 ?_
                      refine lv_iload_n hx hb dX12_whatIs_107 rfl (lv_at hl 2 rfl) ?_
                      refine lv_iconst (v := 2) hx hb dX12_whatIs_108 (by decide) ?_
                      refine k_callS (As := [.int x2, .int 2]) (rest := [.ref (aR 2), .int y8, .int x1, .ref (aR 0), .int y7]) (st1 := [.int (S_MD_of x2 2), .ref (aR 2), .int y8, .int x1, .ref (aR 0), .int y7]) (ws2 := (Wd54 cI aR q_hasImage q_place q_rowAt q_rowEnd q_seed q_thrown q_s q_m q_kept q_sort q_size q_element)) hx hb hml hown hts hK hN hA hP hD hS hl (c_MD_of l D cI cM cS cJ H.size x2 2 rfl) gX12_whatIs_X12_of rfl kdS_X12_of [] ⟨rfl, rfl⟩ ⟨Nat.le_of_ble_eq_true rfl, Nat.le_of_ble_eq_true rfl⟩ ⟨Nat.zero_le _, Nat.zero_le _⟩ rfl rfl (by decide +kernel) (k_rp rfl (by decide +kernel)) rfl rfl (Nat.le_of_ble_eq_true rfl) dX12_whatIs_109 rfl (fun H locs hP hD hS => ?_)
                      obtain ⟨g112, h⟩ := k_guard h
                      refine va_iald hx hb hK hP 2 0 rfl rfl g112 dX12_whatIs_112 ?_
                      obtain ⟨r113, g113, h⟩ := k_bind h
                      refine k_callV (As := [.int x1, .int y8, .int (q_m (S_MD_of x2 2).toNatClampNeg)]) (rest := [.int y7]) (st1 := [.int r113, .int y7]) (ws2 := (Wd54 cI aR q_hasImage q_place q_rowAt q_rowEnd q_seed q_thrown q_s q_m q_kept q_sort q_size q_element)) hx hb hml hown hts hK hN hA hP hD hS hl (c_MD_isTold l D cI cM cS cJ aR H.size x1 y8 (q_m (S_MD_of x2 2).toNatClampNeg) q_hasImage q_place q_rowAt q_rowEnd q_seed q_thrown q_sort q_element g113) gX12_whatIs_X12_isTold rfl kdV_X12_isTold 0 12 rfl rfl rfl [0, 4, 6] ⟨rfl, rfl⟩ ⟨Nat.le_of_ble_eq_true rfl, Nat.le_of_ble_eq_true rfl⟩ ⟨Nat.zero_le _, Nat.zero_le _⟩ rfl rfl (by decide +kernel) (k_rp rfl (by decide +kernel)) rfl rfl (Nat.le_of_ble_eq_true rfl) dX12_whatIs_113 rfl (fun H locs hP hD hS => ?_)
                      refine lv_iand hx hb dX12_whatIs_116 ?_
                      refine lv_istore (lv' := [(7, .int (y7 &&& r113)), (0, .ref (aR 0)), (1, .int x1), (2, .int x2), (3, .int x3), (5, .int y5), (6, .int y6), (8, .int y8)]) hx hb dX12_whatIs_117 hl (by decide) rfl (fun ls hl => ?_)
                      refine lv_aload_n hx hb dX12_whatIs_119 rfl (lv_at hl 1 rfl) ?_
                      refine va_get (D := D) (ci := 12) (v := .ref (aR 2)) (C := RX12) (T := TX12) (N := 18) hx hb hts hiX12 hown hK hP 0 rfl rfl 1 (by decide) hf13 (fun _ z => z) rfl dX12_whatIs_120 ?_
                      obtain ⟨r123, g123, h⟩ := k_bind h
                      refine k_callS (As := [.ref (aR 2)]) (rest := []) (st1 := []) (ws2 := (Wd54 cI aR q_hasImage q_place q_rowAt q_rowEnd q_seed q_thrown q_s r123 q_kept q_sort q_size q_element)) hx hb hml hown hts hK hN hA hP hD hS hl (c_MD_day l D cI cM cS cJ (aR 2) H.size q_m g123) gX12_whatIs_X12_day rfl kdS_X12_day [2] ⟨rfl, rfl⟩ ⟨Nat.le_of_ble_eq_true rfl, Nat.le_of_ble_eq_true rfl⟩ ⟨Nat.zero_le _, Nat.zero_le _⟩ rfl rfl (by decide +kernel) (k_rp rfl (by decide +kernel)) rfl rfl (Nat.le_of_ble_eq_true rfl) dX12_whatIs_123 rfl (fun H locs hP hD hS => ?_)
                      refine lv_iinc (v := (y8 + 1)) (lv' := [(8, .int (y8 + 1)), (7, .int (y7 &&& r113)), (0, .ref (aR 0)), (1, .int x1), (2, .int x2), (3, .int x3), (5, .int y5), (6, .int y6)]) hx hb dX12_whatIs_126 hl (k := 7) rfl (by first | rfl | decide) (by decide) rfl (fun ls hl => ?_)
                      refine lv_goto (tgt := 86) hx hb dX12_whatIs_129 (by decide) ?_
                      exact ih86 (y7 &&& r113) (y8 + 1) r123 H locs ls hP hD hS (lv_sub hl [2, 3, 4, 5, 6, 7, 1, 0] rfl) h
                refine lv_istore (lv' := [(8, .int 0), (7, .int 1), (0, .ref (aR 0)), (1, .int x1), (2, .int x2), (3, .int x3), (5, .int y5), (6, .int y6)]) hx hb dX12_whatIs_84 hl (by decide) rfl (fun ls hl => ?_)
                exact B86 y5 y6 lfu 1 0 (upd r68 (S_MD_of x2 x3).toNatClampNeg y6) H locs ls hP hD hS (lv_sub hl [2, 3, 4, 5, 6, 7, 1, 0] rfl) h
            refine lv_if_ne (tgt := 52) hx hb dX12_whatIs_44 (by decide) (fun c44 => ?_) (fun c44 => ?_)
            · have h := k_neg c44 h
              refine lv_bipush (v := 10) hx hb dX12_whatIs_52 (by decide) ?_
              exact B54 y5 y6 y6 10 q_m H locs ls hP hD hS hl h
            · have h := k_pos c44 h
              refine lv_bipush (v := 8) hx hb dX12_whatIs_47 (by decide) ?_
              refine lv_goto (tgt := 54) hx hb dX12_whatIs_49 (by decide) ?_
              exact B54 y5 y6 y6 8 q_m H locs ls hP hD hS hl h
        refine lv_istore (lv' := [(6, .int 0), (5, .int 0), (4, .int r22), (0, .ref (aR 0)), (1, .int x1), (2, .int x2), (3, .int x3)]) hx hb dX12_whatIs_39 hl (by decide) rfl (fun ls hl => ?_)
        exact B41 lfu 0 0 q_m H locs ls hP hD hS (lv_sub hl [3, 4, 5, 6, 1, 0] rfl) h
      · have h := k_neg c29 h
        refine lv_iload hx hb dX12_whatIs_32 (lv_at hl 0 rfl) ?_
        have h := Option.some.inj h; subst h
        exact hret _ _ _ _ hP hS dX12_whatIs_34
    · have h := k_pos c14 h
      refine lv_iconst (v := (-1)) hx hb dX12_whatIs_17 (by decide) ?_
      have h := Option.some.inj h; subst h
      exact hret _ _ _ _ hP hS dX12_whatIs_18
