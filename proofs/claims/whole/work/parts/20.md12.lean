theorem kdS_X12_partOf : yX12_partOf.cls ≠ "java/lang/invoke/MethodHandle" ∧ yX12_partOf.cls ≠ "java/lang/invoke/VarHandle" ∧ (parseMethodDescriptor yX12_partOf.desc).map (fun d => d.parameters.length) = some 3 := by decide +kernel
abbrev rm_X12_shocks : Room := { frames := 4, cells := 0, slots := 0, locals := 90 }
set_option maxHeartbeats 4000000 in
set_option maxRecDepth 100000 in
theorem c_MD_shocks (l : Launch) (D : va_G) (cI cM cS cJ : ClassId) (aR : Nat → Nat) (sz : Nat) (x1 : Int32) (x2 : Int32) (x3 : Int32) (x4 : Int32) (q_hasImage : Int32) (q_place : Int32) (q_rowAt : Int32) (q_rowEnd : Int32) (q_seed : Int32) (q_thrown : Int32) (q_s : Nat → Int32) (q_m : Nat → Int32) {o : (Int64) × (Nat → Int32)} (hsem : S_MD_shocks x1 x2 x3 x4 q_s q_m = some o) : kMet l yX12_shocks wsX12_shocks rm_X12_shocks [.ref (aR 0), .int x1, .int x2, .int x3, .int x4] D (kT cI cM cS cJ) (Wd49 cI aR q_hasImage q_place q_rowAt q_rowEnd q_seed q_thrown q_s q_m) sz (some (.long o.1)) (Wd49 cI aR q_hasImage q_place q_rowAt q_rowEnd q_seed q_thrown q_s o.2) := by
  refine k_metJ (by decide) rfl rfl (Nat.le_of_ble_eq_true rfl) ?_
  intro p e s m below meth c ls Q A hx hb hml hts hown hK hN hA hP hD hS hl hsz hnm hret
  have hown : s.vm.findClass RX12 = some m.cls := hown
  have hf9 := hts (.fieldLink RX12 9 "PlumbLineModel" "s" "[I") (List.mem_of_getElem? (i := 2) rfl)
  have hf13 := hts (.fieldLink RX12 13 "PlumbLineModel" "m" "[I") (List.mem_of_getElem? (i := 3) rfl)
  have hiX12 : ∀ w ∈ u_ws RX12 TX12 18, w ∈ wsX12_shocks := fun w h => List.mem_cons_of_mem _ (List.mem_append_right _ h)
  replace hl : lv_has ls 13 [(0, .ref (aR 0)), (1, .int x1), (2, .int x2), (3, .int x3), (4, .int x4)] := hl
  have h := hsem
  clear hsem
  rw [S_MD_shocks] at h
  refine lv_aload_n hx hb dX12_shocks_0 rfl (lv_at hl 0 rfl) ?_
  refine lv_iload_n hx hb dX12_shocks_1 rfl (lv_at hl 1 rfl) ?_
  obtain ⟨r2, g2, h⟩ := k_bind h
  refine k_callV (As := [.int x1]) (rest := []) (st1 := [.int r2]) (ws2 := (Wd49 cI aR q_hasImage q_place q_rowAt q_rowEnd q_seed q_thrown q_s q_m)) hx hb hml hown hts hK hN hA hP hD hS hl (c_MD_isMan l D cI cM cS cJ aR s.heap.size x1 q_hasImage q_place q_rowAt q_rowEnd q_seed q_thrown q_s g2) gX12_shocks_X12_isMan rfl kdV_X12_isMan 0 12 rfl rfl rfl [0, 1] ⟨rfl, rfl⟩ ⟨Nat.le_of_ble_eq_true rfl, Nat.le_of_ble_eq_true rfl⟩ ⟨Nat.zero_le _, Nat.zero_le _⟩ rfl rfl (by decide +kernel) (k_rp rfl (by decide +kernel)) rfl rfl (Nat.le_of_ble_eq_true rfl) dX12_shocks_2 rfl (fun H locs hP hD hS => ?_)
  refine lv_if_eq (tgt := 38) hx hb dX12_shocks_5 (by decide) (fun c5 => ?_) (fun c5 => ?_)
  · have h := k_pos c5 h
    refine lv_ldc2 (v := 1000000001) hx hb hown (hts (.constantLong RX12 223 1000000001) (List.mem_of_getElem? (i := 1) rfl)) dX12_shocks_38 ?_
    have h := Option.some.inj h; subst h
    exact hret _ _ _ _ hP hS dX12_shocks_41
  · have h := k_neg c5 h
    refine lv_iload_n hx hb dX12_shocks_8 rfl (lv_at hl 2 rfl) ?_
    refine lv_iconst (v := 0) hx hb dX12_shocks_9 (by decide) ?_
    refine lv_bipush (v := 7) hx hb dX12_shocks_10 (by decide) ?_
    refine k_callS (As := [.int x2, .int 0, .int 7]) (rest := []) (st1 := [.int (S_MD_isIn x2 0 7)]) (ws2 := (Wd49 cI aR q_hasImage q_place q_rowAt q_rowEnd q_seed q_thrown q_s q_m)) hx hb hml hown hts hK hN hA hP hD hS hl (c_MD_isIn l D cI cM cS cJ H.size x2 0 7 rfl) gX12_shocks_X12_isIn rfl kdS_X12_isIn [] ⟨rfl, rfl⟩ ⟨Nat.le_of_ble_eq_true rfl, Nat.le_of_ble_eq_true rfl⟩ ⟨Nat.zero_le _, Nat.zero_le _⟩ rfl rfl (by decide +kernel) (k_rp rfl (by decide +kernel)) rfl rfl (Nat.le_of_ble_eq_true rfl) dX12_shocks_12 rfl (fun H locs hP hD hS => ?_)
    refine lv_if_eq (tgt := 38) hx hb dX12_shocks_15 (by decide) (fun c15 => ?_) (fun c15 => ?_)
    · have h := k_pos c15 h
      refine lv_ldc2 (v := 1000000001) hx hb hown (hts (.constantLong RX12 223 1000000001) (List.mem_of_getElem? (i := 1) rfl)) dX12_shocks_38 ?_
      have h := Option.some.inj h; subst h
      exact hret _ _ _ _ hP hS dX12_shocks_41
    · have h := k_neg c15 h
      refine lv_iload_n hx hb dX12_shocks_18 rfl (lv_at hl 3 rfl) ?_
      refine lv_iconst (v := 2) hx hb dX12_shocks_19 (by decide) ?_
      refine lv_bipush (v := 20) hx hb dX12_shocks_20 (by decide) ?_
      refine k_callS (As := [.int x3, .int 2, .int 20]) (rest := []) (st1 := [.int (S_MD_isIn x3 2 20)]) (ws2 := (Wd49 cI aR q_hasImage q_place q_rowAt q_rowEnd q_seed q_thrown q_s q_m)) hx hb hml hown hts hK hN hA hP hD hS hl (c_MD_isIn l D cI cM cS cJ H.size x3 2 20 rfl) gX12_shocks_X12_isIn rfl kdS_X12_isIn [] ⟨rfl, rfl⟩ ⟨Nat.le_of_ble_eq_true rfl, Nat.le_of_ble_eq_true rfl⟩ ⟨Nat.zero_le _, Nat.zero_le _⟩ rfl rfl (by decide +kernel) (k_rp rfl (by decide +kernel)) rfl rfl (Nat.le_of_ble_eq_true rfl) dX12_shocks_22 rfl (fun H locs hP hD hS => ?_)
      refine lv_if_eq (tgt := 38) hx hb dX12_shocks_25 (by decide) (fun c25 => ?_) (fun c25 => ?_)
      · have h := k_pos c25 h
        refine lv_ldc2 (v := 1000000001) hx hb hown (hts (.constantLong RX12 223 1000000001) (List.mem_of_getElem? (i := 1) rfl)) dX12_shocks_38 ?_
        have h := Option.some.inj h; subst h
        exact hret _ _ _ _ hP hS dX12_shocks_41
      · have h := k_neg c25 h
        refine lv_iload hx hb dX12_shocks_28 (lv_at hl 4 rfl) ?_
        refine lv_iconst (v := 0) hx hb dX12_shocks_30 (by decide) ?_
        refine lv_iconst (v := 1) hx hb dX12_shocks_31 (by decide) ?_
        refine k_callS (As := [.int x4, .int 0, .int 1]) (rest := []) (st1 := [.int (S_MD_isIn x4 0 1)]) (ws2 := (Wd49 cI aR q_hasImage q_place q_rowAt q_rowEnd q_seed q_thrown q_s q_m)) hx hb hml hown hts hK hN hA hP hD hS hl (c_MD_isIn l D cI cM cS cJ H.size x4 0 1 rfl) gX12_shocks_X12_isIn rfl kdS_X12_isIn [] ⟨rfl, rfl⟩ ⟨Nat.le_of_ble_eq_true rfl, Nat.le_of_ble_eq_true rfl⟩ ⟨Nat.zero_le _, Nat.zero_le _⟩ rfl rfl (by decide +kernel) (k_rp rfl (by decide +kernel)) rfl rfl (Nat.le_of_ble_eq_true rfl) dX12_shocks_32 rfl (fun H locs hP hD hS => ?_)
        refine lv_if_ne (tgt := 42) hx hb dX12_shocks_35 (by decide) (fun c35 => ?_) (fun c35 => ?_)
        · have h := k_neg c35 h
          refine lv_lconst (v := 0) hx hb dX12_shocks_42 (by decide) ?_
          refine lv_lstore (lv' := [(5, .long 0), (0, .ref (aR 0)), (1, .int x1), (2, .int x2), (3, .int x3), (4, .int x4)]) hx hb dX12_shocks_43 hl (by decide) rfl (fun ls hl => ?_)
          refine lv_lconst (v := 1) hx hb dX12_shocks_45 (by decide) ?_
          refine lv_lstore (lv' := [(7, .long 1), (5, .long 0), (0, .ref (aR 0)), (1, .int x1), (2, .int x2), (3, .int x3), (4, .int x4)]) hx hb dX12_shocks_46 hl (by decide) rfl (fun ls hl => ?_)
          refine lv_iconst (v := 0) hx hb dX12_shocks_48 (by decide) ?_
          have B51 : ∀ (y5 : Int64) (q_m : Nat → Int32) (n51 : Nat) (y7 : Int64) (y9 : Int32) (H : Heap) (locs : List Loc) (ls : Array Slot), va_P D vwCl (Wd49 cI aR q_hasImage q_place q_rowAt q_rowEnd q_seed q_thrown q_s q_m) H → va_D A (Wd49 cI aR q_hasImage q_place q_rowAt q_rowEnd q_seed q_thrown q_s q_m) → va_S A s.heap H locs → lv_has ls 13 [(0, .ref (aR 0)), (1, .int x1), (2, .int x2), (3, .int x3), (4, .int x4), (5, .long y5), (7, .long y7), (9, .int y9)] → S_MD_shocks_L51 x1 x2 x3 x4 y5 q_s q_m n51 y7 y9 = some o → W p l e rm_X12_shocks s m ([.ref (aR 0), .int x1, .int x2, .int x3, .int x4] : List Value).toArray below meth c H locs 0 0 Q (F0 m 51 ls []) := by
            intro y5 q_m
            intro n51
            induction n51 with
            | zero => intro y7 y9 H locs ls hP hD hS hl h; exact absurd h (by simp [S_MD_shocks_L51])
            | succ n51 ih51 =>
              intro y7 y9 H locs ls hP hD hS hl h
              rw [S_MD_shocks_L51] at h
              refine lv_iload hx hb dX12_shocks_51 (lv_at hl 7 rfl) ?_
              refine lv_iload_n hx hb dX12_shocks_53 rfl (lv_at hl 2 rfl) ?_
              refine lv_icmp_ge (tgt := 70) hx hb dX12_shocks_54 (by decide) (fun c54 => ?_) (fun c54 => ?_)
              · have h := k_pos c54 h
                refine lv_iconst (v := 0) hx hb dX12_shocks_70 (by decide) ?_
                have B73 : ∀ (y7 : Int64) (n73 : Nat) (y5 : Int64) (y9 : Int32) (q_m : Nat → Int32) (H : Heap) (locs : List Loc) (ls : Array Slot), va_P D vwCl (Wd49 cI aR q_hasImage q_place q_rowAt q_rowEnd q_seed q_thrown q_s q_m) H → va_D A (Wd49 cI aR q_hasImage q_place q_rowAt q_rowEnd q_seed q_thrown q_s q_m) → va_S A s.heap H locs → lv_has ls 13 [(0, .ref (aR 0)), (1, .int x1), (2, .int x2), (3, .int x3), (4, .int x4), (5, .long y5), (7, .long y7), (9, .int y9)] → S_MD_shocks_L73 x1 x2 x3 x4 y7 q_s n73 y5 y9 q_m = some o → W p l e rm_X12_shocks s m ([.ref (aR 0), .int x1, .int x2, .int x3, .int x4] : List Value).toArray below meth c H locs 0 0 Q (F0 m 73 ls []) := by
                  intro y7
                  intro n73
                  induction n73 with
                  | zero => intro y5 y9 q_m H locs ls hP hD hS hl h; exact absurd h (by simp [S_MD_shocks_L73])
                  | succ n73 ih73 =>
                    intro y5 y9 q_m H locs ls hP hD hS hl h
                    rw [S_MD_shocks_L73] at h
                    refine lv_iload hx hb dX12_shocks_73 (lv_at hl 7 rfl) ?_
                    refine lv_iconst (v := 1) hx hb dX12_shocks_75 (by decide) ?_
                    refine lv_iload_n hx hb dX12_shocks_76 rfl (lv_at hl 2 rfl) ?_
                    refine lv_ishl hx hb dX12_shocks_77 ?_
                    refine lv_icmp_ge (tgt := 188) hx hb dX12_shocks_78 (by decide) (fun c78 => ?_) (fun c78 => ?_)
                    · have h := k_pos c78 h
                      refine lv_lload hx hb dX12_shocks_188 (lv_at hl 5 rfl) ?_
                      refine lv_lload hx hb dX12_shocks_190 (lv_at hl 6 rfl) ?_
                      refine lv_iload hx hb dX12_shocks_192 (lv_at hl 4 rfl) ?_
                      obtain ⟨r194, g194, h⟩ := k_bind h
                      refine k_callS (As := [.long y5, .long y7, .int x4]) (rest := []) (st1 := [.long r194]) (ws2 := (Wd49 cI aR q_hasImage q_place q_rowAt q_rowEnd q_seed q_thrown q_s q_m)) hx hb hml hown hts hK hN hA hP hD hS hl (c_MD_partOf l D cI cM cS cJ H.size y5 y7 x4 g194) gX12_shocks_X12_partOf rfl kdS_X12_partOf [] ⟨rfl, rfl⟩ ⟨Nat.le_of_ble_eq_true rfl, Nat.le_of_ble_eq_true rfl⟩ ⟨Nat.zero_le _, Nat.zero_le _⟩ rfl rfl (by decide +kernel) (k_rp rfl (by decide +kernel)) rfl rfl (Nat.le_of_ble_eq_true rfl) dX12_shocks_194 rfl (fun H locs hP hD hS => ?_)
                      have h := Option.some.inj h; subst h
                      exact hret _ _ _ _ hP hS dX12_shocks_197
                    · have h := k_neg c78 h
                      refine lv_lconst (v := 1) hx hb dX12_shocks_81 (by decide) ?_
                      refine lv_lstore (lv' := [(10, .long 1), (0, .ref (aR 0)), (1, .int x1), (2, .int x2), (3, .int x3), (4, .int x4), (5, .long y5), (7, .long y7), (9, .int y9)]) hx hb dX12_shocks_82 hl (by decide) rfl (fun ls hl => ?_)
                      refine lv_aload_n hx hb dX12_shocks_84 rfl (lv_at hl 1 rfl) ?_
                      refine va_get (D := D) (ci := 12) (v := .ref (aR 1)) (C := RX12) (T := TX12) (N := 18) hx hb hts hiX12 hown hK hP 0 rfl rfl 0 (by decide) hf9 (fun _ z => z) rfl dX12_shocks_85 ?_
                      refine lv_aload_n hx hb dX12_shocks_88 rfl (lv_at hl 1 rfl) ?_
                      refine va_get (D := D) (ci := 12) (v := .ref (aR 2)) (C := RX12) (T := TX12) (N := 18) hx hb hts hiX12 hown hK hP 0 rfl rfl 1 (by decide) hf13 (fun _ z => z) rfl dX12_shocks_89 ?_
                      obtain ⟨r92, g92, h⟩ := k_bind h
                      refine k_callS (As := [.ref (aR 1), .ref (aR 2)]) (rest := []) (st1 := []) (ws2 := (Wd49 cI aR q_hasImage q_place q_rowAt q_rowEnd q_seed q_thrown q_s r92)) hx hb hml hown hts hK hN hA hP hD hS hl (c_MD_copies l D cI cM cS cJ (aR 1) (aR 2) H.size q_s q_m g92) gX12_shocks_X12_copies rfl kdS_X12_copies [1, 2] ⟨rfl, rfl⟩ ⟨Nat.le_of_ble_eq_true rfl, Nat.le_of_ble_eq_true rfl⟩ ⟨Nat.zero_le _, Nat.zero_le _⟩ rfl rfl (by decide +kernel) (k_rp rfl (by decide +kernel)) rfl rfl (Nat.le_of_ble_eq_true rfl) dX12_shocks_92 rfl (fun H locs hP hD hS => ?_)
                      refine lv_iconst (v := 0) hx hb dX12_shocks_95 (by decide) ?_
                      have B98 : ∀ (y5 : Int64) (y9 : Int32) (n98 : Nat) (y10 : Int64) (y12 : Int32) (q_m : Nat → Int32) (H : Heap) (locs : List Loc) (ls : Array Slot), va_P D vwCl (Wd49 cI aR q_hasImage q_place q_rowAt q_rowEnd q_seed q_thrown q_s q_m) H → va_D A (Wd49 cI aR q_hasImage q_place q_rowAt q_rowEnd q_seed q_thrown q_s q_m) → va_S A s.heap H locs → lv_has ls 13 [(0, .ref (aR 0)), (1, .int x1), (2, .int x2), (3, .int x3), (4, .int x4), (5, .long y5), (7, .long y7), (9, .int y9), (10, .long y10), (12, .int y12)] → S_MD_shocks_L98 (S_MD_shocks_L73 x1 x2 x3 x4 y7 q_s n73) x1 x2 x3 y5 y9 n98 y10 y12 q_m = some o → W p l e rm_X12_shocks s m ([.ref (aR 0), .int x1, .int x2, .int x3, .int x4] : List Value).toArray below meth c H locs 0 0 Q (F0 m 98 ls []) := by
                        intro y5 y9
                        intro n98
                        induction n98 with
                        | zero => intro y10 y12 q_m H locs ls hP hD hS hl h; exact absurd h (by simp [S_MD_shocks_L98])
                        | succ n98 ih98 =>
                          intro y10 y12 q_m H locs ls hP hD hS hl h
                          rw [S_MD_shocks_L98] at h
                          refine lv_iload hx hb dX12_shocks_98 (lv_at hl 9 rfl) ?_
                          refine lv_iload_n hx hb dX12_shocks_100 rfl (lv_at hl 2 rfl) ?_
                          refine lv_icmp_ge (tgt := 157) hx hb dX12_shocks_101 (by decide) (fun c101 => ?_) (fun c101 => ?_)
                          · have h := k_pos c101 h
                            refine lv_lload hx hb dX12_shocks_157 (lv_at hl 5 rfl) ?_
                            refine lv_aload_n hx hb dX12_shocks_159 rfl (lv_at hl 0 rfl) ?_
                            refine va_get (D := D) (ci := 12) (v := .ref (aR 2)) (C := RX12) (T := TX12) (N := 18) hx hb hts hiX12 hown hK hP 0 rfl rfl 1 (by decide) hf13 (fun _ z => z) rfl dX12_shocks_160 ?_
                            obtain ⟨r163, g163, h⟩ := k_bind h
                            refine k_callS (As := [.ref (aR 2)]) (rest := [.long y5]) (st1 := [.int r163, .long y5]) (ws2 := (Wd49 cI aR q_hasImage q_place q_rowAt q_rowEnd q_seed q_thrown q_s q_m)) hx hb hml hown hts hK hN hA hP hD hS hl (c_MD_upright l D cI cM cS cJ (aR 2) H.size q_m g163) gX12_shocks_X12_upright rfl kdS_X12_upright [2] ⟨rfl, rfl⟩ ⟨Nat.le_of_ble_eq_true rfl, Nat.le_of_ble_eq_true rfl⟩ ⟨Nat.zero_le _, Nat.zero_le _⟩ rfl rfl (by decide +kernel) (k_rp rfl (by decide +kernel)) rfl rfl (Nat.le_of_ble_eq_true rfl) dX12_shocks_163 rfl (fun H locs hP hD hS => ?_)
                            refine lv_iload_n hx hb dX12_shocks_166 rfl (lv_at hl 1 rfl) ?_
                            refine k_callS (As := [.int r163, .int x1]) (rest := [.long y5]) (st1 := [.int (S_MD_has r163 x1), .long y5]) (ws2 := (Wd49 cI aR q_hasImage q_place q_rowAt q_rowEnd q_seed q_thrown q_s q_m)) hx hb hml hown hts hK hN hA hP hD hS hl (c_MD_has l D cI cM cS cJ H.size r163 x1 rfl) gX12_shocks_X12_has rfl kdS_X12_has [] ⟨rfl, rfl⟩ ⟨Nat.le_of_ble_eq_true rfl, Nat.le_of_ble_eq_true rfl⟩ ⟨Nat.zero_le _, Nat.zero_le _⟩ rfl rfl (by decide +kernel) (k_rp rfl (by decide +kernel)) rfl rfl (Nat.le_of_ble_eq_true rfl) dX12_shocks_167 rfl (fun H locs hP hD hS => ?_)
                            refine lv_if_eq (tgt := 178) hx hb dX12_shocks_170 (by decide) (fun c170 => ?_) (fun c170 => ?_)
                            · have h := k_pos c170 h
                              refine lv_lconst (v := 0) hx hb dX12_shocks_178 (by decide) ?_
                              refine lv_ladd hx hb dX12_shocks_179 ?_
                              refine lv_lstore (lv' := [(5, .long (y5 + 0)), (0, .ref (aR 0)), (1, .int x1), (2, .int x2), (3, .int x3), (4, .int x4), (7, .long y7), (9, .int y9), (10, .long y10), (12, .int y12)]) hx hb dX12_shocks_180 hl (by decide) rfl (fun ls hl => ?_)
                              refine lv_iinc (v := (y9 + 1)) (lv' := [(9, .int (y9 + 1)), (5, .long (y5 + 0)), (0, .ref (aR 0)), (1, .int x1), (2, .int x2), (3, .int x3), (4, .int x4), (7, .long y7), (10, .long y10), (12, .int y12)]) hx hb dX12_shocks_182 hl (k := 7) rfl (by first | rfl | decide) (by decide) rfl (fun ls hl => ?_)
                              refine lv_goto (tgt := 73) hx hb dX12_shocks_185 (by decide) ?_
                              exact ih73 (y5 + 0) (y9 + 1) q_m H locs ls hP hD hS (lv_sub hl [2, 3, 4, 5, 6, 1, 7, 0] rfl) h
                            · have h := k_neg c170 h
                              refine lv_lload hx hb dX12_shocks_173 (lv_at hl 8 rfl) ?_
                              refine lv_goto (tgt := 179) hx hb dX12_shocks_175 (by decide) ?_
                              refine lv_ladd hx hb dX12_shocks_179 ?_
                              refine lv_lstore (lv' := [(5, .long (y5 + y10)), (0, .ref (aR 0)), (1, .int x1), (2, .int x2), (3, .int x3), (4, .int x4), (7, .long y7), (9, .int y9), (10, .long y10), (12, .int y12)]) hx hb dX12_shocks_180 hl (by decide) rfl (fun ls hl => ?_)
                              refine lv_iinc (v := (y9 + 1)) (lv' := [(9, .int (y9 + 1)), (5, .long (y5 + y10)), (0, .ref (aR 0)), (1, .int x1), (2, .int x2), (3, .int x3), (4, .int x4), (7, .long y7), (10, .long y10), (12, .int y12)]) hx hb dX12_shocks_182 hl (k := 7) rfl (by first | rfl | decide) (by decide) rfl (fun ls hl => ?_)
                              refine lv_goto (tgt := 73) hx hb dX12_shocks_185 (by decide) ?_
                              exact ih73 (y5 + y10) (y9 + 1) q_m H locs ls hP hD hS (lv_sub hl [2, 3, 4, 5, 6, 1, 7, 0] rfl) h
                          · have h := k_neg c101 h
                            refine lv_lload hx hb dX12_shocks_104 (lv_at hl 8 rfl) ?_
                            refine lv_iload hx hb dX12_shocks_106 (lv_at hl 7 rfl) ?_
                            refine lv_iload hx hb dX12_shocks_108 (lv_at hl 9 rfl) ?_
                            refine k_callS (As := [.int y9, .int y12]) (rest := [.long y10]) (st1 := [.int (S_MD_has y9 y12), .long y10]) (ws2 := (Wd49 cI aR q_hasImage q_place q_rowAt q_rowEnd q_seed q_thrown q_s q_m)) hx hb hml hown hts hK hN hA hP hD hS hl (c_MD_has l D cI cM cS cJ H.size y9 y12 rfl) gX12_shocks_X12_has rfl kdS_X12_has [] ⟨rfl, rfl⟩ ⟨Nat.le_of_ble_eq_true rfl, Nat.le_of_ble_eq_true rfl⟩ ⟨Nat.zero_le _, Nat.zero_le _⟩ rfl rfl (by decide +kernel) (k_rp rfl (by decide +kernel)) rfl rfl (Nat.le_of_ble_eq_true rfl) dX12_shocks_110 rfl (fun H locs hP hD hS => ?_)
                            have B124 : ∀ (y12 : Int32) (v0 : Int64) (v1 : Int64) (q_m : Nat → Int32) (H : Heap) (locs : List Loc) (ls : Array Slot), va_P D vwCl (Wd49 cI aR q_hasImage q_place q_rowAt q_rowEnd q_seed q_thrown q_s q_m) H → va_D A (Wd49 cI aR q_hasImage q_place q_rowAt q_rowEnd q_seed q_thrown q_s q_m) → va_S A s.heap H locs → lv_has ls 13 [(0, .ref (aR 0)), (1, .int x1), (2, .int x2), (3, .int x3), (4, .int x4), (5, .long y5), (7, .long y7), (9, .int y9), (12, .int y12)] → S_MD_shocks_J124 (S_MD_shocks_L98 (S_MD_shocks_L73 x1 x2 x3 x4 y7 q_s n73) x1 x2 x3 y5 y9 n98) y12 y9 v0 v1 q_m = some o → W p l e rm_X12_shocks s m ([.ref (aR 0), .int x1, .int x2, .int x3, .int x4] : List Value).toArray below meth c H locs 0 0 Q (F0 m 124 ls [.long v1, .long v0]) := by
                              intro y12 v0 v1 q_m H locs ls hP hD hS hl h
                              rw [S_MD_shocks_J124] at h
                              refine lv_lmul hx hb dX12_shocks_124 ?_
                              refine lv_lstore (lv' := [(10, .long (v0 * v1)), (0, .ref (aR 0)), (1, .int x1), (2, .int x2), (3, .int x3), (4, .int x4), (5, .long y5), (7, .long y7), (9, .int y9), (12, .int y12)]) hx hb dX12_shocks_125 hl (by decide) rfl (fun ls hl => ?_)
                              refine lv_iload hx hb dX12_shocks_127 (lv_at hl 8 rfl) ?_
                              refine lv_iload hx hb dX12_shocks_129 (lv_at hl 9 rfl) ?_
                              refine k_callS (As := [.int y9, .int y12]) (rest := []) (st1 := [.int (S_MD_has y9 y12)]) (ws2 := (Wd49 cI aR q_hasImage q_place q_rowAt q_rowEnd q_seed q_thrown q_s q_m)) hx hb hml hown hts hK hN hA hP hD hS hl (c_MD_has l D cI cM cS cJ H.size y9 y12 rfl) gX12_shocks_X12_has rfl kdS_X12_has [] ⟨rfl, rfl⟩ ⟨Nat.le_of_ble_eq_true rfl, Nat.le_of_ble_eq_true rfl⟩ ⟨Nat.zero_le _, Nat.zero_le _⟩ rfl rfl (by decide +kernel) (k_rp rfl (by decide +kernel)) rfl rfl (Nat.le_of_ble_eq_true rfl) dX12_shocks_131 rfl (fun H locs hP hD hS => ?_)
                              refine lv_if_eq (tgt := 144) hx hb dX12_shocks_134 (by decide) (fun c134 => ?_) (fun c134 => ?_)
                              · have h := k_pos c134 h
                                refine lv_aload_n hx hb dX12_shocks_144 rfl (lv_at hl 1 rfl) ?_
                                refine va_get (D := D) (ci := 12) (v := .ref (aR 2)) (C := RX12) (T := TX12) (N := 18) hx hb hts hiX12 hown hK hP 0 rfl rfl 1 (by decide) hf13 (fun _ z => z) rfl dX12_shocks_145 ?_
                                obtain ⟨r148, g148, h⟩ := k_bind h
                                refine k_callS (As := [.ref (aR 2)]) (rest := []) (st1 := []) (ws2 := (Wd49 cI aR q_hasImage q_place q_rowAt q_rowEnd q_seed q_thrown q_s r148)) hx hb hml hown hts hK hN hA hP hD hS hl (c_MD_day l D cI cM cS cJ (aR 2) H.size q_m g148) gX12_shocks_X12_day rfl kdS_X12_day [2] ⟨rfl, rfl⟩ ⟨Nat.le_of_ble_eq_true rfl, Nat.le_of_ble_eq_true rfl⟩ ⟨Nat.zero_le _, Nat.zero_le _⟩ rfl rfl (by decide +kernel) (k_rp rfl (by decide +kernel)) rfl rfl (Nat.le_of_ble_eq_true rfl) dX12_shocks_148 rfl (fun H locs hP hD hS => ?_)
                                refine lv_iinc (v := (y12 + 1)) (lv' := [(12, .int (y12 + 1)), (10, .long (v0 * v1)), (0, .ref (aR 0)), (1, .int x1), (2, .int x2), (3, .int x3), (4, .int x4), (5, .long y5), (7, .long y7), (9, .int y9)]) hx hb dX12_shocks_151 hl (k := 9) rfl (by first | rfl | decide) (by decide) rfl (fun ls hl => ?_)
                                refine lv_goto (tgt := 98) hx hb dX12_shocks_154 (by decide) ?_
                                exact ih98 (v0 * v1) (y12 + 1) r148 H locs ls hP hD hS (lv_sub hl [2, 3, 4, 5, 6, 7, 8, 9, 1, 0] rfl) h
                              · have h := k_neg c134 h
                                refine lv_aload_n hx hb dX12_shocks_137 rfl (lv_at hl 1 rfl) ?_
                                refine va_get (D := D) (ci := 12) (v := .ref (aR 2)) (C := RX12) (T := TX12) (N := 18) hx hb hts hiX12 hown hK hP 0 rfl rfl 1 (by decide) hf13 (fun _ z => z) rfl dX12_shocks_138 ?_
                                obtain ⟨r141, g141, h⟩ := k_bind h
                                refine k_callS (As := [.ref (aR 2)]) (rest := []) (st1 := []) (ws2 := (Wd49 cI aR q_hasImage q_place q_rowAt q_rowEnd q_seed q_thrown q_s r141)) hx hb hml hown hts hK hN hA hP hD hS hl (c_MD_turnsRound l D cI cM cS cJ (aR 2) H.size q_m g141) gX12_shocks_X12_turnsRound rfl kdS_X12_turnsRound [2] ⟨rfl, rfl⟩ ⟨Nat.le_of_ble_eq_true rfl, Nat.le_of_ble_eq_true rfl⟩ ⟨Nat.zero_le _, Nat.zero_le _⟩ rfl rfl (by decide +kernel) (k_rp rfl (by decide +kernel)) rfl rfl (Nat.le_of_ble_eq_true rfl) dX12_shocks_141 rfl (fun H locs hP hD hS => ?_)
                                refine lv_aload_n hx hb dX12_shocks_144 rfl (lv_at hl 1 rfl) ?_
                                refine va_get (D := D) (ci := 12) (v := .ref (aR 2)) (C := RX12) (T := TX12) (N := 18) hx hb hts hiX12 hown hK hP 0 rfl rfl 1 (by decide) hf13 (fun _ z => z) rfl dX12_shocks_145 ?_
                                obtain ⟨r148, g148, h⟩ := k_bind h
                                refine k_callS (As := [.ref (aR 2)]) (rest := []) (st1 := []) (ws2 := (Wd49 cI aR q_hasImage q_place q_rowAt q_rowEnd q_seed q_thrown q_s r148)) hx hb hml hown hts hK hN hA hP hD hS hl (c_MD_day l D cI cM cS cJ (aR 2) H.size r141 g148) gX12_shocks_X12_day rfl kdS_X12_day [2] ⟨rfl, rfl⟩ ⟨Nat.le_of_ble_eq_true rfl, Nat.le_of_ble_eq_true rfl⟩ ⟨Nat.zero_le _, Nat.zero_le _⟩ rfl rfl (by decide +kernel) (k_rp rfl (by decide +kernel)) rfl rfl (Nat.le_of_ble_eq_true rfl) dX12_shocks_148 rfl (fun H locs hP hD hS => ?_)
                                refine lv_iinc (v := (y12 + 1)) (lv' := [(12, .int (y12 + 1)), (10, .long (v0 * v1)), (0, .ref (aR 0)), (1, .int x1), (2, .int x2), (3, .int x3), (4, .int x4), (5, .long y5), (7, .long y7), (9, .int y9)]) hx hb dX12_shocks_151 hl (k := 9) rfl (by first | rfl | decide) (by decide) rfl (fun ls hl => ?_)
                                refine lv_goto (tgt := 98) hx hb dX12_shocks_154 (by decide) ?_
                                exact ih98 (v0 * v1) (y12 + 1) r148 H locs ls hP hD hS (lv_sub hl [2, 3, 4, 5, 6, 7, 8, 9, 1, 0] rfl) h
                            refine lv_if_eq (tgt := 120) hx hb dX12_shocks_113 (by decide) (fun c113 => ?_) (fun c113 => ?_)
                            · have h := k_pos c113 h
                              refine lv_iload_n hx hb dX12_shocks_120 rfl (lv_at hl 3 rfl) ?_
                              refine lv_iconst (v := 1) hx hb dX12_shocks_121 (by decide) ?_
                              refine lv_isub hx hb dX12_shocks_122 ?_
                              refine lv_i2l (v := ((x3 - 1) : Int32).toInt64) hx hb dX12_shocks_123 rfl ?_
                              exact B124 y12 y10 ((x3 - 1) : Int32).toInt64 q_m H locs ls hP hD hS (lv_sub hl [0, 1, 2, 3, 4, 5, 6, 7, 9] rfl) h
                            · have h := k_neg c113 h
                              refine lv_lconst (v := 1) hx hb dX12_shocks_116 (by decide) ?_
                              refine lv_goto (tgt := 124) hx hb dX12_shocks_117 (by decide) ?_
                              exact B124 y12 y10 1 q_m H locs ls hP hD hS (lv_sub hl [0, 1, 2, 3, 4, 5, 6, 7, 9] rfl) h
                      refine lv_istore (lv' := [(12, .int 0), (10, .long 1), (0, .ref (aR 0)), (1, .int x1), (2, .int x2), (3, .int x3), (4, .int x4), (5, .long y5), (7, .long y7), (9, .int y9)]) hx hb dX12_shocks_96 hl (by decide) rfl (fun ls hl => ?_)
                      exact B98 y5 y9 lfu 1 0 r92 H locs ls hP hD hS (lv_sub hl [2, 3, 4, 5, 6, 7, 8, 9, 1, 0] rfl) h
                refine lv_istore (lv' := [(9, .int 0), (0, .ref (aR 0)), (1, .int x1), (2, .int x2), (3, .int x3), (4, .int x4), (5, .long y5), (7, .long y7)]) hx hb dX12_shocks_71 hl (by decide) rfl (fun ls hl => ?_)
                exact B73 y7 lfu y5 0 q_m H locs ls hP hD hS (lv_sub hl [1, 2, 3, 4, 5, 6, 7, 0] rfl) h
              · have h := k_neg c54 h
                refine lv_lload hx hb dX12_shocks_57 (lv_at hl 6 rfl) ?_
                refine lv_iload_n hx hb dX12_shocks_59 rfl (lv_at hl 3 rfl) ?_
                refine lv_i2l (v := (x3 : Int32).toInt64) hx hb dX12_shocks_60 rfl ?_
                refine lv_lmul hx hb dX12_shocks_61 ?_
                refine lv_lstore (lv' := [(7, .long (y7 * (x3 : Int32).toInt64)), (0, .ref (aR 0)), (1, .int x1), (2, .int x2), (3, .int x3), (4, .int x4), (5, .long y5), (9, .int y9)]) hx hb dX12_shocks_62 hl (by decide) rfl (fun ls hl => ?_)
                refine lv_iinc (v := (y9 + 1)) (lv' := [(9, .int (y9 + 1)), (7, .long (y7 * (x3 : Int32).toInt64)), (0, .ref (aR 0)), (1, .int x1), (2, .int x2), (3, .int x3), (4, .int x4), (5, .long y5)]) hx hb dX12_shocks_64 hl (k := 7) rfl (by first | rfl | decide) (by decide) rfl (fun ls hl => ?_)
                refine lv_goto (tgt := 51) hx hb dX12_shocks_67 (by decide) ?_
                exact ih51 (y7 * (x3 : Int32).toInt64) (y9 + 1) H locs ls hP hD hS (lv_sub hl [2, 3, 4, 5, 6, 7, 1, 0] rfl) h
          refine lv_istore (lv' := [(9, .int 0), (7, .long 1), (5, .long 0), (0, .ref (aR 0)), (1, .int x1), (2, .int x2), (3, .int x3), (4, .int x4)]) hx hb dX12_shocks_49 hl (by decide) rfl (fun ls hl => ?_)
          exact B51 0 q_m lfu 1 0 H locs ls hP hD hS (lv_sub hl [3, 4, 5, 6, 7, 2, 1, 0] rfl) h
        · have h := k_pos c35 h
          refine lv_ldc2 (v := 1000000001) hx hb hown (hts (.constantLong RX12 223 1000000001) (List.mem_of_getElem? (i := 1) rfl)) dX12_shocks_38 ?_
          have h := Option.some.inj h; subst h
          exact hret _ _ _ _ hP hS dX12_shocks_41
abbrev rm_X12_mean : Room := { frames := 2, cells := 0, slots := 0, locals := 53 }
set_option maxHeartbeats 4000000 in
set_option maxRecDepth 100000 in
theorem c_MD_mean (l : Launch) (D : va_G) (cI cM cS cJ : ClassId) (aR : Nat → Nat) (sz : Nat) (x1 : Int32) (q_hasImage : Int32) (q_place : Int32) (q_rowAt : Int32) (q_rowEnd : Int32) (q_seed : Int32) (q_thrown : Int32) (q_s : Nat → Int32) {o : (Int64)} (hsem : S_MD_mean x1 q_s = some o) : kMet l yX12_mean wsX12_mean rm_X12_mean [.ref (aR 0), .int x1] D (kT cI cM cS cJ) (Wd40 cI aR q_hasImage q_place q_rowAt q_rowEnd q_seed q_thrown q_s) sz (some (.long o)) (Wd40 cI aR q_hasImage q_place q_rowAt q_rowEnd q_seed q_thrown q_s) := by
  refine k_metJ (by decide) rfl rfl (Nat.le_of_ble_eq_true rfl) ?_
  intro p e s m below meth c ls Q A hx hb hml hts hown hK hN hA hP hD hS hl hsz hnm hret
  have hown : s.vm.findClass RX12 = some m.cls := hown
  have hf9 := hts (.fieldLink RX12 9 "PlumbLineModel" "s" "[I") (List.mem_of_getElem? (i := 1) rfl)
  have hiX12 : ∀ w ∈ u_ws RX12 TX12 18, w ∈ wsX12_mean := fun w h => List.mem_cons_of_mem _ (List.mem_append_right _ h)
  replace hl : lv_has ls 2 [(0, .ref (aR 0)), (1, .int x1)] := hl
  have h := hsem
  clear hsem
  rw [S_MD_mean] at h
  refine lv_iload_n hx hb dX12_mean_0 rfl (lv_at hl 1 rfl) ?_
  refine lv_iconst (v := 0) hx hb dX12_mean_1 (by decide) ?_
  refine lv_iconst (v := 1) hx hb dX12_mean_2 (by decide) ?_
  refine k_callS (As := [.int x1, .int 0, .int 1]) (rest := []) (st1 := [.int (S_MD_isIn x1 0 1)]) (ws2 := (Wd40 cI aR q_hasImage q_place q_rowAt q_rowEnd q_seed q_thrown q_s)) hx hb hml hown hts hK hN hA hP hD hS hl (c_MD_isIn l D cI cM cS cJ s.heap.size x1 0 1 rfl) gX12_mean_X12_isIn rfl kdS_X12_isIn [] ⟨rfl, rfl⟩ ⟨Nat.le_of_ble_eq_true rfl, Nat.le_of_ble_eq_true rfl⟩ ⟨Nat.zero_le _, Nat.zero_le _⟩ rfl rfl (by decide +kernel) (k_rp rfl (by decide +kernel)) rfl rfl (Nat.le_of_ble_eq_true rfl) dX12_mean_3 rfl (fun H locs hP hD hS => ?_)
  refine lv_if_eq (tgt := 41) hx hb dX12_mean_6 (by decide) (fun c6 => ?_) (fun c6 => ?_)
  · have h := k_pos c6 h
    refine lv_ldc2 (v := 1000000001) hx hb hown (hts (.constantLong RX12 223 1000000001) (List.mem_of_getElem? (i := 2) rfl)) dX12_mean_41 ?_
    have h := Option.some.inj h; subst h
    exact hret _ _ _ _ hP hS dX12_mean_44
  · have h := k_neg c6 h
    refine lv_aload_n hx hb dX12_mean_9 rfl (lv_at hl 0 rfl) ?_
    refine va_get (D := D) (ci := 12) (v := .ref (aR 1)) (C := RX12) (T := TX12) (N := 18) hx hb hts hiX12 hown hK hP 0 rfl rfl 0 (by decide) hf9 (fun _ z => z) rfl dX12_mean_10 ?_
    obtain ⟨r13, g13, h⟩ := k_bind h
    refine k_callS (As := [.ref (aR 1)]) (rest := []) (st1 := [.int r13]) (ws2 := (Wd40 cI aR q_hasImage q_place q_rowAt q_rowEnd q_seed q_thrown q_s)) hx hb hml hown hts hK hN hA hP hD hS hl (c_MD_leanSum l D cI cM cS cJ (aR 1) H.size q_s g13) gX12_mean_X12_leanSum rfl kdS_X12_leanSum [1] ⟨rfl, rfl⟩ ⟨Nat.le_of_ble_eq_true rfl, Nat.le_of_ble_eq_true rfl⟩ ⟨Nat.zero_le _, Nat.zero_le _⟩ rfl rfl (by decide +kernel) (k_rp rfl (by decide +kernel)) rfl rfl (Nat.le_of_ble_eq_true rfl) dX12_mean_13 rfl (fun H locs hP hD hS => ?_)
    refine lv_bipush (v := 45) hx hb dX12_mean_16 (by decide) ?_
    refine lv_aload_n hx hb dX12_mean_18 rfl (lv_at hl 0 rfl) ?_
    refine va_get (D := D) (ci := 12) (v := .ref (aR 1)) (C := RX12) (T := TX12) (N := 18) hx hb hts hiX12 hown hK hP 0 rfl rfl 0 (by decide) hf9 (fun _ z => z) rfl dX12_mean_19 ?_
    refine lv_iconst (v := 0) hx hb dX12_mean_22 (by decide) ?_
    refine va_iald hx hb hK hP 1 0 rfl rfl (show ¬ ((0 : Int32) < 0 ∨ 37 ≤ (0 : Int32).toNatClampNeg) by decide) dX12_mean_23 ?_
    refine lv_imul hx hb dX12_mean_24 ?_
    refine lv_iadd hx hb dX12_mean_25 ?_
    refine lv_i2l (v := ((r13 + ((45 : Int32) * (q_s (0 : Int32).toNatClampNeg))) : Int32).toInt64) hx hb dX12_mean_26 rfl ?_
    refine lv_aload_n hx hb dX12_mean_27 rfl (lv_at hl 0 rfl) ?_
    refine va_get (D := D) (ci := 12) (v := .ref (aR 1)) (C := RX12) (T := TX12) (N := 18) hx hb hts hiX12 hown hK hP 0 rfl rfl 0 (by decide) hf9 (fun _ z => z) rfl dX12_mean_28 ?_
    refine lv_iconst (v := 0) hx hb dX12_mean_31 (by decide) ?_
    refine va_iald hx hb hK hP 1 0 rfl rfl (show ¬ ((0 : Int32) < 0 ∨ 37 ≤ (0 : Int32).toNatClampNeg) by decide) dX12_mean_32 ?_
    refine lv_i2l (v := ((q_s (0 : Int32).toNatClampNeg) : Int32).toInt64) hx hb dX12_mean_33 rfl ?_
    refine lv_iload_n hx hb dX12_mean_34 rfl (lv_at hl 1 rfl) ?_
    obtain ⟨r35, g35, h⟩ := k_bind h
    refine k_callS (As := [.long ((r13 + ((45 : Int32) * (q_s (0 : Int32).toNatClampNeg))) : Int32).toInt64, .long ((q_s (0 : Int32).toNatClampNeg) : Int32).toInt64, .int x1]) (rest := []) (st1 := [.long r35]) (ws2 := (Wd40 cI aR q_hasImage q_place q_rowAt q_rowEnd q_seed q_thrown q_s)) hx hb hml hown hts hK hN hA hP hD hS hl (c_MD_partOf l D cI cM cS cJ H.size (((r13 + ((45 : Int32) * (q_s (0 : Int32).toNatClampNeg))) : Int32).toInt64) (((q_s (0 : Int32).toNatClampNeg) : Int32).toInt64) x1 g35) gX12_mean_X12_partOf rfl kdS_X12_partOf [] ⟨rfl, rfl⟩ ⟨Nat.le_of_ble_eq_true rfl, Nat.le_of_ble_eq_true rfl⟩ ⟨Nat.zero_le _, Nat.zero_le _⟩ rfl rfl (by decide +kernel) (k_rp rfl (by decide +kernel)) rfl rfl (Nat.le_of_ble_eq_true rfl) dX12_mean_35 rfl (fun H locs hP hD hS => ?_)
    refine lv_goto (tgt := 44) hx hb dX12_mean_38 (by decide) ?_
    have h := Option.some.inj h; subst h
    exact hret _ _ _ _ hP hS dX12_mean_44
abbrev Wd56 (cI : ClassId) (aR : Nat → Nat) (q_hasImage : Int32) (q_place : Int32) (q_rowAt : Int32) (q_rowEnd : Int32) (q_seed : Int32) (q_thrown : Int32) (q_s : Nat → Int32) (q_kept : Nat → Int32) (q_sort : Nat → Int32) (q_size : Nat → Int32) (q_element : Nat → Int32) : va_W := [((aR 0), .inr (12, [.ref (aR 1), .ref (aR 2), .ref (aR 3), .ref (aR 4), .int q_hasImage, .int q_place, .int q_rowAt, .int q_rowEnd, .ref (aR 5), .ref (aR 6), .int q_seed, .ref (aR 7), .ref (aR 8), .ref (aR 9), .ref (aR 10), .ref (aR 11), .ref (aR 12), .int q_thrown])), ((aR 1), .inl (cI, 37, .inl q_s)), ((aR 7), .inl (cI, 8, .inl q_kept)), ((aR 10), .inl (cI, 8, .inl q_sort)), ((aR 11), .inl (cI, 8, .inl q_size)), ((aR 12), .inl (cI, 800, .inl q_element))]
abbrev rm_X12_forged : Room := { frames := 3, cells := 0, slots := 0, locals := 64 }
set_option maxHeartbeats 4000000 in
set_option maxRecDepth 100000 in
theorem c_MD_forged (l : Launch) (D : va_G) (cI cM cS cJ : ClassId) (aR : Nat → Nat) (sz : Nat) (x1 : Int32) (q_hasImage : Int32) (q_place : Int32) (q_rowAt : Int32) (q_rowEnd : Int32) (q_seed : Int32) (q_thrown : Int32) (q_s : Nat → Int32) (q_kept : Nat → Int32) (q_sort : Nat → Int32) (q_size : Nat → Int32) (q_element : Nat → Int32) {o : (Int32)} (hsem : S_MD_forged x1 q_s q_kept q_sort q_size q_element = some o) : kMet l yX12_forged wsX12_forged rm_X12_forged [.ref (aR 0), .int x1] D (kT cI cM cS cJ) (Wd56 cI aR q_hasImage q_place q_rowAt q_rowEnd q_seed q_thrown q_s q_kept q_sort q_size q_element) sz (some (.int o)) (Wd56 cI aR q_hasImage q_place q_rowAt q_rowEnd q_seed q_thrown q_s q_kept q_sort q_size q_element) := by
  refine k_metI (by decide) rfl rfl (Nat.le_of_ble_eq_true rfl) ?_
  intro p e s m below meth c ls Q A hx hb hml hts hown hK hN hA hP hD hS hl hsz hnm hret
  have hown : s.vm.findClass RX12 = some m.cls := hown
  have hf40 := hts (.fieldLink RX12 40 "PlumbLineModel" "size" "[I") (List.mem_of_getElem? (i := 1) rfl)
  have hf43 := hts (.fieldLink RX12 43 "PlumbLineModel" "element" "[I") (List.mem_of_getElem? (i := 2) rfl)
  have hf9 := hts (.fieldLink RX12 9 "PlumbLineModel" "s" "[I") (List.mem_of_getElem? (i := 3) rfl)
  have hiX12 : ∀ w ∈ u_ws RX12 TX12 18, w ∈ wsX12_forged := fun w h => List.mem_cons_of_mem _ (List.mem_append_right _ h)
  replace hl : lv_has ls 4 [(0, .ref (aR 0)), (1, .int x1)] := hl
  have h := hsem
  clear hsem
  rw [S_MD_forged] at h
  refine lv_aload_n hx hb dX12_forged_0 rfl (lv_at hl 0 rfl) ?_
  refine lv_iload_n hx hb dX12_forged_1 rfl (lv_at hl 1 rfl) ?_
  refine lv_iconst (v := (-1)) hx hb dX12_forged_2 (by decide) ?_
  obtain ⟨r3, g3, h⟩ := k_bind h
  refine k_callV (As := [.int x1, .int (-1)]) (rest := []) (st1 := [.int r3]) (ws2 := (Wd56 cI aR q_hasImage q_place q_rowAt q_rowEnd q_seed q_thrown q_s q_kept q_sort q_size q_element)) hx hb hml hown hts hK hN hA hP hD hS hl (c_MD_wrongRow l D cI cM cS cJ aR s.heap.size x1 (-1) q_hasImage q_place q_rowAt q_rowEnd q_seed q_thrown q_kept q_sort g3) gX12_forged_X12_wrongRow rfl kdV_X12_wrongRow 0 12 rfl rfl rfl [0, 2, 3] ⟨rfl, rfl⟩ ⟨Nat.le_of_ble_eq_true rfl, Nat.le_of_ble_eq_true rfl⟩ ⟨Nat.zero_le _, Nat.zero_le _⟩ rfl rfl (by decide +kernel) (k_rp rfl (by decide +kernel)) rfl rfl (Nat.le_of_ble_eq_true rfl) dX12_forged_3 rfl (fun H locs hP hD hS => ?_)
  refine lv_istore_n (lv' := [(2, .int r3), (0, .ref (aR 0)), (1, .int x1)]) hx hb dX12_forged_6 rfl hl (by decide) rfl (fun ls hl => ?_)
  refine lv_iload_n hx hb dX12_forged_7 rfl (lv_at hl 0 rfl) ?_
  refine lv_if_eq (tgt := 13) hx hb dX12_forged_8 (by decide) (fun c8 => ?_) (fun c8 => ?_)
  · have h := k_pos c8 h
    refine lv_iconst (v := 0) hx hb dX12_forged_13 (by decide) ?_
    have B15 : ∀ (n15 : Nat) (y3 : Int32) (H : Heap) (locs : List Loc) (ls : Array Slot), va_P D vwCl (Wd56 cI aR q_hasImage q_place q_rowAt q_rowEnd q_seed q_thrown q_s q_kept q_sort q_size q_element) H → va_D A (Wd56 cI aR q_hasImage q_place q_rowAt q_rowEnd q_seed q_thrown q_s q_kept q_sort q_size q_element) → va_S A s.heap H locs → lv_has ls 4 [(0, .ref (aR 0)), (1, .int x1), (3, .int y3)] → S_MD_forged_L15 x1 q_s q_size q_element n15 y3 = some o → W p l e rm_X12_forged s m ([.ref (aR 0), .int x1] : List Value).toArray below meth c H locs 0 0 Q (F0 m 15 ls []) := by
      intro n15
      induction n15 with
      | zero => intro y3 H locs ls hP hD hS hl h; exact absurd h (by simp [S_MD_forged_L15])
      | succ n15 ih15 =>
        intro y3 H locs ls hP hD hS hl h
        rw [S_MD_forged_L15] at h
        refine lv_iload_n hx hb dX12_forged_15 rfl (lv_at hl 2 rfl) ?_
        refine lv_aload_n hx hb dX12_forged_16 rfl (lv_at hl 0 rfl) ?_
        refine va_get (D := D) (ci := 12) (v := .ref (aR 11)) (C := RX12) (T := TX12) (N := 18) hx hb hts hiX12 hown hK hP 0 rfl rfl 15 (by decide) hf40 (fun _ z => z) rfl dX12_forged_17 ?_
        refine lv_iload_n hx hb dX12_forged_20 rfl (lv_at hl 1 rfl) ?_
        obtain ⟨g21, h⟩ := k_guard h
        refine va_iald hx hb hK hP 4 0 rfl rfl g21 dX12_forged_21 ?_
        refine lv_icmp_ge (tgt := 65) hx hb dX12_forged_22 (by decide) (fun c22 => ?_) (fun c22 => ?_)
        · have h := k_pos c22 h
          refine lv_bipush (v := (-4)) hx hb dX12_forged_65 (by decide) ?_
          have h := Option.some.inj h; subst h
          exact hret _ _ _ _ hP hS dX12_forged_67
        · have h := k_neg c22 h
          refine lv_aload_n hx hb dX12_forged_25 rfl (lv_at hl 0 rfl) ?_
          refine lv_iload_n hx hb dX12_forged_26 rfl (lv_at hl 2 rfl) ?_
          obtain ⟨r27, g27, h⟩ := k_bind h
          refine k_callV (As := [.int y3]) (rest := []) (st1 := [.int r27]) (ws2 := (Wd56 cI aR q_hasImage q_place q_rowAt q_rowEnd q_seed q_thrown q_s q_kept q_sort q_size q_element)) hx hb hml hown hts hK hN hA hP hD hS hl (c_MD_isMan l D cI cM cS cJ aR H.size y3 q_hasImage q_place q_rowAt q_rowEnd q_seed q_thrown q_s g27) gX12_forged_X12_isMan rfl kdV_X12_isMan 0 12 rfl rfl rfl [0, 1] ⟨rfl, rfl⟩ ⟨Nat.le_of_ble_eq_true rfl, Nat.le_of_ble_eq_true rfl⟩ ⟨Nat.zero_le _, Nat.zero_le _⟩ rfl rfl (by decide +kernel) (k_rp rfl (by decide +kernel)) rfl rfl (Nat.le_of_ble_eq_true rfl) dX12_forged_27 rfl (fun H locs hP hD hS => ?_)
          refine lv_if_eq (tgt := 57) hx hb dX12_forged_30 (by decide) (fun c30 => ?_) (fun c30 => ?_)
          · have h := k_pos c30 h
            refine lv_iload_n hx hb dX12_forged_57 rfl (lv_at hl 2 rfl) ?_
            have h := Option.some.inj h; subst h
            exact hret _ _ _ _ hP hS dX12_forged_58
          · have h := k_neg c30 h
            refine lv_aload_n hx hb dX12_forged_33 rfl (lv_at hl 0 rfl) ?_
            refine va_get (D := D) (ci := 12) (v := .ref (aR 12)) (C := RX12) (T := TX12) (N := 18) hx hb hts hiX12 hown hK hP 0 rfl rfl 16 (by decide) hf43 (fun _ z => z) rfl dX12_forged_34 ?_
            refine lv_bipush (v := 100) hx hb dX12_forged_37 (by decide) ?_
            refine lv_iload_n hx hb dX12_forged_39 rfl (lv_at hl 1 rfl) ?_
            refine lv_imul hx hb dX12_forged_40 ?_
            refine lv_iload_n hx hb dX12_forged_41 rfl (lv_at hl 2 rfl) ?_
            refine lv_iadd hx hb dX12_forged_42 ?_
            obtain ⟨g43, h⟩ := k_guard h
            refine va_iald hx hb hK hP 5 0 rfl rfl g43 dX12_forged_43 ?_
            refine lv_aload_n hx hb dX12_forged_44 rfl (lv_at hl 0 rfl) ?_
            refine va_get (D := D) (ci := 12) (v := .ref (aR 1)) (C := RX12) (T := TX12) (N := 18) hx hb hts hiX12 hown hK hP 0 rfl rfl 0 (by decide) hf9 (fun _ z => z) rfl dX12_forged_45 ?_
            refine lv_iload_n hx hb dX12_forged_48 rfl (lv_at hl 2 rfl) ?_
            refine lv_iconst (v := 2) hx hb dX12_forged_49 (by decide) ?_
            refine k_callS (As := [.int y3, .int 2]) (rest := [.ref (aR 1), .int (q_element (((100 : Int32) * x1) + y3).toNatClampNeg)]) (st1 := [.int (S_MD_of y3 2), .ref (aR 1), .int (q_element (((100 : Int32) * x1) + y3).toNatClampNeg)]) (ws2 := (Wd56 cI aR q_hasImage q_place q_rowAt q_rowEnd q_seed q_thrown q_s q_kept q_sort q_size q_element)) hx hb hml hown hts hK hN hA hP hD hS hl (c_MD_of l D cI cM cS cJ H.size y3 2 rfl) gX12_forged_X12_of rfl kdS_X12_of [] ⟨rfl, rfl⟩ ⟨Nat.le_of_ble_eq_true rfl, Nat.le_of_ble_eq_true rfl⟩ ⟨Nat.zero_le _, Nat.zero_le _⟩ rfl rfl (by decide +kernel) (k_rp rfl (by decide +kernel)) rfl rfl (Nat.le_of_ble_eq_true rfl) dX12_forged_50 rfl (fun H locs hP hD hS => ?_)
            obtain ⟨g53, h⟩ := k_guard h
            refine va_iald hx hb hK hP 1 0 rfl rfl g53 dX12_forged_53 ?_
            refine lv_icmp_eq (tgt := 59) hx hb dX12_forged_54 (by decide) (fun c54 => ?_) (fun c54 => ?_)
            · have h := k_pos c54 h
              refine lv_iinc (v := (y3 + 1)) (lv' := [(3, .int (y3 + 1)), (0, .ref (aR 0)), (1, .int x1)]) hx hb dX12_forged_59 hl (k := 2) rfl (by first | rfl | decide) (by decide) rfl (fun ls hl => ?_)
              refine lv_goto (tgt := 15) hx hb dX12_forged_62 (by decide) ?_
              exact ih15 (y3 + 1) H locs ls hP hD hS (lv_sub hl [1, 2, 0] rfl) h
            · have h := k_neg c54 h
              refine lv_iload_n hx hb dX12_forged_57 rfl (lv_at hl 2 rfl) ?_
              have h := Option.some.inj h; subst h
              exact hret _ _ _ _ hP hS dX12_forged_58
    refine lv_istore_n (lv' := [(3, .int 0), (2, .int r3), (0, .ref (aR 0)), (1, .int x1)]) hx hb dX12_forged_14 rfl hl (by decide) rfl (fun ls hl => ?_)
    exact B15 lfu 0 H locs ls hP hD hS (lv_sub hl [2, 3, 0] rfl) h
  · have h := k_neg c8 h
    refine lv_iload_n hx hb dX12_forged_11 rfl (lv_at hl 0 rfl) ?_
    have h := Option.some.inj h; subst h
    exact hret _ _ _ _ hP hS dX12_forged_12
abbrev rm_X12_judge : Room := { frames := 4, cells := 0, slots := 0, locals := 90 }
set_option maxHeartbeats 4000000 in
set_option maxRecDepth 100000 in
theorem c_MD_judge (l : Launch) (D : va_G) (cI cM cS cJ : ClassId) (aR : Nat → Nat) (sz : Nat) (x1 : Int32) (q_hasImage : Int32) (q_place : Int32) (q_rowAt : Int32) (q_rowEnd : Int32) (q_seed : Int32) (q_thrown : Int32) (q_s : Nat → Int32) (q_m : Nat → Int32) (q_kept : Nat → Int32) (q_sort : Nat → Int32) (q_size : Nat → Int32) (q_element : Nat → Int32) {o : (Int32) × (Nat → Int32)} (hsem : S_MD_judge x1 q_s q_m q_kept q_sort q_size q_element = some o) : kMet l yX12_judge wsX12_judge rm_X12_judge [.ref (aR 0), .int x1] D (kT cI cM cS cJ) (Wd54 cI aR q_hasImage q_place q_rowAt q_rowEnd q_seed q_thrown q_s q_m q_kept q_sort q_size q_element) sz (some (.int o.1)) (Wd54 cI aR q_hasImage q_place q_rowAt q_rowEnd q_seed q_thrown q_s o.2 q_kept q_sort q_size q_element) := by
  refine k_metI (by decide) rfl rfl (Nat.le_of_ble_eq_true rfl) ?_
  intro p e s m below meth c ls Q A hx hb hml hts hown hK hN hA hP hD hS hl hsz hnm hret
  have hown : s.vm.findClass RX12 = some m.cls := hown
  have hf9 := hts (.fieldLink RX12 9 "PlumbLineModel" "s" "[I") (List.mem_of_getElem? (i := 1) rfl)
  have hf13 := hts (.fieldLink RX12 13 "PlumbLineModel" "m" "[I") (List.mem_of_getElem? (i := 2) rfl)
  have hf40 := hts (.fieldLink RX12 40 "PlumbLineModel" "size" "[I") (List.mem_of_getElem? (i := 3) rfl)
  have hiX12 : ∀ w ∈ u_ws RX12 TX12 18, w ∈ wsX12_judge := fun w h => List.mem_cons_of_mem _ (List.mem_append_right _ h)
  replace hl : lv_has ls 4 [(0, .ref (aR 0)), (1, .int x1)] := hl
  have h := hsem
  clear hsem
  rw [S_MD_judge] at h
  refine lv_aload_n hx hb dX12_judge_0 rfl (lv_at hl 0 rfl) ?_
  refine lv_iload_n hx hb dX12_judge_1 rfl (lv_at hl 1 rfl) ?_
  refine lv_iconst (v := (-1)) hx hb dX12_judge_2 (by decide) ?_
  obtain ⟨r3, g3, h⟩ := k_bind h
  refine k_callV (As := [.int x1, .int (-1)]) (rest := []) (st1 := [.int r3]) (ws2 := (Wd54 cI aR q_hasImage q_place q_rowAt q_rowEnd q_seed q_thrown q_s q_m q_kept q_sort q_size q_element)) hx hb hml hown hts hK hN hA hP hD hS hl (c_MD_wrongRow l D cI cM cS cJ aR s.heap.size x1 (-1) q_hasImage q_place q_rowAt q_rowEnd q_seed q_thrown q_kept q_sort g3) gX12_judge_X12_wrongRow rfl kdV_X12_wrongRow 0 12 rfl rfl rfl [0, 3, 4] ⟨rfl, rfl⟩ ⟨Nat.le_of_ble_eq_true rfl, Nat.le_of_ble_eq_true rfl⟩ ⟨Nat.zero_le _, Nat.zero_le _⟩ rfl rfl (by decide +kernel) (k_rp rfl (by decide +kernel)) rfl rfl (Nat.le_of_ble_eq_true rfl) dX12_judge_3 rfl (fun H locs hP hD hS => ?_)
  refine lv_istore_n (lv' := [(2, .int r3), (0, .ref (aR 0)), (1, .int x1)]) hx hb dX12_judge_6 rfl hl (by decide) rfl (fun ls hl => ?_)
  refine lv_iload_n hx hb dX12_judge_7 rfl (lv_at hl 0 rfl) ?_
  refine lv_if_eq (tgt := 13) hx hb dX12_judge_8 (by decide) (fun c8 => ?_) (fun c8 => ?_)
  · have h := k_pos c8 h
    refine lv_aload_n hx hb dX12_judge_13 rfl (lv_at hl 1 rfl) ?_
    refine va_get (D := D) (ci := 12) (v := .ref (aR 1)) (C := RX12) (T := TX12) (N := 18) hx hb hts hiX12 hown hK hP 0 rfl rfl 0 (by decide) hf9 (fun _ z => z) rfl dX12_judge_14 ?_
    refine lv_aload_n hx hb dX12_judge_17 rfl (lv_at hl 1 rfl) ?_
    refine va_get (D := D) (ci := 12) (v := .ref (aR 2)) (C := RX12) (T := TX12) (N := 18) hx hb hts hiX12 hown hK hP 0 rfl rfl 1 (by decide) hf13 (fun _ z => z) rfl dX12_judge_18 ?_
    obtain ⟨r21, g21, h⟩ := k_bind h
    refine k_callS (As := [.ref (aR 1), .ref (aR 2)]) (rest := []) (st1 := []) (ws2 := (Wd54 cI aR q_hasImage q_place q_rowAt q_rowEnd q_seed q_thrown q_s r21 q_kept q_sort q_size q_element)) hx hb hml hown hts hK hN hA hP hD hS hl (c_MD_copies l D cI cM cS cJ (aR 1) (aR 2) H.size q_s q_m g21) gX12_judge_X12_copies rfl kdS_X12_copies [1, 2] ⟨rfl, rfl⟩ ⟨Nat.le_of_ble_eq_true rfl, Nat.le_of_ble_eq_true rfl⟩ ⟨Nat.zero_le _, Nat.zero_le _⟩ rfl rfl (by decide +kernel) (k_rp rfl (by decide +kernel)) rfl rfl (Nat.le_of_ble_eq_true rfl) dX12_judge_21 rfl (fun H locs hP hD hS => ?_)
    refine lv_iconst (v := 0) hx hb dX12_judge_24 (by decide) ?_
    have B26 : ∀ (n26 : Nat) (y3 : Int32) (q_m : Nat → Int32) (H : Heap) (locs : List Loc) (ls : Array Slot), va_P D vwCl (Wd54 cI aR q_hasImage q_place q_rowAt q_rowEnd q_seed q_thrown q_s q_m q_kept q_sort q_size q_element) H → va_D A (Wd54 cI aR q_hasImage q_place q_rowAt q_rowEnd q_seed q_thrown q_s q_m q_kept q_sort q_size q_element) → va_S A s.heap H locs → lv_has ls 4 [(0, .ref (aR 0)), (1, .int x1), (3, .int y3)] → S_MD_judge_L26 x1 q_sort q_size q_element n26 y3 q_m = some o → W p l e rm_X12_judge s m ([.ref (aR 0), .int x1] : List Value).toArray below meth c H locs 0 0 Q (F0 m 26 ls []) := by
      intro n26
      induction n26 with
      | zero => intro y3 q_m H locs ls hP hD hS hl h; exact absurd h (by simp [S_MD_judge_L26])
      | succ n26 ih26 =>
        intro y3 q_m H locs ls hP hD hS hl h
        rw [S_MD_judge_L26] at h
        refine lv_iload_n hx hb dX12_judge_26 rfl (lv_at hl 2 rfl) ?_
        refine lv_aload_n hx hb dX12_judge_27 rfl (lv_at hl 0 rfl) ?_
        refine va_get (D := D) (ci := 12) (v := .ref (aR 11)) (C := RX12) (T := TX12) (N := 18) hx hb hts hiX12 hown hK hP 0 rfl rfl 15 (by decide) hf40 (fun _ z => z) rfl dX12_judge_28 ?_
        refine lv_iload_n hx hb dX12_judge_31 rfl (lv_at hl 1 rfl) ?_
        obtain ⟨g32, h⟩ := k_guard h
        refine va_iald hx hb hK hP 5 0 rfl rfl g32 dX12_judge_32 ?_
        refine lv_icmp_ge (tgt := 70) hx hb dX12_judge_33 (by decide) (fun c33 => ?_) (fun c33 => ?_)
        · have h := k_pos c33 h
          refine lv_bipush (v := (-4)) hx hb dX12_judge_70 (by decide) ?_
          have h := Option.some.inj h; subst h
          exact hret _ _ _ _ hP hS dX12_judge_72
        · have h := k_neg c33 h
          refine lv_aload_n hx hb dX12_judge_36 rfl (lv_at hl 0 rfl) ?_
          refine lv_iload_n hx hb dX12_judge_37 rfl (lv_at hl 1 rfl) ?_
          refine lv_iload_n hx hb dX12_judge_38 rfl (lv_at hl 2 rfl) ?_
          refine lv_aload_n hx hb dX12_judge_39 rfl (lv_at hl 0 rfl) ?_
          refine va_get (D := D) (ci := 12) (v := .ref (aR 2)) (C := RX12) (T := TX12) (N := 18) hx hb hts hiX12 hown hK hP 0 rfl rfl 1 (by decide) hf13 (fun _ z => z) rfl dX12_judge_40 ?_
          obtain ⟨r43, g43, h⟩ := k_bind h
          refine k_callS (As := [.ref (aR 2)]) (rest := [.int y3, .int x1, .ref (aR 0)]) (st1 := [.int r43, .int y3, .int x1, .ref (aR 0)]) (ws2 := (Wd54 cI aR q_hasImage q_place q_rowAt q_rowEnd q_seed q_thrown q_s q_m q_kept q_sort q_size q_element)) hx hb hml hown hts hK hN hA hP hD hS hl (c_MD_upright l D cI cM cS cJ (aR 2) H.size q_m g43) gX12_judge_X12_upright rfl kdS_X12_upright [2] ⟨rfl, rfl⟩ ⟨Nat.le_of_ble_eq_true rfl, Nat.le_of_ble_eq_true rfl⟩ ⟨Nat.zero_le _, Nat.zero_le _⟩ rfl rfl (by decide +kernel) (k_rp rfl (by decide +kernel)) rfl rfl (Nat.le_of_ble_eq_true rfl) dX12_judge_43 rfl (fun H locs hP hD hS => ?_)
          obtain ⟨r46, g46, h⟩ := k_bind h
          refine k_callS (As := [.int r43]) (rest := [.int y3, .int x1, .ref (aR 0)]) (st1 := [.int r46, .int y3, .int x1, .ref (aR 0)]) (ws2 := (Wd54 cI aR q_hasImage q_place q_rowAt q_rowEnd q_seed q_thrown q_s q_m q_kept q_sort q_size q_element)) hx hb hml hown hts hK hN hA hP hD hS hl (c_MD_bits l D cI cM cS cJ H.size r43 g46) gX12_judge_X12_bits rfl kdS_X12_bits [] ⟨rfl, rfl⟩ ⟨Nat.le_of_ble_eq_true rfl, Nat.le_of_ble_eq_true rfl⟩ ⟨Nat.zero_le _, Nat.zero_le _⟩ rfl rfl (by decide +kernel) (k_rp rfl (by decide +kernel)) rfl rfl (Nat.le_of_ble_eq_true rfl) dX12_judge_46 rfl (fun H locs hP hD hS => ?_)
          obtain ⟨r49, g49, h⟩ := k_bind h
          refine k_callV (As := [.int x1, .int y3, .int r46]) (rest := []) (st1 := [.int r49]) (ws2 := (Wd54 cI aR q_hasImage q_place q_rowAt q_rowEnd q_seed q_thrown q_s q_m q_kept q_sort q_size q_element)) hx hb hml hown hts hK hN hA hP hD hS hl (c_MD_isTold l D cI cM cS cJ aR H.size x1 y3 r46 q_hasImage q_place q_rowAt q_rowEnd q_seed q_thrown q_sort q_element g49) gX12_judge_X12_isTold rfl kdV_X12_isTold 0 12 rfl rfl rfl [0, 4, 6] ⟨rfl, rfl⟩ ⟨Nat.le_of_ble_eq_true rfl, Nat.le_of_ble_eq_true rfl⟩ ⟨Nat.zero_le _, Nat.zero_le _⟩ rfl rfl (by decide +kernel) (k_rp rfl (by decide +kernel)) rfl rfl (Nat.le_of_ble_eq_true rfl) dX12_judge_49 rfl (fun H locs hP hD hS => ?_)
          refine lv_if_ne (tgt := 57) hx hb dX12_judge_52 (by decide) (fun c52 => ?_) (fun c52 => ?_)
          · have h := k_neg c52 h
            refine lv_aload_n hx hb dX12_judge_57 rfl (lv_at hl 0 rfl) ?_
            refine va_get (D := D) (ci := 12) (v := .ref (aR 2)) (C := RX12) (T := TX12) (N := 18) hx hb hts hiX12 hown hK hP 0 rfl rfl 1 (by decide) hf13 (fun _ z => z) rfl dX12_judge_58 ?_
            obtain ⟨r61, g61, h⟩ := k_bind h
            refine k_callS (As := [.ref (aR 2)]) (rest := []) (st1 := []) (ws2 := (Wd54 cI aR q_hasImage q_place q_rowAt q_rowEnd q_seed q_thrown q_s r61 q_kept q_sort q_size q_element)) hx hb hml hown hts hK hN hA hP hD hS hl (c_MD_day l D cI cM cS cJ (aR 2) H.size q_m g61) gX12_judge_X12_day rfl kdS_X12_day [2] ⟨rfl, rfl⟩ ⟨Nat.le_of_ble_eq_true rfl, Nat.le_of_ble_eq_true rfl⟩ ⟨Nat.zero_le _, Nat.zero_le _⟩ rfl rfl (by decide +kernel) (k_rp rfl (by decide +kernel)) rfl rfl (Nat.le_of_ble_eq_true rfl) dX12_judge_61 rfl (fun H locs hP hD hS => ?_)
            refine lv_iinc (v := (y3 + 1)) (lv' := [(3, .int (y3 + 1)), (0, .ref (aR 0)), (1, .int x1)]) hx hb dX12_judge_64 hl (k := 2) rfl (by first | rfl | decide) (by decide) rfl (fun ls hl => ?_)
            refine lv_goto (tgt := 26) hx hb dX12_judge_67 (by decide) ?_
            exact ih26 (y3 + 1) r61 H locs ls hP hD hS (lv_sub hl [1, 2, 0] rfl) h
          · have h := k_pos c52 h
            refine lv_iload_n hx hb dX12_judge_55 rfl (lv_at hl 2 rfl) ?_
            have h := Option.some.inj h; subst h
            exact hret _ _ _ _ hP hS dX12_judge_56
    refine lv_istore_n (lv' := [(3, .int 0), (2, .int r3), (0, .ref (aR 0)), (1, .int x1)]) hx hb dX12_judge_25 rfl hl (by decide) rfl (fun ls hl => ?_)
    exact B26 lfu 0 r21 H locs ls hP hD hS (lv_sub hl [2, 3, 0] rfl) h
  · have h := k_neg c8 h
    refine lv_iload_n hx hb dX12_judge_11 rfl (lv_at hl 0 rfl) ?_
    have h := Option.some.inj h; subst h
    exact hret _ _ _ _ hP hS dX12_judge_12
abbrev Wd57 (aR : Nat → Nat) (q_hasImage : Int32) (q_place : Int32) (q_rowAt : Int32) (q_rowEnd : Int32) (q_seed : Int32) (q_thrown : Int32) : va_W := [((aR 0), .inr (12, [.ref (aR 1), .ref (aR 2), .ref (aR 3), .ref (aR 4), .int q_hasImage, .int q_place, .int q_rowAt, .int q_rowEnd, .ref (aR 5), .ref (aR 6), .int q_seed, .ref (aR 7), .ref (aR 8), .ref (aR 9), .ref (aR 10), .ref (aR 11), .ref (aR 12), .int q_thrown]))]
abbrev rm_X12_drawn : Room := { frames := 0, cells := 0, slots := 0, locals := 0 }
set_option maxHeartbeats 4000000 in
set_option maxRecDepth 100000 in
theorem c_MD_drawn (l : Launch) (D : va_G) (cI cM cS cJ : ClassId) (aR : Nat → Nat) (sz : Nat) (x1 : Int32) (q_hasImage : Int32) (q_place : Int32) (q_rowAt : Int32) (q_rowEnd : Int32) (q_seed : Int32) (q_thrown : Int32) {o : (Int32) × (Int32)} (hsem : S_MD_drawn x1 q_seed = some o) : kMet l yX12_drawn wsX12_drawn rm_X12_drawn [.ref (aR 0), .int x1] D (kT cI cM cS cJ) (Wd57 aR q_hasImage q_place q_rowAt q_rowEnd q_seed q_thrown) sz (some (.int o.1)) (Wd57 aR q_hasImage q_place q_rowAt q_rowEnd o.2 q_thrown) := by
  refine k_metI (by decide) rfl rfl (Nat.le_of_ble_eq_true rfl) ?_
  intro p e s m below meth c ls Q A hx hb hml hts hown hK hN hA hP hD hS hl hsz hnm hret
  have hown : s.vm.findClass RX12 = some m.cls := hown
  have hf229 := hts (.fieldLink RX12 229 "PlumbLineModel" "seed" "I") (List.mem_of_getElem? (i := 1) rfl)
  have hiX12 : ∀ w ∈ u_ws RX12 TX12 18, w ∈ wsX12_drawn := fun w h => List.mem_cons_of_mem _ (List.mem_append_right _ h)
  replace hl : lv_has ls 2 [(0, .ref (aR 0)), (1, .int x1)] := hl
  have h := hsem
  clear hsem
  rw [S_MD_drawn] at h
  refine lv_aload_n hx hb dX12_drawn_0 rfl (lv_at hl 0 rfl) ?_
  refine lv_aload_n hx hb dX12_drawn_1 rfl (lv_at hl 0 rfl) ?_
  refine va_get (D := D) (ci := 12) (v := .int q_seed) (C := RX12) (T := TX12) (N := 18) hx hb hts hiX12 hown hK hP 0 rfl rfl 10 (by decide) hf229 (fun _ z => z) rfl dX12_drawn_2 ?_
  refine lv_ldc (v := 1103515245) hx hb hown (hts (.constant RX12 232 1103515245) (List.mem_of_getElem? (i := 2) rfl)) dX12_drawn_5 ?_
  refine lv_imul hx hb dX12_drawn_7 ?_
  refine lv_sipush (v := 12345) hx hb dX12_drawn_8 (by decide) ?_
  refine lv_iadd hx hb dX12_drawn_11 ?_
  refine va_put (D := D) (ci := 12) (v := .int ((q_seed * 1103515245) + 12345)) (ty := .int) (C := RX12) (T := TX12) (N := 18) hx hb hts hiX12 tyX12 tyX12_ok nmX12 hown hK hP hD hS 0 rfl rfl 10 (by decide) hf229 (fun _ z => z) rfl (by decide +kernel) rfl rfl (Nat.le_of_ble_eq_true rfl) dX12_drawn_12 (fun H locs hP hD hS => ?_)
  replace hP : va_P D vwCl (Wd57 aR q_hasImage q_place q_rowAt q_rowEnd ((q_seed * 1103515245) + 12345) q_thrown) H := hP
  replace hD : va_D A (Wd57 aR q_hasImage q_place q_rowAt q_rowEnd ((q_seed * 1103515245) + 12345) q_thrown) := hD
  refine lv_aload_n hx hb dX12_drawn_15 rfl (lv_at hl 0 rfl) ?_
  refine va_get (D := D) (ci := 12) (v := .int ((q_seed * 1103515245) + 12345)) (C := RX12) (T := TX12) (N := 18) hx hb hts hiX12 hown hK hP 0 rfl rfl 10 (by decide) hf229 (fun _ z => z) rfl dX12_drawn_16 ?_
  refine lv_ldc (v := 2147483647) hx hb hown (hts (.constant RX12 233 2147483647) (List.mem_of_getElem? (i := 3) rfl)) dX12_drawn_19 ?_
  refine lv_iand hx hb dX12_drawn_21 ?_
  refine lv_ldc (v := 65536) hx hb hown (hts (.constant RX12 234 65536) (List.mem_of_getElem? (i := 4) rfl)) dX12_drawn_22 ?_
  refine lv_idiv hx hb dX12_drawn_24 (by decide) ?_
  refine lv_iload_n hx hb dX12_drawn_25 rfl (lv_at hl 1 rfl) ?_
  obtain ⟨g26, h⟩ := k_guard h
  refine lv_irem hx hb dX12_drawn_26 g26 ?_
  have h := Option.some.inj h; subst h
  exact hret _ _ _ _ hP hS dX12_drawn_27
theorem kdV_X12_drawn : yX12_drawn.cls = RX12 ∧ yX12_drawn.cls ≠ "java/lang/invoke/MethodHandle" ∧ yX12_drawn.cls ≠ "java/lang/invoke/VarHandle" ∧ (parseMethodDescriptor yX12_drawn.desc).map (fun d => d.parameters.length) = some 1 := by decide +kernel
abbrev rm_X12_years : Room := { frames := 5, cells := 0, slots := 0, locals := 112 }
set_option maxHeartbeats 4000000 in
set_option maxRecDepth 100000 in
theorem c_MD_years (l : Launch) (D : va_G) (cI cM cS cJ : ClassId) (aR : Nat → Nat) (sz : Nat) (x1 : Int32) (x2 : Int32) (x3 : Int32) (q_hasImage : Int32) (q_place : Int32) (q_rowAt : Int32) (q_rowEnd : Int32) (q_seed : Int32) (q_thrown : Int32) (q_s : Nat → Int32) (q_m : Nat → Int32) {o : (Int32) × (Int32) × (Nat → Int32)} (hsem : S_MD_years x1 x2 x3 q_seed q_s q_m = some o) : kMet l yX12_years wsX12_years rm_X12_years [.ref (aR 0), .int x1, .int x2, .int x3] D (kT cI cM cS cJ) (Wd49 cI aR q_hasImage q_place q_rowAt q_rowEnd q_seed q_thrown q_s q_m) sz (some (.int o.1)) (Wd49 cI aR q_hasImage q_place q_rowAt q_rowEnd o.2.1 q_thrown q_s o.2.2) := by
  refine k_metI (by decide) rfl rfl (Nat.le_of_ble_eq_true rfl) ?_
  intro p e s m below meth c ls Q A hx hb hml hts hown hK hN hA hP hD hS hl hsz hnm hret
  have hown : s.vm.findClass RX12 = some m.cls := hown
  have hf229 := hts (.fieldLink RX12 229 "PlumbLineModel" "seed" "I") (List.mem_of_getElem? (i := 1) rfl)
  have hf9 := hts (.fieldLink RX12 9 "PlumbLineModel" "s" "[I") (List.mem_of_getElem? (i := 2) rfl)
  have hf13 := hts (.fieldLink RX12 13 "PlumbLineModel" "m" "[I") (List.mem_of_getElem? (i := 3) rfl)
  have hiX12 : ∀ w ∈ u_ws RX12 TX12 18, w ∈ wsX12_years := fun w h => List.mem_cons_of_mem _ (List.mem_append_right _ h)
  replace hl : lv_has ls 7 [(0, .ref (aR 0)), (1, .int x1), (2, .int x2), (3, .int x3)] := hl
  have h := hsem
  clear hsem
  rw [S_MD_years] at h
  refine lv_iload_n hx hb dX12_years_0 rfl (lv_at hl 1 rfl) ?_
  refine lv_iconst (v := 1) hx hb dX12_years_1 (by decide) ?_
  refine lv_bipush (v := 20) hx hb dX12_years_2 (by decide) ?_
  refine k_callS (As := [.int x1, .int 1, .int 20]) (rest := []) (st1 := [.int (S_MD_isIn x1 1 20)]) (ws2 := (Wd49 cI aR q_hasImage q_place q_rowAt q_rowEnd q_seed q_thrown q_s q_m)) hx hb hml hown hts hK hN hA hP hD hS hl (c_MD_isIn l D cI cM cS cJ s.heap.size x1 1 20 rfl) gX12_years_X12_isIn rfl kdS_X12_isIn [] ⟨rfl, rfl⟩ ⟨Nat.le_of_ble_eq_true rfl, Nat.le_of_ble_eq_true rfl⟩ ⟨Nat.zero_le _, Nat.zero_le _⟩ rfl rfl (by decide +kernel) (k_rp rfl (by decide +kernel)) rfl rfl (Nat.le_of_ble_eq_true rfl) dX12_years_4 rfl (fun H locs hP hD hS => ?_)
  refine lv_if_eq (tgt := 19) hx hb dX12_years_7 (by decide) (fun c7 => ?_) (fun c7 => ?_)
  · have h := k_pos c7 h
    refine lv_iconst (v := (-1)) hx hb dX12_years_19 (by decide) ?_
    have h := Option.some.inj h; subst h
    exact hret _ _ _ _ hP hS dX12_years_20
  · have h := k_neg c7 h
    refine lv_iload_n hx hb dX12_years_10 rfl (lv_at hl 3 rfl) ?_
    refine lv_iconst (v := 0) hx hb dX12_years_11 (by decide) ?_
    refine lv_iconst (v := 1) hx hb dX12_years_12 (by decide) ?_
    refine k_callS (As := [.int x3, .int 0, .int 1]) (rest := []) (st1 := [.int (S_MD_isIn x3 0 1)]) (ws2 := (Wd49 cI aR q_hasImage q_place q_rowAt q_rowEnd q_seed q_thrown q_s q_m)) hx hb hml hown hts hK hN hA hP hD hS hl (c_MD_isIn l D cI cM cS cJ H.size x3 0 1 rfl) gX12_years_X12_isIn rfl kdS_X12_isIn [] ⟨rfl, rfl⟩ ⟨Nat.le_of_ble_eq_true rfl, Nat.le_of_ble_eq_true rfl⟩ ⟨Nat.zero_le _, Nat.zero_le _⟩ rfl rfl (by decide +kernel) (k_rp rfl (by decide +kernel)) rfl rfl (Nat.le_of_ble_eq_true rfl) dX12_years_13 rfl (fun H locs hP hD hS => ?_)
    refine lv_if_ne (tgt := 21) hx hb dX12_years_16 (by decide) (fun c16 => ?_) (fun c16 => ?_)
    · have h := k_neg c16 h
      refine lv_aload_n hx hb dX12_years_21 rfl (lv_at hl 0 rfl) ?_
      refine lv_iload_n hx hb dX12_years_22 rfl (lv_at hl 2 rfl) ?_
      refine va_put (D := D) (ci := 12) (v := .int x2) (ty := .int) (C := RX12) (T := TX12) (N := 18) hx hb hts hiX12 tyX12 tyX12_ok nmX12 hown hK hP hD hS 0 rfl rfl 10 (by decide) hf229 (fun _ z => z) rfl (by decide +kernel) rfl rfl (Nat.le_of_ble_eq_true rfl) dX12_years_23 (fun H locs hP hD hS => ?_)
      replace hP : va_P D vwCl (Wd49 cI aR q_hasImage q_place q_rowAt q_rowEnd x2 q_thrown q_s q_m) H := hP
      replace hD : va_D A (Wd49 cI aR q_hasImage q_place q_rowAt q_rowEnd x2 q_thrown q_s q_m) := hD
      refine lv_iconst (v := 0) hx hb dX12_years_26 (by decide) ?_
      refine lv_istore (lv' := [(4, .int 0), (0, .ref (aR 0)), (1, .int x1), (2, .int x2), (3, .int x3)]) hx hb dX12_years_27 hl (by decide) rfl (fun ls hl => ?_)
      refine lv_iconst (v := 0) hx hb dX12_years_29 (by decide) ?_
      have B32 : ∀ (n32 : Nat) (y4 : Int32) (y5 : Int32) (q_seed : Int32) (q_m : Nat → Int32) (H : Heap) (locs : List Loc) (ls : Array Slot), va_P D vwCl (Wd49 cI aR q_hasImage q_place q_rowAt q_rowEnd q_seed q_thrown q_s q_m) H → va_D A (Wd49 cI aR q_hasImage q_place q_rowAt q_rowEnd q_seed q_thrown q_s q_m) → va_S A s.heap H locs → lv_has ls 7 [(0, .ref (aR 0)), (1, .int x1), (3, .int x3), (4, .int y4), (5, .int y5)] → S_MD_years_L32 x1 x3 q_s n32 y4 y5 q_seed q_m = some o → W p l e rm_X12_years s m ([.ref (aR 0), .int x1, .int x2, .int x3] : List Value).toArray below meth c H locs 0 0 Q (F0 m 32 ls []) := by
        intro n32
        induction n32 with
        | zero => intro y4 y5 q_seed q_m H locs ls hP hD hS hl h; exact absurd h (by simp [S_MD_years_L32])
        | succ n32 ih32 =>
          intro y4 y5 q_seed q_m H locs ls hP hD hS hl h
          rw [S_MD_years_L32] at h
          refine lv_iload hx hb dX12_years_32 (lv_at hl 4 rfl) ?_
          refine lv_iload_n hx hb dX12_years_34 rfl (lv_at hl 1 rfl) ?_
          refine lv_icmp_ge (tgt := 139) hx hb dX12_years_35 (by decide) (fun c35 => ?_) (fun c35 => ?_)
          · have h := k_pos c35 h
            refine lv_iload hx hb dX12_years_139 (lv_at hl 3 rfl) ?_
            have h := Option.some.inj h; subst h
            exact hret _ _ _ _ hP hS dX12_years_141
          · have h := k_neg c35 h
            refine lv_aload_n hx hb dX12_years_38 rfl (lv_at hl 0 rfl) ?_
            refine va_get (D := D) (ci := 12) (v := .ref (aR 1)) (C := RX12) (T := TX12) (N := 18) hx hb hts hiX12 hown hK hP 0 rfl rfl 0 (by decide) hf9 (fun _ z => z) rfl dX12_years_39 ?_
            refine lv_aload_n hx hb dX12_years_42 rfl (lv_at hl 0 rfl) ?_
            refine va_get (D := D) (ci := 12) (v := .ref (aR 2)) (C := RX12) (T := TX12) (N := 18) hx hb hts hiX12 hown hK hP 0 rfl rfl 1 (by decide) hf13 (fun _ z => z) rfl dX12_years_43 ?_
            obtain ⟨r46, g46, h⟩ := k_bind h
            refine k_callS (As := [.ref (aR 1), .ref (aR 2)]) (rest := []) (st1 := []) (ws2 := (Wd49 cI aR q_hasImage q_place q_rowAt q_rowEnd q_seed q_thrown q_s r46)) hx hb hml hown hts hK hN hA hP hD hS hl (c_MD_copies l D cI cM cS cJ (aR 1) (aR 2) H.size q_s q_m g46) gX12_years_X12_copies rfl kdS_X12_copies [1, 2] ⟨rfl, rfl⟩ ⟨Nat.le_of_ble_eq_true rfl, Nat.le_of_ble_eq_true rfl⟩ ⟨Nat.zero_le _, Nat.zero_le _⟩ rfl rfl (by decide +kernel) (k_rp rfl (by decide +kernel)) rfl rfl (Nat.le_of_ble_eq_true rfl) dX12_years_46 rfl (fun H locs hP hD hS => ?_)
            refine lv_iconst (v := 0) hx hb dX12_years_49 (by decide) ?_
            have B52 : ∀ (y4 : Int32) (y5 : Int32) (n52 : Nat) (y6 : Int32) (q_seed : Int32) (q_m : Nat → Int32) (H : Heap) (locs : List Loc) (ls : Array Slot), va_P D vwCl (Wd49 cI aR q_hasImage q_place q_rowAt q_rowEnd q_seed q_thrown q_s q_m) H → va_D A (Wd49 cI aR q_hasImage q_place q_rowAt q_rowEnd q_seed q_thrown q_s q_m) → va_S A s.heap H locs → lv_has ls 7 [(0, .ref (aR 0)), (1, .int x1), (3, .int x3), (4, .int y4), (5, .int y5), (6, .int y6)] → S_MD_years_L52 (S_MD_years_L32 x1 x3 q_s n32) x3 y4 y5 q_s n52 y6 q_seed q_m = some o → W p l e rm_X12_years s m ([.ref (aR 0), .int x1, .int x2, .int x3] : List Value).toArray below meth c H locs 0 0 Q (F0 m 52 ls []) := by
              intro y4 y5
              intro n52
              induction n52 with
              | zero => intro y6 q_seed q_m H locs ls hP hD hS hl h; exact absurd h (by simp [S_MD_years_L52])
              | succ n52 ih52 =>
                intro y6 q_seed q_m H locs ls hP hD hS hl h
                rw [S_MD_years_L52] at h
                refine lv_iload hx hb dX12_years_52 (lv_at hl 5 rfl) ?_
                refine lv_aload_n hx hb dX12_years_54 rfl (lv_at hl 0 rfl) ?_
                refine va_get (D := D) (ci := 12) (v := .ref (aR 1)) (C := RX12) (T := TX12) (N := 18) hx hb hts hiX12 hown hK hP 0 rfl rfl 0 (by decide) hf9 (fun _ z => z) rfl dX12_years_55 ?_
                refine lv_iconst (v := 0) hx hb dX12_years_58 (by decide) ?_
                refine va_iald hx hb hK hP 1 0 rfl rfl (show ¬ ((0 : Int32) < 0 ∨ 37 ≤ (0 : Int32).toNatClampNeg) by decide) dX12_years_59 ?_
                refine lv_icmp_ge (tgt := 89) hx hb dX12_years_60 (by decide) (fun c60 => ?_) (fun c60 => ?_)
                · have h := k_pos c60 h
                  refine lv_aload_n hx hb dX12_years_89 rfl (lv_at hl 0 rfl) ?_
                  refine va_get (D := D) (ci := 12) (v := .ref (aR 2)) (C := RX12) (T := TX12) (N := 18) hx hb hts hiX12 hown hK hP 0 rfl rfl 1 (by decide) hf13 (fun _ z => z) rfl dX12_years_90 ?_
                  refine lv_bipush (v := 12) hx hb dX12_years_93 (by decide) ?_
                  obtain ⟨r95, g95, h⟩ := k_bind h
                  refine k_callS (As := [.ref (aR 2), .int 12]) (rest := []) (st1 := []) (ws2 := (Wd49 cI aR q_hasImage q_place q_rowAt q_rowEnd q_seed q_thrown q_s r95)) hx hb hml hown hts hK hN hA hP hD hS hl (c_MD_daysOn l D cI cM cS cJ (aR 2) H.size 12 q_m g95) gX12_years_X12_daysOn rfl kdS_X12_daysOn [2] ⟨rfl, rfl⟩ ⟨Nat.le_of_ble_eq_true rfl, Nat.le_of_ble_eq_true rfl⟩ ⟨Nat.zero_le _, Nat.zero_le _⟩ rfl rfl (by decide +kernel) (k_rp rfl (by decide +kernel)) rfl rfl (Nat.le_of_ble_eq_true rfl) dX12_years_95 rfl (fun H locs hP hD hS => ?_)
                  refine lv_iload hx hb dX12_years_98 (lv_at hl 3 rfl) ?_
                  refine lv_iload_n hx hb dX12_years_100 rfl (lv_at hl 2 rfl) ?_
                  refine lv_if_ne (tgt := 117) hx hb dX12_years_101 (by decide) (fun c101 => ?_) (fun c101 => ?_)
                  · have h := k_neg c101 h
                    refine lv_aload_n hx hb dX12_years_117 rfl (lv_at hl 0 rfl) ?_
                    refine va_get (D := D) (ci := 12) (v := .ref (aR 2)) (C := RX12) (T := TX12) (N := 18) hx hb hts hiX12 hown hK hP 0 rfl rfl 1 (by decide) hf13 (fun _ z => z) rfl dX12_years_118 ?_
                    refine lv_iconst (v := 4) hx hb dX12_years_121 (by decide) ?_
                    refine va_iald hx hb hK hP 2 0 rfl rfl (show ¬ ((4 : Int32) < 0 ∨ 37 ≤ (4 : Int32).toNatClampNeg) by decide) dX12_years_122 ?_
                    refine lv_aload_n hx hb dX12_years_123 rfl (lv_at hl 0 rfl) ?_
                    refine va_get (D := D) (ci := 12) (v := .ref (aR 1)) (C := RX12) (T := TX12) (N := 18) hx hb hts hiX12 hown hK hP 0 rfl rfl 0 (by decide) hf9 (fun _ z => z) rfl dX12_years_124 ?_
                    refine lv_iconst (v := 4) hx hb dX12_years_127 (by decide) ?_
                    refine va_iald hx hb hK hP 1 0 rfl rfl (show ¬ ((4 : Int32) < 0 ∨ 37 ≤ (4 : Int32).toNatClampNeg) by decide) dX12_years_128 ?_
                    refine lv_isub hx hb dX12_years_129 ?_
                    refine lv_iadd hx hb dX12_years_130 ?_
                    refine lv_istore (lv' := [(4, .int (y4 + ((r95 (4 : Int32).toNatClampNeg) - (q_s (4 : Int32).toNatClampNeg)))), (0, .ref (aR 0)), (1, .int x1), (3, .int x3), (5, .int y5), (6, .int y6)]) hx hb dX12_years_131 hl (by decide) rfl (fun ls hl => ?_)
                    refine lv_iinc (v := (y5 + 1)) (lv' := [(5, .int (y5 + 1)), (4, .int (y4 + ((r95 (4 : Int32).toNatClampNeg) - (q_s (4 : Int32).toNatClampNeg)))), (0, .ref (aR 0)), (1, .int x1), (3, .int x3), (6, .int y6)]) hx hb dX12_years_133 hl (k := 4) rfl (by first | rfl | decide) (by decide) rfl (fun ls hl => ?_)
                    refine lv_goto (tgt := 32) hx hb dX12_years_136 (by decide) ?_
                    exact ih32 (y4 + ((r95 (4 : Int32).toNatClampNeg) - (q_s (4 : Int32).toNatClampNeg))) (y5 + 1) q_seed r95 H locs ls hP hD hS (lv_sub hl [2, 3, 4, 1, 0] rfl) h
                  · have h := k_pos c101 h
                    refine lv_aload_n hx hb dX12_years_104 rfl (lv_at hl 0 rfl) ?_
                    refine va_get (D := D) (ci := 12) (v := .ref (aR 2)) (C := RX12) (T := TX12) (N := 18) hx hb hts hiX12 hown hK hP 0 rfl rfl 1 (by decide) hf13 (fun _ z => z) rfl dX12_years_105 ?_
                    obtain ⟨r108, g108, h⟩ := k_bind h
                    refine k_callS (As := [.ref (aR 2)]) (rest := [.int y4]) (st1 := [.int r108, .int y4]) (ws2 := (Wd49 cI aR q_hasImage q_place q_rowAt q_rowEnd q_seed q_thrown q_s r95)) hx hb hml hown hts hK hN hA hP hD hS hl (c_MD_upright l D cI cM cS cJ (aR 2) H.size r95 g108) gX12_years_X12_upright rfl kdS_X12_upright [2] ⟨rfl, rfl⟩ ⟨Nat.le_of_ble_eq_true rfl, Nat.le_of_ble_eq_true rfl⟩ ⟨Nat.zero_le _, Nat.zero_le _⟩ rfl rfl (by decide +kernel) (k_rp rfl (by decide +kernel)) rfl rfl (Nat.le_of_ble_eq_true rfl) dX12_years_108 rfl (fun H locs hP hD hS => ?_)
                    obtain ⟨r111, g111, h⟩ := k_bind h
                    refine k_callS (As := [.int r108]) (rest := [.int y4]) (st1 := [.int r111, .int y4]) (ws2 := (Wd49 cI aR q_hasImage q_place q_rowAt q_rowEnd q_seed q_thrown q_s r95)) hx hb hml hown hts hK hN hA hP hD hS hl (c_MD_bits l D cI cM cS cJ H.size r108 g111) gX12_years_X12_bits rfl kdS_X12_bits [] ⟨rfl, rfl⟩ ⟨Nat.le_of_ble_eq_true rfl, Nat.le_of_ble_eq_true rfl⟩ ⟨Nat.zero_le _, Nat.zero_le _⟩ rfl rfl (by decide +kernel) (k_rp rfl (by decide +kernel)) rfl rfl (Nat.le_of_ble_eq_true rfl) dX12_years_111 rfl (fun H locs hP hD hS => ?_)
                    refine lv_goto (tgt := 130) hx hb dX12_years_114 (by decide) ?_
                    refine lv_iadd hx hb dX12_years_130 ?_
                    refine lv_istore (lv' := [(4, .int (y4 + r111)), (0, .ref (aR 0)), (1, .int x1), (3, .int x3), (5, .int y5), (6, .int y6)]) hx hb dX12_years_131 hl (by decide) rfl (fun ls hl => ?_)
                    refine lv_iinc (v := (y5 + 1)) (lv' := [(5, .int (y5 + 1)), (4, .int (y4 + r111)), (0, .ref (aR 0)), (1, .int x1), (3, .int x3), (6, .int y6)]) hx hb dX12_years_133 hl (k := 4) rfl (by first | rfl | decide) (by decide) rfl (fun ls hl => ?_)
                    refine lv_goto (tgt := 32) hx hb dX12_years_136 (by decide) ?_
                    exact ih32 (y4 + r111) (y5 + 1) q_seed r95 H locs ls hP hD hS (lv_sub hl [2, 3, 4, 1, 0] rfl) h
                · have h := k_neg c60 h
                  refine lv_aload_n hx hb dX12_years_63 rfl (lv_at hl 0 rfl) ?_
                  refine va_get (D := D) (ci := 12) (v := .ref (aR 2)) (C := RX12) (T := TX12) (N := 18) hx hb hts hiX12 hown hK hP 0 rfl rfl 1 (by decide) hf13 (fun _ z => z) rfl dX12_years_64 ?_
                  refine lv_iload hx hb dX12_years_67 (lv_at hl 5 rfl) ?_
                  refine lv_iconst (v := 2) hx hb dX12_years_69 (by decide) ?_
                  refine k_callS (As := [.int y6, .int 2]) (rest := [.ref (aR 2)]) (st1 := [.int (S_MD_of y6 2), .ref (aR 2)]) (ws2 := (Wd49 cI aR q_hasImage q_place q_rowAt q_rowEnd q_seed q_thrown q_s q_m)) hx hb hml hown hts hK hN hA hP hD hS hl (c_MD_of l D cI cM cS cJ H.size y6 2 rfl) gX12_years_X12_of rfl kdS_X12_of [] ⟨rfl, rfl⟩ ⟨Nat.le_of_ble_eq_true rfl, Nat.le_of_ble_eq_true rfl⟩ ⟨Nat.zero_le _, Nat.zero_le _⟩ rfl rfl (by decide +kernel) (k_rp rfl (by decide +kernel)) rfl rfl (Nat.le_of_ble_eq_true rfl) dX12_years_70 rfl (fun H locs hP hD hS => ?_)
                  refine lv_aload_n hx hb dX12_years_73 rfl (lv_at hl 0 rfl) ?_
                  refine lv_bipush (v := 91) hx hb dX12_years_74 (by decide) ?_
                  obtain ⟨r76, g76, h⟩ := k_bind h
                  refine k_callV (As := [.int 91]) (rest := [.int (S_MD_of y6 2), .ref (aR 2)]) (st1 := [.int r76.1, .int (S_MD_of y6 2), .ref (aR 2)]) (ws2 := (Wd49 cI aR q_hasImage q_place q_rowAt q_rowEnd r76.2 q_thrown q_s q_m)) hx hb hml hown hts hK hN hA hP hD hS hl (c_MD_drawn l D cI cM cS cJ aR H.size 91 q_hasImage q_place q_rowAt q_rowEnd q_seed q_thrown g76) gX12_years_X12_drawn rfl kdV_X12_drawn 0 12 rfl rfl rfl [0] ⟨rfl, rfl⟩ ⟨Nat.le_of_ble_eq_true rfl, Nat.le_of_ble_eq_true rfl⟩ ⟨Nat.zero_le _, Nat.zero_le _⟩ rfl rfl (by decide +kernel) (k_rp rfl (by decide +kernel)) rfl rfl (Nat.le_of_ble_eq_true rfl) dX12_years_76 rfl (fun H locs hP hD hS => ?_)
                  refine lv_bipush (v := 45) hx hb dX12_years_79 (by decide) ?_
                  refine lv_isub hx hb dX12_years_81 ?_
                  obtain ⟨g82, h⟩ := k_guard h
                  refine va_iast hx hb hK hP hD hS 2 0 rfl rfl g82 dX12_years_82 (fun H locs hP hD hS => ?_)
                  replace hP : va_P D vwCl (Wd49 cI aR q_hasImage q_place q_rowAt q_rowEnd r76.2 q_thrown q_s (upd q_m (S_MD_of y6 2).toNatClampNeg (r76.1 - 45))) H := hP
                  replace hD : va_D A (Wd49 cI aR q_hasImage q_place q_rowAt q_rowEnd r76.2 q_thrown q_s (upd q_m (S_MD_of y6 2).toNatClampNeg (r76.1 - 45))) := hD
                  refine lv_iinc (v := (y6 + 1)) (lv' := [(6, .int (y6 + 1)), (0, .ref (aR 0)), (1, .int x1), (3, .int x3), (4, .int y4), (5, .int y5)]) hx hb dX12_years_83 hl (k := 5) rfl (by first | rfl | decide) (by decide) rfl (fun ls hl => ?_)
                  refine lv_goto (tgt := 52) hx hb dX12_years_86 (by decide) ?_
                  exact ih52 (y6 + 1) r76.2 (upd q_m (S_MD_of y6 2).toNatClampNeg (r76.1 - 45)) H locs ls hP hD hS (lv_sub hl [1, 2, 3, 4, 5, 0] rfl) h
            refine lv_istore (lv' := [(6, .int 0), (0, .ref (aR 0)), (1, .int x1), (3, .int x3), (4, .int y4), (5, .int y5)]) hx hb dX12_years_50 hl (by decide) rfl (fun ls hl => ?_)
            exact B52 y4 y5 lfu 0 q_seed r46 H locs ls hP hD hS (lv_sub hl [1, 2, 3, 4, 5, 0] rfl) h
      refine lv_istore (lv' := [(5, .int 0), (4, .int 0), (0, .ref (aR 0)), (1, .int x1), (2, .int x2), (3, .int x3)]) hx hb dX12_years_30 hl (by decide) rfl (fun ls hl => ?_)
      exact B32 lfu 0 0 x2 q_m H locs ls hP hD hS (lv_sub hl [2, 3, 5, 1, 0] rfl) h
    · have h := k_pos c16 h
      refine lv_iconst (v := (-1)) hx hb dX12_years_19 (by decide) ?_
      have h := Option.some.inj h; subst h
      exact hret _ _ _ _ hP hS dX12_years_20
