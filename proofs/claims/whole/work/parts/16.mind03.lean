theorem kdS_X11_power : yX11_power.cls ≠ "java/lang/invoke/MethodHandle" ∧ yX11_power.cls ≠ "java/lang/invoke/VarHandle" ∧ (parseMethodDescriptor yX11_power.desc).map (fun d => d.parameters.length) = some 2 := by decide +kernel
abbrev rm_X5_shockedUpright : Room := { frames := 4, cells := 0, slots := 0, locals := 105 }
set_option maxHeartbeats 4000000 in
set_option maxRecDepth 100000 in
theorem c_Mind_shockedUpright (l : Launch) (D : va_G) (cI cM cS cJ : ClassId) (aN : Nat → Nat) (aW : Nat → Nat) (aM : Nat → Nat) (aK : Nat → Nat) (sz : Nat) (x1 : Int32) (x2 : Int32) (x3 : Int32) (nS : CS) (mS : CS) {o : (Int64) × (CS)} (hsem : S_Mind_shockedUpright x1 x2 x3 nS mS = some o) : kMet l yX5_shockedUpright wsX5_shockedUpright rm_X5_shockedUpright [.ref (aW 0), .int x1, .int x2, .int x3] D (kT cI cM cS cJ) (Wd16 cI cM aN aW aM aK nS.1 nS.2.1 nS.2.2.1 nS.2.2.2.1 nS.2.2.2.2.1 nS.2.2.2.2.2.1 nS.2.2.2.2.2.2.1 nS.2.2.2.2.2.2.2.1 nS.2.2.2.2.2.2.2.2.1 nS.2.2.2.2.2.2.2.2.2.1 mS.1 mS.2.1 mS.2.2.1 mS.2.2.2.1 mS.2.2.2.2.1 mS.2.2.2.2.2.1 mS.2.2.2.2.2.2.1 mS.2.2.2.2.2.2.2.1 mS.2.2.2.2.2.2.2.2.1 mS.2.2.2.2.2.2.2.2.2.1) sz (some (.long o.1)) (Wd16 cI cM aN aW aM aK nS.1 nS.2.1 nS.2.2.1 nS.2.2.2.1 nS.2.2.2.2.1 nS.2.2.2.2.2.1 nS.2.2.2.2.2.2.1 nS.2.2.2.2.2.2.2.1 nS.2.2.2.2.2.2.2.2.1 nS.2.2.2.2.2.2.2.2.2.1 o.2.1 o.2.2.1 o.2.2.2.1 o.2.2.2.2.1 o.2.2.2.2.2.1 o.2.2.2.2.2.2.1 o.2.2.2.2.2.2.2.1 o.2.2.2.2.2.2.2.2.1 o.2.2.2.2.2.2.2.2.2.1 o.2.2.2.2.2.2.2.2.2.2.1) := by
  refine k_metJ (by decide) rfl rfl (Nat.le_of_ble_eq_true rfl) ?_
  intro p e s m below meth c ls Q A hx hb hml hts hown hK hN hA hP hD hS hl hsz hnm hret
  have hown : s.vm.findClass RX5 = some m.cls := hown
  have hf25 := hts (.fieldLink RX5 25 "PlumbLine$Mind" "then" "LPlumbLine$City;") (List.mem_of_getElem? (i := 1) rfl)
  have hf21 := hts (.fieldLink RX5 21 "PlumbLine$Mind" "now" "LPlumbLine$City;") (List.mem_of_getElem? (i := 2) rfl)
  have hiX5 : ∀ w ∈ u_ws RX5 TX5 5, w ∈ wsX5_shockedUpright := fun w h => List.mem_cons_of_mem _ (List.mem_append_left _ (List.mem_append_right _ h))
  replace hl : lv_has ls 8 [(0, .ref (aW 0)), (1, .int x1), (2, .int x2), (3, .int x3)] := hl
  have h := hsem
  clear hsem
  rw [S_Mind_shockedUpright] at h
  refine lv_lconst (v := 0) hx hb dX5_shockedUpright_0 (by decide) ?_
  refine lv_lstore (lv' := [(4, .long 0), (0, .ref (aW 0)), (1, .int x1), (2, .int x2), (3, .int x3)]) hx hb dX5_shockedUpright_1 hl (by decide) rfl (fun ls hl => ?_)
  refine lv_iconst (v := 0) hx hb dX5_shockedUpright_3 (by decide) ?_
  have B6 : ∀ (n6 : Nat) (y4 : Int64) (y6 : Int32) (mS : CS) (H : Heap) (locs : List Loc) (ls : Array Slot), va_P D vwCl (Wd16 cI cM aN aW aM aK nS.1 nS.2.1 nS.2.2.1 nS.2.2.2.1 nS.2.2.2.2.1 nS.2.2.2.2.2.1 nS.2.2.2.2.2.2.1 nS.2.2.2.2.2.2.2.1 nS.2.2.2.2.2.2.2.2.1 nS.2.2.2.2.2.2.2.2.2.1 mS.1 mS.2.1 mS.2.2.1 mS.2.2.2.1 mS.2.2.2.2.1 mS.2.2.2.2.2.1 mS.2.2.2.2.2.2.1 mS.2.2.2.2.2.2.2.1 mS.2.2.2.2.2.2.2.2.1 mS.2.2.2.2.2.2.2.2.2.1) H → va_D A (Wd16 cI cM aN aW aM aK nS.1 nS.2.1 nS.2.2.1 nS.2.2.2.1 nS.2.2.2.2.1 nS.2.2.2.2.2.1 nS.2.2.2.2.2.2.1 nS.2.2.2.2.2.2.2.1 nS.2.2.2.2.2.2.2.2.1 nS.2.2.2.2.2.2.2.2.2.1 mS.1 mS.2.1 mS.2.2.1 mS.2.2.2.1 mS.2.2.2.2.1 mS.2.2.2.2.2.1 mS.2.2.2.2.2.2.1 mS.2.2.2.2.2.2.2.1 mS.2.2.2.2.2.2.2.2.1 mS.2.2.2.2.2.2.2.2.2.1) → va_S A s.heap H locs → lv_has ls 8 [(0, .ref (aW 0)), (1, .int x1), (2, .int x2), (3, .int x3), (4, .long y4), (6, .int y6)] → S_Mind_shockedUpright_L6 x1 x2 x3 nS n6 y4 y6 mS = some o → W p l e rm_X5_shockedUpright s m ([.ref (aW 0), .int x1, .int x2, .int x3] : List Value).toArray below meth c H locs 0 0 Q (F0 m 6 ls []) := by
    intro n6
    induction n6 with
    | zero => intro y4 y6 mS H locs ls hP hD hS hl h; exact absurd h (by simp [S_Mind_shockedUpright_L6])
    | succ n6 ih6 =>
      intro y4 y6 mS H locs ls hP hD hS hl h
      rw [S_Mind_shockedUpright_L6] at h
      refine lv_iload hx hb dX5_shockedUpright_6 (lv_at hl 5 rfl) ?_
      refine lv_iconst (v := 1) hx hb dX5_shockedUpright_8 (by decide) ?_
      refine lv_iload_n hx hb dX5_shockedUpright_9 rfl (lv_at hl 2 rfl) ?_
      refine lv_ishl hx hb dX5_shockedUpright_10 ?_
      refine lv_icmp_ge (tgt := 99) hx hb dX5_shockedUpright_11 (by decide) (fun c11 => ?_) (fun c11 => ?_)
      · have h := k_pos c11 h
        refine lv_lload hx hb dX5_shockedUpright_99 (lv_at hl 4 rfl) ?_
        cases h
        exact hret _ _ _ _ hP hS dX5_shockedUpright_101
      · have h := k_neg c11 h
        refine lv_aload_n hx hb dX5_shockedUpright_14 rfl (lv_at hl 0 rfl) ?_
        refine va_get (D := D) (ci := 5) (v := .ref (aM 0)) (C := RX5) (T := TX5) (N := 5) hx hb hts hiX5 hown hK hP 0 rfl rfl 1 (by decide) hf25 (fun _ z => z) rfl dX5_shockedUpright_15 ?_
        refine lv_aload_n hx hb dX5_shockedUpright_18 rfl (lv_at hl 0 rfl) ?_
        refine va_get (D := D) (ci := 5) (v := .ref (aN 0)) (C := RX5) (T := TX5) (N := 5) hx hb hts hiX5 hown hK hP 0 rfl rfl 0 (by decide) hf21 (fun _ z => z) rfl dX5_shockedUpright_19 ?_
        obtain ⟨r22, g22, h⟩ := k_bind h
        refine k_callV (As := [.ref (aN 0)]) (rest := []) (st1 := []) (ws2 := (Wd16 cI cM aN aW aM aK nS.1 nS.2.1 nS.2.2.1 nS.2.2.2.1 nS.2.2.2.2.1 nS.2.2.2.2.2.1 nS.2.2.2.2.2.2.1 nS.2.2.2.2.2.2.2.1 nS.2.2.2.2.2.2.2.2.1 nS.2.2.2.2.2.2.2.2.2.1 r22.1 r22.2.1 r22.2.2.1 r22.2.2.2.1 r22.2.2.2.2.1 r22.2.2.2.2.2.1 mS.2.2.2.2.2.2.1 r22.2.2.2.2.2.2.1 r22.2.2.2.2.2.2.2.1 r22.2.2.2.2.2.2.2.2)) hx hb hml hown hts hK hN hA hP hD hS hl (c_City_becomes l D cI cM cS cJ aM aN aK H.size mS.1 mS.2.1 mS.2.2.1 mS.2.2.2.1 mS.2.2.2.2.1 mS.2.2.2.2.2.1 mS.2.2.2.2.2.2.1 mS.2.2.2.2.2.2.2.1 mS.2.2.2.2.2.2.2.2.1 mS.2.2.2.2.2.2.2.2.2.1 nS.1 nS.2.1 nS.2.2.1 nS.2.2.2.1 nS.2.2.2.2.1 nS.2.2.2.2.2.1 nS.2.2.2.2.2.2.1 nS.2.2.2.2.2.2.2.1 nS.2.2.2.2.2.2.2.2.1 nS.2.2.2.2.2.2.2.2.2.1 g22) gX5_shockedUpright_X2_becomes rfl kdV_X2_becomes 0 2 rfl rfl rfl [5, 6, 7, 8, 1, 2, 3, 4] ⟨rfl, rfl⟩ ⟨Nat.le_of_ble_eq_true rfl, Nat.le_of_ble_eq_true rfl⟩ ⟨Nat.zero_le _, Nat.zero_le _⟩ rfl rfl (by decide +kernel) (k_rp rfl (by decide +kernel)) rfl rfl (Nat.le_of_ble_eq_true rfl) dX5_shockedUpright_22 rfl (fun H locs hP hD hS => ?_)
        refine lv_iconst (v := 0) hx hb dX5_shockedUpright_25 (by decide) ?_
        have B28 : ∀ (y4 : Int64) (y6 : Int32) (n28 : Nat) (y7 : Int32) (mS : CS) (H : Heap) (locs : List Loc) (ls : Array Slot), va_P D vwCl (Wd16 cI cM aN aW aM aK nS.1 nS.2.1 nS.2.2.1 nS.2.2.2.1 nS.2.2.2.2.1 nS.2.2.2.2.2.1 nS.2.2.2.2.2.2.1 nS.2.2.2.2.2.2.2.1 nS.2.2.2.2.2.2.2.2.1 nS.2.2.2.2.2.2.2.2.2.1 mS.1 mS.2.1 mS.2.2.1 mS.2.2.2.1 mS.2.2.2.2.1 mS.2.2.2.2.2.1 mS.2.2.2.2.2.2.1 mS.2.2.2.2.2.2.2.1 mS.2.2.2.2.2.2.2.2.1 mS.2.2.2.2.2.2.2.2.2.1) H → va_D A (Wd16 cI cM aN aW aM aK nS.1 nS.2.1 nS.2.2.1 nS.2.2.2.1 nS.2.2.2.2.1 nS.2.2.2.2.2.1 nS.2.2.2.2.2.2.1 nS.2.2.2.2.2.2.2.1 nS.2.2.2.2.2.2.2.2.1 nS.2.2.2.2.2.2.2.2.2.1 mS.1 mS.2.1 mS.2.2.1 mS.2.2.2.1 mS.2.2.2.2.1 mS.2.2.2.2.2.1 mS.2.2.2.2.2.2.1 mS.2.2.2.2.2.2.2.1 mS.2.2.2.2.2.2.2.2.1 mS.2.2.2.2.2.2.2.2.2.1) → va_S A s.heap H locs → lv_has ls 8 [(0, .ref (aW 0)), (1, .int x1), (2, .int x2), (3, .int x3), (4, .long y4), (6, .int y6), (7, .int y7)] → S_Mind_shockedUpright_L28 (S_Mind_shockedUpright_L6 x1 x2 x3 nS n6) x1 x2 x3 y4 y6 n28 y7 mS = some o → W p l e rm_X5_shockedUpright s m ([.ref (aW 0), .int x1, .int x2, .int x3] : List Value).toArray below meth c H locs 0 0 Q (F0 m 28 ls []) := by
          intro y4 y6
          intro n28
          induction n28 with
          | zero => intro y7 mS H locs ls hP hD hS hl h; exact absurd h (by simp [S_Mind_shockedUpright_L28])
          | succ n28 ih28 =>
            intro y7 mS H locs ls hP hD hS hl h
            rw [S_Mind_shockedUpright_L28] at h
            refine lv_iload hx hb dX5_shockedUpright_28 (lv_at hl 6 rfl) ?_
            refine lv_iload_n hx hb dX5_shockedUpright_30 rfl (lv_at hl 2 rfl) ?_
            refine lv_icmp_ge (tgt := 64) hx hb dX5_shockedUpright_31 (by decide) (fun c31 => ?_) (fun c31 => ?_)
            · have h := k_pos c31 h
              refine lv_aload_n hx hb dX5_shockedUpright_64 rfl (lv_at hl 0 rfl) ?_
              refine va_get (D := D) (ci := 5) (v := .ref (aM 0)) (C := RX5) (T := TX5) (N := 5) hx hb hts hiX5 hown hK hP 0 rfl rfl 1 (by decide) hf25 (fun _ z => z) rfl dX5_shockedUpright_65 ?_
              refine lv_iload_n hx hb dX5_shockedUpright_68 rfl (lv_at hl 1 rfl) ?_
              obtain ⟨r69, g69, h⟩ := k_bind h
              refine k_callV (As := [.int x1]) (rest := []) (st1 := [.int r69]) (ws2 := (Wd16 cI cM aN aW aM aK nS.1 nS.2.1 nS.2.2.1 nS.2.2.2.1 nS.2.2.2.2.1 nS.2.2.2.2.2.1 nS.2.2.2.2.2.2.1 nS.2.2.2.2.2.2.2.1 nS.2.2.2.2.2.2.2.2.1 nS.2.2.2.2.2.2.2.2.2.1 mS.1 mS.2.1 mS.2.2.1 mS.2.2.2.1 mS.2.2.2.2.1 mS.2.2.2.2.2.1 mS.2.2.2.2.2.2.1 mS.2.2.2.2.2.2.2.1 mS.2.2.2.2.2.2.2.2.1 mS.2.2.2.2.2.2.2.2.2.1)) hx hb hml hown hts hK hN hA hP hD hS hl (c_City_isUpright l D cI cM cS cJ aM aK H.size x1 mS.1 mS.2.1 mS.2.2.1 mS.2.2.2.1 mS.2.2.2.2.1 mS.2.2.2.2.2.1 mS.2.2.2.2.2.2.1 mS.2.2.2.2.2.2.2.1 mS.2.2.2.2.2.2.2.2.1 mS.2.2.2.2.2.2.2.2.2.1 g69) gX5_shockedUpright_X2_isUpright rfl kdV_X2_isUpright 0 2 rfl rfl rfl [5, 6, 7, 8, 9, 10, 11, 12, 13, 14, 15, 16, 17] ⟨rfl, rfl⟩ ⟨Nat.le_of_ble_eq_true rfl, Nat.le_of_ble_eq_true rfl⟩ ⟨Nat.zero_le _, Nat.zero_le _⟩ rfl rfl (by decide +kernel) (k_rp rfl (by decide +kernel)) rfl rfl (Nat.le_of_ble_eq_true rfl) dX5_shockedUpright_69 rfl (fun H locs hP hD hS => ?_)
              refine lv_if_eq (tgt := 93) hx hb dX5_shockedUpright_72 (by decide) (fun c72 => ?_) (fun c72 => ?_)
              · have h := k_pos c72 h
                refine lv_iinc (v := (y6 + 1)) (lv' := [(6, .int (y6 + 1)), (0, .ref (aW 0)), (1, .int x1), (2, .int x2), (3, .int x3), (4, .long y4), (7, .int y7)]) hx hb dX5_shockedUpright_93 hl (k := 5) rfl (by first | rfl | decide) (by decide) rfl (fun ls hl => ?_)
                refine lv_goto (tgt := 6) hx hb dX5_shockedUpright_96 (by decide) ?_
                exact ih6 y4 (y6 + 1) mS H locs ls hP hD hS (lv_sub hl [1, 2, 3, 4, 5, 0] rfl) h
              · have h := k_neg c72 h
                refine lv_lload hx hb dX5_shockedUpright_75 (lv_at hl 4 rfl) ?_
                refine lv_iload_n hx hb dX5_shockedUpright_77 rfl (lv_at hl 3 rfl) ?_
                refine lv_iconst (v := 1) hx hb dX5_shockedUpright_78 (by decide) ?_
                refine lv_isub hx hb dX5_shockedUpright_79 ?_
                refine lv_iload_n hx hb dX5_shockedUpright_80 rfl (lv_at hl 2 rfl) ?_
                refine lv_iload hx hb dX5_shockedUpright_81 (lv_at hl 5 rfl) ?_
                refine k_callS (As := [.int y6]) (rest := [.int x2, .int (x3 - 1), .long y4]) (st1 := [.int (S_J_bitCount y6), .int x2, .int (x3 - 1), .long y4]) (ws2 := (Wd16 cI cM aN aW aM aK nS.1 nS.2.1 nS.2.2.1 nS.2.2.2.1 nS.2.2.2.2.1 nS.2.2.2.2.2.1 nS.2.2.2.2.2.2.1 nS.2.2.2.2.2.2.2.1 nS.2.2.2.2.2.2.2.2.1 nS.2.2.2.2.2.2.2.2.2.1 mS.1 mS.2.1 mS.2.2.1 mS.2.2.2.1 mS.2.2.2.2.1 mS.2.2.2.2.2.1 mS.2.2.2.2.2.2.1 mS.2.2.2.2.2.2.2.1 mS.2.2.2.2.2.2.2.2.1 mS.2.2.2.2.2.2.2.2.2.1)) hx hb hml hown hts hK hN hA hP hD hS hl (c_J_bitCount l D cI cM cS cJ H.size y6 rfl) gX5_shockedUpright_J6_bitCount_0f7a4 rfl kdS_J6_bitCount_0f7a4 [] ⟨rfl, rfl⟩ ⟨Nat.le_of_ble_eq_true rfl, Nat.le_of_ble_eq_true rfl⟩ ⟨Nat.zero_le _, Nat.zero_le _⟩ rfl rfl (by decide +kernel) (k_rp rfl (by decide +kernel)) rfl rfl (Nat.le_of_ble_eq_true rfl) dX5_shockedUpright_83 rfl (fun H locs hP hD hS => ?_)
                refine lv_isub hx hb dX5_shockedUpright_86 ?_
                obtain ⟨r87, g87, h⟩ := k_bind h
                refine k_callN (As := [.int (x3 - 1), .int (x2 - (S_J_bitCount y6))]) (rest := [.long y4]) (st1 := [.long r87, .long y4]) (ws2 := (Wd16 cI cM aN aW aM aK nS.1 nS.2.1 nS.2.2.1 nS.2.2.2.1 nS.2.2.2.2.1 nS.2.2.2.2.2.1 nS.2.2.2.2.2.2.1 nS.2.2.2.2.2.2.2.1 nS.2.2.2.2.2.2.2.2.1 nS.2.2.2.2.2.2.2.2.2.1 mS.1 mS.2.1 mS.2.2.1 mS.2.2.2.1 mS.2.2.2.2.1 mS.2.2.2.2.2.1 mS.2.2.2.2.2.2.1 mS.2.2.2.2.2.2.2.1 mS.2.2.2.2.2.2.2.2.1 mS.2.2.2.2.2.2.2.2.2.1)) hx hb hml hown hts hK hN hA hP hD hS hl (c_PL_power l D cI cM cS cJ H.size (x3 - 1) (x2 - (S_J_bitCount y6)) g87) gX5_shockedUpright_X11_power_n121 rfl (List.mem_of_getElem? (i := 17) rfl) (hts _ (List.mem_of_getElem? (i := 158) rfl)) (hts _ (List.mem_of_getElem? (i := 157) rfl)) kdS_X11_power [] ⟨rfl, rfl⟩ ⟨Nat.le_of_ble_eq_true rfl, Nat.le_of_ble_eq_true rfl⟩ ⟨Nat.zero_le _, Nat.zero_le _⟩ rfl rfl (by decide +kernel) (k_rp rfl (by decide +kernel)) rfl rfl (Nat.le_of_ble_eq_true rfl) dX5_shockedUpright_87 rfl (fun H locs hP hD hS => ?_)
                refine lv_ladd hx hb dX5_shockedUpright_90 ?_
                refine lv_lstore (lv' := [(4, .long (y4 + r87)), (0, .ref (aW 0)), (1, .int x1), (2, .int x2), (3, .int x3), (6, .int y6), (7, .int y7)]) hx hb dX5_shockedUpright_91 hl (by decide) rfl (fun ls hl => ?_)
                refine lv_iinc (v := (y6 + 1)) (lv' := [(6, .int (y6 + 1)), (4, .long (y4 + r87)), (0, .ref (aW 0)), (1, .int x1), (2, .int x2), (3, .int x3), (7, .int y7)]) hx hb dX5_shockedUpright_93 hl (k := 5) rfl (by first | rfl | decide) (by decide) rfl (fun ls hl => ?_)
                refine lv_goto (tgt := 6) hx hb dX5_shockedUpright_96 (by decide) ?_
                exact ih6 (y4 + r87) (y6 + 1) mS H locs ls hP hD hS (lv_sub hl [2, 3, 4, 5, 1, 0] rfl) h
            · have h := k_neg c31 h
              refine lv_iload hx hb dX5_shockedUpright_34 (lv_at hl 5 rfl) ?_
              refine lv_iconst (v := 1) hx hb dX5_shockedUpright_36 (by decide) ?_
              refine lv_iload hx hb dX5_shockedUpright_37 (lv_at hl 6 rfl) ?_
              refine lv_ishl hx hb dX5_shockedUpright_39 ?_
              refine lv_iand hx hb dX5_shockedUpright_40 ?_
              refine lv_if_eq (tgt := 51) hx hb dX5_shockedUpright_41 (by decide) (fun c41 => ?_) (fun c41 => ?_)
              · have h := k_pos c41 h
                refine lv_aload_n hx hb dX5_shockedUpright_51 rfl (lv_at hl 0 rfl) ?_
                refine va_get (D := D) (ci := 5) (v := .ref (aM 0)) (C := RX5) (T := TX5) (N := 5) hx hb hts hiX5 hown hK hP 0 rfl rfl 1 (by decide) hf25 (fun _ z => z) rfl dX5_shockedUpright_52 ?_
                obtain ⟨r55, g55, h⟩ := k_bind h
                refine k_callV (As := []) (rest := []) (st1 := []) (ws2 := (Wd16 cI cM aN aW aM aK nS.1 nS.2.1 nS.2.2.1 nS.2.2.2.1 nS.2.2.2.2.1 nS.2.2.2.2.2.1 nS.2.2.2.2.2.2.1 nS.2.2.2.2.2.2.2.1 nS.2.2.2.2.2.2.2.2.1 nS.2.2.2.2.2.2.2.2.2.1 mS.1 mS.2.1 r55.1 r55.2.1 r55.2.2.1 r55.2.2.2.1 r55.2.2.2.2.1 mS.2.2.2.2.2.2.2.1 mS.2.2.2.2.2.2.2.2.1 r55.2.2.2.2.2)) hx hb hml hown hts hK hN hA hP hD hS hl (c_City_passDay l D cI cM cS cJ aM aK H.size mS.1 mS.2.1 mS.2.2.1 mS.2.2.2.1 mS.2.2.2.2.1 mS.2.2.2.2.2.1 mS.2.2.2.2.2.2.1 mS.2.2.2.2.2.2.2.1 mS.2.2.2.2.2.2.2.2.1 mS.2.2.2.2.2.2.2.2.2.1 g55) gX5_shockedUpright_X2_passDay rfl kdV_X2_passDay 0 2 rfl rfl rfl [5, 6, 7, 8, 9, 10, 11, 12, 13, 14, 15, 16, 17] ⟨rfl, rfl⟩ ⟨Nat.le_of_ble_eq_true rfl, Nat.le_of_ble_eq_true rfl⟩ ⟨Nat.zero_le _, Nat.zero_le _⟩ rfl rfl (by decide +kernel) (k_rp rfl (by decide +kernel)) rfl rfl (Nat.le_of_ble_eq_true rfl) dX5_shockedUpright_55 rfl (fun H locs hP hD hS => ?_)
                refine lv_iinc (v := (y7 + 1)) (lv' := [(7, .int (y7 + 1)), (0, .ref (aW 0)), (1, .int x1), (2, .int x2), (3, .int x3), (4, .long y4), (6, .int y6)]) hx hb dX5_shockedUpright_58 hl (k := 6) rfl (by first | rfl | decide) (by decide) rfl (fun ls hl => ?_)
                refine lv_goto (tgt := 28) hx hb dX5_shockedUpright_61 (by decide) ?_
                exact ih28 (y7 + 1) (mS.1, mS.2.1, r55.1, r55.2.1, r55.2.2.1, r55.2.2.2.1, r55.2.2.2.2.1, mS.2.2.2.2.2.2.2.1, mS.2.2.2.2.2.2.2.2.1, r55.2.2.2.2.2, mS.2.2.2.2.2.2.2.2.2.2) H locs ls hP hD hS (lv_sub hl [1, 2, 3, 4, 5, 6, 0] rfl) h
              · have h := k_neg c41 h
                refine lv_aload_n hx hb dX5_shockedUpright_44 rfl (lv_at hl 0 rfl) ?_
                refine va_get (D := D) (ci := 5) (v := .ref (aM 0)) (C := RX5) (T := TX5) (N := 5) hx hb hts hiX5 hown hK hP 0 rfl rfl 1 (by decide) hf25 (fun _ z => z) rfl dX5_shockedUpright_45 ?_
                obtain ⟨r48, g48, h⟩ := k_bind h
                refine k_callV (As := []) (rest := []) (st1 := []) (ws2 := (Wd16 cI cM aN aW aM aK nS.1 nS.2.1 nS.2.2.1 nS.2.2.2.1 nS.2.2.2.2.1 nS.2.2.2.2.2.1 nS.2.2.2.2.2.2.1 nS.2.2.2.2.2.2.2.1 nS.2.2.2.2.2.2.2.2.1 nS.2.2.2.2.2.2.2.2.2.1 mS.1 mS.2.1 mS.2.2.1 mS.2.2.2.1 mS.2.2.2.2.1 mS.2.2.2.2.2.1 mS.2.2.2.2.2.2.1 mS.2.2.2.2.2.2.2.1 mS.2.2.2.2.2.2.2.2.1 r48)) hx hb hml hown hts hK hN hA hP hD hS hl (c_City_turnSigns l D cI cM cS cJ aM aK H.size mS.1 mS.2.1 mS.2.2.1 mS.2.2.2.1 mS.2.2.2.2.1 mS.2.2.2.2.2.1 mS.2.2.2.2.2.2.1 mS.2.2.2.2.2.2.2.2.2.1 g48) gX5_shockedUpright_X2_turnSigns rfl kdV_X2_turnSigns 0 2 rfl rfl rfl [5, 8] ⟨rfl, rfl⟩ ⟨Nat.le_of_ble_eq_true rfl, Nat.le_of_ble_eq_true rfl⟩ ⟨Nat.zero_le _, Nat.zero_le _⟩ rfl rfl (by decide +kernel) (k_rp rfl (by decide +kernel)) rfl rfl (Nat.le_of_ble_eq_true rfl) dX5_shockedUpright_48 rfl (fun H locs hP hD hS => ?_)
                refine lv_aload_n hx hb dX5_shockedUpright_51 rfl (lv_at hl 0 rfl) ?_
                refine va_get (D := D) (ci := 5) (v := .ref (aM 0)) (C := RX5) (T := TX5) (N := 5) hx hb hts hiX5 hown hK hP 0 rfl rfl 1 (by decide) hf25 (fun _ z => z) rfl dX5_shockedUpright_52 ?_
                obtain ⟨r55, g55, h⟩ := k_bind h
                refine k_callV (As := []) (rest := []) (st1 := []) (ws2 := (Wd16 cI cM aN aW aM aK nS.1 nS.2.1 nS.2.2.1 nS.2.2.2.1 nS.2.2.2.2.1 nS.2.2.2.2.2.1 nS.2.2.2.2.2.2.1 nS.2.2.2.2.2.2.2.1 nS.2.2.2.2.2.2.2.2.1 nS.2.2.2.2.2.2.2.2.2.1 mS.1 mS.2.1 r55.1 r55.2.1 r55.2.2.1 r55.2.2.2.1 r55.2.2.2.2.1 mS.2.2.2.2.2.2.2.1 mS.2.2.2.2.2.2.2.2.1 r55.2.2.2.2.2)) hx hb hml hown hts hK hN hA hP hD hS hl (c_City_passDay l D cI cM cS cJ aM aK H.size mS.1 mS.2.1 mS.2.2.1 mS.2.2.2.1 mS.2.2.2.2.1 mS.2.2.2.2.2.1 mS.2.2.2.2.2.2.1 mS.2.2.2.2.2.2.2.1 mS.2.2.2.2.2.2.2.2.1 r48 g55) gX5_shockedUpright_X2_passDay rfl kdV_X2_passDay 0 2 rfl rfl rfl [5, 6, 7, 8, 9, 10, 11, 12, 13, 14, 15, 16, 17] ⟨rfl, rfl⟩ ⟨Nat.le_of_ble_eq_true rfl, Nat.le_of_ble_eq_true rfl⟩ ⟨Nat.zero_le _, Nat.zero_le _⟩ rfl rfl (by decide +kernel) (k_rp rfl (by decide +kernel)) rfl rfl (Nat.le_of_ble_eq_true rfl) dX5_shockedUpright_55 rfl (fun H locs hP hD hS => ?_)
                refine lv_iinc (v := (y7 + 1)) (lv' := [(7, .int (y7 + 1)), (0, .ref (aW 0)), (1, .int x1), (2, .int x2), (3, .int x3), (4, .long y4), (6, .int y6)]) hx hb dX5_shockedUpright_58 hl (k := 6) rfl (by first | rfl | decide) (by decide) rfl (fun ls hl => ?_)
                refine lv_goto (tgt := 28) hx hb dX5_shockedUpright_61 (by decide) ?_
                exact ih28 (y7 + 1) (mS.1, mS.2.1, r55.1, r55.2.1, r55.2.2.1, r55.2.2.2.1, r55.2.2.2.2.1, mS.2.2.2.2.2.2.2.1, mS.2.2.2.2.2.2.2.2.1, r55.2.2.2.2.2, mS.2.2.2.2.2.2.2.2.2.2) H locs ls hP hD hS (lv_sub hl [1, 2, 3, 4, 5, 6, 0] rfl) h
        refine lv_istore (lv' := [(7, .int 0), (0, .ref (aW 0)), (1, .int x1), (2, .int x2), (3, .int x3), (4, .long y4), (6, .int y6)]) hx hb dX5_shockedUpright_26 hl (by decide) rfl (fun ls hl => ?_)
        exact B28 y4 y6 lfu 0 (r22.1, r22.2.1, r22.2.2.1, r22.2.2.2.1, r22.2.2.2.2.1, r22.2.2.2.2.2.1, mS.2.2.2.2.2.2.1, r22.2.2.2.2.2.2.1, r22.2.2.2.2.2.2.2.1, r22.2.2.2.2.2.2.2.2, mS.2.2.2.2.2.2.2.2.2.2) H locs ls hP hD hS (lv_sub hl [1, 2, 3, 4, 5, 6, 0] rfl) h
  refine lv_istore (lv' := [(6, .int 0), (4, .long 0), (0, .ref (aW 0)), (1, .int x1), (2, .int x2), (3, .int x3)]) hx hb dX5_shockedUpright_4 hl (by decide) rfl (fun ls hl => ?_)
  exact B6 lfu 0 0 mS s.heap [] ls hP hD hS (lv_sub hl [2, 3, 4, 5, 1, 0] rfl) h
abbrev rm_X5_drawnYears : Room := { frames := 5, cells := 0, slots := 0, locals := 128 }
set_option maxHeartbeats 4000000 in
set_option maxRecDepth 100000 in
theorem c_Mind_drawnYears (l : Launch) (D : va_G) (cI cM cS cJ : ClassId) (aN : Nat → Nat) (aW : Nat → Nat) (aM : Nat → Nat) (aK : Nat → Nat) (sz : Nat) (x1 : Int32) (x2 : Int32) (x3 : Int32) (nS : CS) (mS : CS) {o : (Int32) × (CS)} (hsem : S_Mind_drawnYears x1 x2 x3 nS mS = some o) : kMet l yX5_drawnYears wsX5_drawnYears rm_X5_drawnYears [.ref (aW 0), .int x1, .int x2, .int x3] D (kT cI cM cS cJ) (Wd16 cI cM aN aW aM aK nS.1 nS.2.1 nS.2.2.1 nS.2.2.2.1 nS.2.2.2.2.1 nS.2.2.2.2.2.1 nS.2.2.2.2.2.2.1 nS.2.2.2.2.2.2.2.1 nS.2.2.2.2.2.2.2.2.1 nS.2.2.2.2.2.2.2.2.2.1 mS.1 mS.2.1 mS.2.2.1 mS.2.2.2.1 mS.2.2.2.2.1 mS.2.2.2.2.2.1 mS.2.2.2.2.2.2.1 mS.2.2.2.2.2.2.2.1 mS.2.2.2.2.2.2.2.2.1 mS.2.2.2.2.2.2.2.2.2.1) sz (some (.int o.1)) (Wd16 cI cM aN aW aM aK nS.1 nS.2.1 nS.2.2.1 nS.2.2.2.1 nS.2.2.2.2.1 nS.2.2.2.2.2.1 nS.2.2.2.2.2.2.1 nS.2.2.2.2.2.2.2.1 nS.2.2.2.2.2.2.2.2.1 nS.2.2.2.2.2.2.2.2.2.1 o.2.1 o.2.2.1 o.2.2.2.1 o.2.2.2.2.1 o.2.2.2.2.2.1 o.2.2.2.2.2.2.1 o.2.2.2.2.2.2.2.1 o.2.2.2.2.2.2.2.2.1 o.2.2.2.2.2.2.2.2.2.1 o.2.2.2.2.2.2.2.2.2.2.1) := by
  refine k_metI (by decide) rfl rfl (Nat.le_of_ble_eq_true rfl) ?_
  intro p e s m below meth c ls Q A hx hb hml hts hown hK hN hA hP hD hS hl hsz hnm hret
  have hown : s.vm.findClass RX5 = some m.cls := hown
  have hf25 := hts (.fieldLink RX5 25 "PlumbLine$Mind" "then" "LPlumbLine$City;") (List.mem_of_getElem? (i := 1) rfl)
  have hf21 := hts (.fieldLink RX5 21 "PlumbLine$Mind" "now" "LPlumbLine$City;") (List.mem_of_getElem? (i := 2) rfl)
  have hf62 := hts (.fieldLink RX5 62 "PlumbLine$City" "men" "I") (List.mem_of_getElem? (i := 3) rfl)
  have hf128 := hts (.fieldLink RX5 128 "PlumbLine$City" "crashes" "I") (List.mem_of_getElem? (i := 8) rfl)
  have hf38 := hts (.fieldLink RX5 38 "PlumbLine$City" "lean" "[I") (List.mem_of_getElem? (i := 5) rfl)
  have hiX2 : ∀ w ∈ u_ws RX2 TX2 12, w ∈ wsX5_drawnYears := fun w h => List.mem_cons_of_mem _ (List.mem_append_right _ h)
  have hiX5 : ∀ w ∈ u_ws RX5 TX5 5, w ∈ wsX5_drawnYears := fun w h => List.mem_cons_of_mem _ (List.mem_append_left _ (List.mem_append_right _ h))
  replace hl : lv_has ls 9 [(0, .ref (aW 0)), (1, .int x1), (2, .int x2), (3, .int x3)] := hl
  have h := hsem
  clear hsem
  rw [S_Mind_drawnYears] at h
  refine lv_iload_n hx hb dX5_drawnYears_0 rfl (lv_at hl 2 rfl) ?_
  refine lv_istore (lv' := [(4, .int x2), (0, .ref (aW 0)), (1, .int x1), (2, .int x2), (3, .int x3)]) hx hb dX5_drawnYears_1 hl (by decide) rfl (fun ls hl => ?_)
  refine lv_iconst (v := 0) hx hb dX5_drawnYears_3 (by decide) ?_
  refine lv_istore (lv' := [(5, .int 0), (4, .int x2), (0, .ref (aW 0)), (1, .int x1), (2, .int x2), (3, .int x3)]) hx hb dX5_drawnYears_4 hl (by decide) rfl (fun ls hl => ?_)
  refine lv_iconst (v := 0) hx hb dX5_drawnYears_6 (by decide) ?_
  refine lv_istore (lv' := [(6, .int 0), (5, .int 0), (4, .int x2), (0, .ref (aW 0)), (1, .int x1), (2, .int x2), (3, .int x3)]) hx hb dX5_drawnYears_7 hl (by decide) rfl (fun ls hl => ?_)
  refine lv_iconst (v := 0) hx hb dX5_drawnYears_9 (by decide) ?_
  have B12 : ∀ (n12 : Nat) (y4 : Int32) (y5 : Int32) (y6 : Int32) (y7 : Int32) (mS : CS) (H : Heap) (locs : List Loc) (ls : Array Slot), va_P D vwCl (Wd16 cI cM aN aW aM aK nS.1 nS.2.1 nS.2.2.1 nS.2.2.2.1 nS.2.2.2.2.1 nS.2.2.2.2.2.1 nS.2.2.2.2.2.2.1 nS.2.2.2.2.2.2.2.1 nS.2.2.2.2.2.2.2.2.1 nS.2.2.2.2.2.2.2.2.2.1 mS.1 mS.2.1 mS.2.2.1 mS.2.2.2.1 mS.2.2.2.2.1 mS.2.2.2.2.2.1 mS.2.2.2.2.2.2.1 mS.2.2.2.2.2.2.2.1 mS.2.2.2.2.2.2.2.2.1 mS.2.2.2.2.2.2.2.2.2.1) H → va_D A (Wd16 cI cM aN aW aM aK nS.1 nS.2.1 nS.2.2.1 nS.2.2.2.1 nS.2.2.2.2.1 nS.2.2.2.2.2.1 nS.2.2.2.2.2.2.1 nS.2.2.2.2.2.2.2.1 nS.2.2.2.2.2.2.2.2.1 nS.2.2.2.2.2.2.2.2.2.1 mS.1 mS.2.1 mS.2.2.1 mS.2.2.2.1 mS.2.2.2.2.1 mS.2.2.2.2.2.1 mS.2.2.2.2.2.2.1 mS.2.2.2.2.2.2.2.1 mS.2.2.2.2.2.2.2.2.1 mS.2.2.2.2.2.2.2.2.2.1) → va_S A s.heap H locs → lv_has ls 9 [(0, .ref (aW 0)), (1, .int x1), (3, .int x3), (4, .int y4), (5, .int y5), (6, .int y6), (7, .int y7)] → S_Mind_drawnYears_L12 x1 x3 nS n12 y4 y5 y6 y7 mS = some o → W p l e rm_X5_drawnYears s m ([.ref (aW 0), .int x1, .int x2, .int x3] : List Value).toArray below meth c H locs 0 0 Q (F0 m 12 ls []) := by
    intro n12
    induction n12 with
    | zero => intro y4 y5 y6 y7 mS H locs ls hP hD hS hl h; exact absurd h (by simp [S_Mind_drawnYears_L12])
    | succ n12 ih12 =>
      intro y4 y5 y6 y7 mS H locs ls hP hD hS hl h
      rw [S_Mind_drawnYears_L12] at h
      refine lv_iload hx hb dX5_drawnYears_12 (lv_at hl 6 rfl) ?_
      refine lv_iload_n hx hb dX5_drawnYears_14 rfl (lv_at hl 1 rfl) ?_
      refine lv_icmp_ge (tgt := 136) hx hb dX5_drawnYears_15 (by decide) (fun c15 => ?_) (fun c15 => ?_)
      · have h := k_pos c15 h
        refine lv_iload_n hx hb dX5_drawnYears_136 rfl (lv_at hl 2 rfl) ?_
        refine lv_if_ne (tgt := 145) hx hb dX5_drawnYears_137 (by decide) (fun c137 => ?_) (fun c137 => ?_)
        · have h := k_neg c137 h
          refine lv_iload hx hb dX5_drawnYears_145 (lv_at hl 5 rfl) ?_
          cases h
          exact hret _ _ _ _ hP hS dX5_drawnYears_147
        · have h := k_pos c137 h
          refine lv_iload hx hb dX5_drawnYears_140 (lv_at hl 4 rfl) ?_
          refine lv_goto (tgt := 147) hx hb dX5_drawnYears_142 (by decide) ?_
          cases h
          exact hret _ _ _ _ hP hS dX5_drawnYears_147
      · have h := k_neg c15 h
        refine lv_aload_n hx hb dX5_drawnYears_18 rfl (lv_at hl 0 rfl) ?_
        refine va_get (D := D) (ci := 5) (v := .ref (aM 0)) (C := RX5) (T := TX5) (N := 5) hx hb hts hiX5 hown hK hP 0 rfl rfl 1 (by decide) hf25 (fun _ z => z) rfl dX5_drawnYears_19 ?_
        refine lv_aload_n hx hb dX5_drawnYears_22 rfl (lv_at hl 0 rfl) ?_
        refine va_get (D := D) (ci := 5) (v := .ref (aN 0)) (C := RX5) (T := TX5) (N := 5) hx hb hts hiX5 hown hK hP 0 rfl rfl 0 (by decide) hf21 (fun _ z => z) rfl dX5_drawnYears_23 ?_
        obtain ⟨r26, g26, h⟩ := k_bind h
        refine k_callV (As := [.ref (aN 0)]) (rest := []) (st1 := []) (ws2 := (Wd16 cI cM aN aW aM aK nS.1 nS.2.1 nS.2.2.1 nS.2.2.2.1 nS.2.2.2.2.1 nS.2.2.2.2.2.1 nS.2.2.2.2.2.2.1 nS.2.2.2.2.2.2.2.1 nS.2.2.2.2.2.2.2.2.1 nS.2.2.2.2.2.2.2.2.2.1 r26.1 r26.2.1 r26.2.2.1 r26.2.2.2.1 r26.2.2.2.2.1 r26.2.2.2.2.2.1 mS.2.2.2.2.2.2.1 r26.2.2.2.2.2.2.1 r26.2.2.2.2.2.2.2.1 r26.2.2.2.2.2.2.2.2)) hx hb hml hown hts hK hN hA hP hD hS hl (c_City_becomes l D cI cM cS cJ aM aN aK H.size mS.1 mS.2.1 mS.2.2.1 mS.2.2.2.1 mS.2.2.2.2.1 mS.2.2.2.2.2.1 mS.2.2.2.2.2.2.1 mS.2.2.2.2.2.2.2.1 mS.2.2.2.2.2.2.2.2.1 mS.2.2.2.2.2.2.2.2.2.1 nS.1 nS.2.1 nS.2.2.1 nS.2.2.2.1 nS.2.2.2.2.1 nS.2.2.2.2.2.1 nS.2.2.2.2.2.2.1 nS.2.2.2.2.2.2.2.1 nS.2.2.2.2.2.2.2.2.1 nS.2.2.2.2.2.2.2.2.2.1 g26) gX5_drawnYears_X2_becomes rfl kdV_X2_becomes 0 2 rfl rfl rfl [5, 6, 7, 8, 1, 2, 3, 4] ⟨rfl, rfl⟩ ⟨Nat.le_of_ble_eq_true rfl, Nat.le_of_ble_eq_true rfl⟩ ⟨Nat.zero_le _, Nat.zero_le _⟩ rfl rfl (by decide +kernel) (k_rp rfl (by decide +kernel)) rfl rfl (Nat.le_of_ble_eq_true rfl) dX5_drawnYears_26 rfl (fun H locs hP hD hS => ?_)
        refine lv_iconst (v := 0) hx hb dX5_drawnYears_29 (by decide) ?_
        have B32 : ∀ (y5 : Int32) (y6 : Int32) (y7 : Int32) (n32 : Nat) (y4 : Int32) (y8 : Int32) (mS : CS) (H : Heap) (locs : List Loc) (ls : Array Slot), va_P D vwCl (Wd16 cI cM aN aW aM aK nS.1 nS.2.1 nS.2.2.1 nS.2.2.2.1 nS.2.2.2.2.1 nS.2.2.2.2.2.1 nS.2.2.2.2.2.2.1 nS.2.2.2.2.2.2.2.1 nS.2.2.2.2.2.2.2.2.1 nS.2.2.2.2.2.2.2.2.2.1 mS.1 mS.2.1 mS.2.2.1 mS.2.2.2.1 mS.2.2.2.2.1 mS.2.2.2.2.2.1 mS.2.2.2.2.2.2.1 mS.2.2.2.2.2.2.2.1 mS.2.2.2.2.2.2.2.2.1 mS.2.2.2.2.2.2.2.2.2.1) H → va_D A (Wd16 cI cM aN aW aM aK nS.1 nS.2.1 nS.2.2.1 nS.2.2.2.1 nS.2.2.2.2.1 nS.2.2.2.2.2.1 nS.2.2.2.2.2.2.1 nS.2.2.2.2.2.2.2.1 nS.2.2.2.2.2.2.2.2.1 nS.2.2.2.2.2.2.2.2.2.1 mS.1 mS.2.1 mS.2.2.1 mS.2.2.2.1 mS.2.2.2.2.1 mS.2.2.2.2.2.1 mS.2.2.2.2.2.2.1 mS.2.2.2.2.2.2.2.1 mS.2.2.2.2.2.2.2.2.1 mS.2.2.2.2.2.2.2.2.2.1) → va_S A s.heap H locs → lv_has ls 9 [(0, .ref (aW 0)), (1, .int x1), (3, .int x3), (4, .int y4), (5, .int y5), (6, .int y6), (7, .int y7), (8, .int y8)] → S_Mind_drawnYears_L32 (S_Mind_drawnYears_L12 x1 x3 nS n12) y5 y6 y7 nS n32 y4 y8 mS = some o → W p l e rm_X5_drawnYears s m ([.ref (aW 0), .int x1, .int x2, .int x3] : List Value).toArray below meth c H locs 0 0 Q (F0 m 32 ls []) := by
          intro y5 y6 y7
          intro n32
          induction n32 with
          | zero => intro y4 y8 mS H locs ls hP hD hS hl h; exact absurd h (by simp [S_Mind_drawnYears_L32])
          | succ n32 ih32 =>
            intro y4 y8 mS H locs ls hP hD hS hl h
            rw [S_Mind_drawnYears_L32] at h
            refine lv_iload hx hb dX5_drawnYears_32 (lv_at hl 7 rfl) ?_
            refine lv_aload_n hx hb dX5_drawnYears_34 rfl (lv_at hl 0 rfl) ?_
            refine va_get (D := D) (ci := 5) (v := .ref (aM 0)) (C := RX5) (T := TX5) (N := 5) hx hb hts hiX5 hown hK hP 0 rfl rfl 1 (by decide) hf25 (fun _ z => z) rfl dX5_drawnYears_35 ?_
            refine va_get (D := D) (ci := 2) (v := .int mS.1) (C := RX2) (T := TX2) (N := 12) hx hb hts hiX2 hown hK hP 5 rfl rfl 3 (by decide) hf62 (fun _ z => z) rfl dX5_drawnYears_38 ?_
            refine lv_icmp_ge (tgt := 85) hx hb dX5_drawnYears_41 (by decide) (fun c41 => ?_) (fun c41 => ?_)
            · have h := k_pos c41 h
              refine lv_aload_n hx hb dX5_drawnYears_85 rfl (lv_at hl 0 rfl) ?_
              refine va_get (D := D) (ci := 5) (v := .ref (aM 0)) (C := RX5) (T := TX5) (N := 5) hx hb hts hiX5 hown hK hP 0 rfl rfl 1 (by decide) hf25 (fun _ z => z) rfl dX5_drawnYears_86 ?_
              refine lv_bipush (v := 12) hx hb dX5_drawnYears_89 (by decide) ?_
              obtain ⟨r91, g91, h⟩ := k_bind h
              refine k_callV (As := [.int 12]) (rest := []) (st1 := [.int r91.1]) (ws2 := (Wd16 cI cM aN aW aM aK nS.1 nS.2.1 nS.2.2.1 nS.2.2.2.1 nS.2.2.2.2.1 nS.2.2.2.2.2.1 nS.2.2.2.2.2.2.1 nS.2.2.2.2.2.2.2.1 nS.2.2.2.2.2.2.2.2.1 nS.2.2.2.2.2.2.2.2.2.1 mS.1 mS.2.1 r91.2.1 r91.2.2.1 r91.2.2.2.1 r91.2.2.2.2.1 r91.2.2.2.2.2.1 mS.2.2.2.2.2.2.2.1 mS.2.2.2.2.2.2.2.2.1 r91.2.2.2.2.2.2)) hx hb hml hown hts hK hN hA hP hD hS hl (c_City_passDays l D cI cM cS cJ aM aK H.size 12 mS.1 mS.2.1 mS.2.2.1 mS.2.2.2.1 mS.2.2.2.2.1 mS.2.2.2.2.2.1 mS.2.2.2.2.2.2.1 mS.2.2.2.2.2.2.2.1 mS.2.2.2.2.2.2.2.2.1 mS.2.2.2.2.2.2.2.2.2.1 g91) gX5_drawnYears_X2_passDays rfl kdV_X2_passDays 0 2 rfl rfl rfl [5, 6, 7, 8, 9, 10, 11, 12, 13, 14, 15, 16, 17] ⟨rfl, rfl⟩ ⟨Nat.le_of_ble_eq_true rfl, Nat.le_of_ble_eq_true rfl⟩ ⟨Nat.zero_le _, Nat.zero_le _⟩ rfl rfl (by decide +kernel) (k_rp rfl (by decide +kernel)) rfl rfl (Nat.le_of_ble_eq_true rfl) dX5_drawnYears_91 rfl (fun H locs hP hD hS => ?_)
              refine lv_pop hx hb dX5_drawnYears_94 rfl ?_
              refine lv_iload hx hb dX5_drawnYears_95 (lv_at hl 4 rfl) ?_
              refine lv_aload_n hx hb dX5_drawnYears_97 rfl (lv_at hl 0 rfl) ?_
              refine va_get (D := D) (ci := 5) (v := .ref (aM 0)) (C := RX5) (T := TX5) (N := 5) hx hb hts hiX5 hown hK hP 0 rfl rfl 1 (by decide) hf25 (fun _ z => z) rfl dX5_drawnYears_98 ?_
              obtain ⟨r101, g101, h⟩ := k_bind h
              refine k_callV (As := []) (rest := [.int y5]) (st1 := [.int r101, .int y5]) (ws2 := (Wd16 cI cM aN aW aM aK nS.1 nS.2.1 nS.2.2.1 nS.2.2.2.1 nS.2.2.2.2.1 nS.2.2.2.2.2.1 nS.2.2.2.2.2.2.1 nS.2.2.2.2.2.2.2.1 nS.2.2.2.2.2.2.2.2.1 nS.2.2.2.2.2.2.2.2.2.1 mS.1 mS.2.1 r91.2.1 r91.2.2.1 r91.2.2.2.1 r91.2.2.2.2.1 r91.2.2.2.2.2.1 mS.2.2.2.2.2.2.2.1 mS.2.2.2.2.2.2.2.2.1 r91.2.2.2.2.2.2)) hx hb hml hown hts hK hN hA hP hD hS hl (c_City_upright l D cI cM cS cJ aM aK H.size mS.1 mS.2.1 r91.2.1 r91.2.2.1 r91.2.2.2.1 r91.2.2.2.2.1 r91.2.2.2.2.2.1 mS.2.2.2.2.2.2.2.1 mS.2.2.2.2.2.2.2.2.1 r91.2.2.2.2.2.2 g101) gX5_drawnYears_X2_upright rfl kdV_X2_upright 0 2 rfl rfl rfl [5, 6, 7, 8, 9, 10, 11, 12, 13, 14, 15, 16, 17] ⟨rfl, rfl⟩ ⟨Nat.le_of_ble_eq_true rfl, Nat.le_of_ble_eq_true rfl⟩ ⟨Nat.zero_le _, Nat.zero_le _⟩ rfl rfl (by decide +kernel) (k_rp rfl (by decide +kernel)) rfl rfl (Nat.le_of_ble_eq_true rfl) dX5_drawnYears_101 rfl (fun H locs hP hD hS => ?_)
              refine k_callS (As := [.int r101]) (rest := [.int y5]) (st1 := [.int (S_J_bitCount r101), .int y5]) (ws2 := (Wd16 cI cM aN aW aM aK nS.1 nS.2.1 nS.2.2.1 nS.2.2.2.1 nS.2.2.2.2.1 nS.2.2.2.2.2.1 nS.2.2.2.2.2.2.1 nS.2.2.2.2.2.2.2.1 nS.2.2.2.2.2.2.2.2.1 nS.2.2.2.2.2.2.2.2.2.1 mS.1 mS.2.1 r91.2.1 r91.2.2.1 r91.2.2.2.1 r91.2.2.2.2.1 r91.2.2.2.2.2.1 mS.2.2.2.2.2.2.2.1 mS.2.2.2.2.2.2.2.2.1 r91.2.2.2.2.2.2)) hx hb hml hown hts hK hN hA hP hD hS hl (c_J_bitCount l D cI cM cS cJ H.size r101 rfl) gX5_drawnYears_J6_bitCount_0f7a4 rfl kdS_J6_bitCount_0f7a4 [] ⟨rfl, rfl⟩ ⟨Nat.le_of_ble_eq_true rfl, Nat.le_of_ble_eq_true rfl⟩ ⟨Nat.zero_le _, Nat.zero_le _⟩ rfl rfl (by decide +kernel) (k_rp rfl (by decide +kernel)) rfl rfl (Nat.le_of_ble_eq_true rfl) dX5_drawnYears_104 rfl (fun H locs hP hD hS => ?_)
              refine lv_iadd hx hb dX5_drawnYears_107 ?_
              refine lv_istore (lv' := [(5, .int (y5 + (S_J_bitCount r101))), (0, .ref (aW 0)), (1, .int x1), (3, .int x3), (4, .int y4), (6, .int y6), (7, .int y7), (8, .int y8)]) hx hb dX5_drawnYears_108 hl (by decide) rfl (fun ls hl => ?_)
              refine lv_iload hx hb dX5_drawnYears_110 (lv_at hl 5 rfl) ?_
              refine lv_aload_n hx hb dX5_drawnYears_112 rfl (lv_at hl 1 rfl) ?_
              refine va_get (D := D) (ci := 5) (v := .ref (aM 0)) (C := RX5) (T := TX5) (N := 5) hx hb hts hiX5 hown hK hP 0 rfl rfl 1 (by decide) hf25 (fun _ z => z) rfl dX5_drawnYears_113 ?_
              refine va_get (D := D) (ci := 2) (v := .int r91.2.2.2.1) (C := RX2) (T := TX2) (N := 12) hx hb hts hiX2 hown hK hP 5 rfl rfl 7 (by decide) hf128 (fun _ z => z) rfl dX5_drawnYears_116 ?_
              refine lv_aload_n hx hb dX5_drawnYears_119 rfl (lv_at hl 1 rfl) ?_
              refine va_get (D := D) (ci := 5) (v := .ref (aN 0)) (C := RX5) (T := TX5) (N := 5) hx hb hts hiX5 hown hK hP 0 rfl rfl 0 (by decide) hf21 (fun _ z => z) rfl dX5_drawnYears_120 ?_
              refine va_get (D := D) (ci := 2) (v := .int nS.2.2.2.2.1) (C := RX2) (T := TX2) (N := 12) hx hb hts hiX2 hown hK hP 1 rfl rfl 7 (by decide) hf128 (fun _ z => z) rfl dX5_drawnYears_123 ?_
              refine lv_isub hx hb dX5_drawnYears_126 ?_
              refine lv_iadd hx hb dX5_drawnYears_127 ?_
              refine lv_istore (lv' := [(6, .int (y6 + (r91.2.2.2.1 - nS.2.2.2.2.1))), (5, .int (y5 + (S_J_bitCount r101))), (0, .ref (aW 0)), (1, .int x1), (3, .int x3), (4, .int y4), (7, .int y7), (8, .int y8)]) hx hb dX5_drawnYears_128 hl (by decide) rfl (fun ls hl => ?_)
              refine lv_iinc (v := (y7 + 1)) (lv' := [(7, .int (y7 + 1)), (6, .int (y6 + (r91.2.2.2.1 - nS.2.2.2.2.1))), (5, .int (y5 + (S_J_bitCount r101))), (0, .ref (aW 0)), (1, .int x1), (3, .int x3), (4, .int y4), (8, .int y8)]) hx hb dX5_drawnYears_130 hl (k := 6) rfl (by first | rfl | decide) (by decide) rfl (fun ls hl => ?_)
              refine lv_goto (tgt := 12) hx hb dX5_drawnYears_133 (by decide) ?_
              exact ih12 y4 (y5 + (S_J_bitCount r101)) (y6 + (r91.2.2.2.1 - nS.2.2.2.2.1)) (y7 + 1) (mS.1, mS.2.1, r91.2.1, r91.2.2.1, r91.2.2.2.1, r91.2.2.2.2.1, r91.2.2.2.2.2.1, mS.2.2.2.2.2.2.2.1, mS.2.2.2.2.2.2.2.2.1, r91.2.2.2.2.2.2, mS.2.2.2.2.2.2.2.2.2.2) H locs ls hP hD hS (lv_sub hl [3, 4, 5, 6, 2, 1, 0] rfl) h
            · have h := k_neg c41 h
              refine lv_iload hx hb dX5_drawnYears_44 (lv_at hl 3 rfl) ?_
              refine lv_ldc (v := 1103515245) hx hb hown (hts (.constant RX5 125 1103515245) (List.mem_of_getElem? (i := 4) rfl)) dX5_drawnYears_46 ?_
              refine lv_imul hx hb dX5_drawnYears_48 ?_
              refine lv_sipush (v := 12345) hx hb dX5_drawnYears_49 (by decide) ?_
              refine lv_iadd hx hb dX5_drawnYears_52 ?_
              refine lv_istore (lv' := [(4, .int ((y4 * 1103515245) + 12345)), (0, .ref (aW 0)), (1, .int x1), (3, .int x3), (5, .int y5), (6, .int y6), (7, .int y7), (8, .int y8)]) hx hb dX5_drawnYears_53 hl (by decide) rfl (fun ls hl => ?_)
              refine lv_aload_n hx hb dX5_drawnYears_55 rfl (lv_at hl 1 rfl) ?_
              refine va_get (D := D) (ci := 5) (v := .ref (aM 0)) (C := RX5) (T := TX5) (N := 5) hx hb hts hiX5 hown hK hP 0 rfl rfl 1 (by decide) hf25 (fun _ z => z) rfl dX5_drawnYears_56 ?_
              refine va_get (D := D) (ci := 2) (v := .ref (aM 3)) (C := RX2) (T := TX2) (N := 12) hx hb hts hiX2 hown hK hP 5 rfl rfl 2 (by decide) hf38 (fun _ z => z) rfl dX5_drawnYears_59 ?_
              refine lv_iload hx hb dX5_drawnYears_62 (lv_at hl 7 rfl) ?_
              refine lv_iload hx hb dX5_drawnYears_64 (lv_at hl 0 rfl) ?_
              refine lv_ldc (v := 2147483647) hx hb hown (hts (.constant RX5 126 2147483647) (List.mem_of_getElem? (i := 6) rfl)) dX5_drawnYears_66 ?_
              refine lv_iand hx hb dX5_drawnYears_68 ?_
              refine lv_ldc (v := 65536) hx hb hown (hts (.constant RX5 127 65536) (List.mem_of_getElem? (i := 7) rfl)) dX5_drawnYears_69 ?_
              refine lv_idiv hx hb dX5_drawnYears_71 (by decide) ?_
              refine lv_bipush (v := 91) hx hb dX5_drawnYears_72 (by decide) ?_
              refine lv_irem hx hb dX5_drawnYears_74 (by decide) ?_
              refine lv_bipush (v := 45) hx hb dX5_drawnYears_75 (by decide) ?_
              refine lv_isub hx hb dX5_drawnYears_77 ?_
              obtain ⟨g78, h⟩ := k_guard h
              refine va_iast hx hb hK hP hD hS 8 0 rfl rfl g78 dX5_drawnYears_78 (fun H locs hP hD hS => ?_)
              replace hP : va_P D vwCl (Wd16 cI cM aN aW aM aK nS.1 nS.2.1 nS.2.2.1 nS.2.2.2.1 nS.2.2.2.2.1 nS.2.2.2.2.2.1 nS.2.2.2.2.2.2.1 nS.2.2.2.2.2.2.2.1 nS.2.2.2.2.2.2.2.2.1 nS.2.2.2.2.2.2.2.2.2.1 mS.1 mS.2.1 mS.2.2.1 mS.2.2.2.1 mS.2.2.2.2.1 mS.2.2.2.2.2.1 mS.2.2.2.2.2.2.1 mS.2.2.2.2.2.2.2.1 mS.2.2.2.2.2.2.2.2.1 (upd mS.2.2.2.2.2.2.2.2.2.1 y8.toNatClampNeg ((((((y4 * 1103515245) + 12345) &&& 2147483647) / 65536) - ((((y4 * 1103515245) + 12345) &&& 2147483647) / 65536) / 91 * 91) - 45))) H := hP
              replace hD : va_D A (Wd16 cI cM aN aW aM aK nS.1 nS.2.1 nS.2.2.1 nS.2.2.2.1 nS.2.2.2.2.1 nS.2.2.2.2.2.1 nS.2.2.2.2.2.2.1 nS.2.2.2.2.2.2.2.1 nS.2.2.2.2.2.2.2.2.1 nS.2.2.2.2.2.2.2.2.2.1 mS.1 mS.2.1 mS.2.2.1 mS.2.2.2.1 mS.2.2.2.2.1 mS.2.2.2.2.2.1 mS.2.2.2.2.2.2.1 mS.2.2.2.2.2.2.2.1 mS.2.2.2.2.2.2.2.2.1 (upd mS.2.2.2.2.2.2.2.2.2.1 y8.toNatClampNeg ((((((y4 * 1103515245) + 12345) &&& 2147483647) / 65536) - ((((y4 * 1103515245) + 12345) &&& 2147483647) / 65536) / 91 * 91) - 45))) := hD
              refine lv_iinc (v := (y8 + 1)) (lv' := [(8, .int (y8 + 1)), (4, .int ((y4 * 1103515245) + 12345)), (0, .ref (aW 0)), (1, .int x1), (3, .int x3), (5, .int y5), (6, .int y6), (7, .int y7)]) hx hb dX5_drawnYears_79 hl (k := 7) rfl (by first | rfl | decide) (by decide) rfl (fun ls hl => ?_)
              refine lv_goto (tgt := 32) hx hb dX5_drawnYears_82 (by decide) ?_
              exact ih32 ((y4 * 1103515245) + 12345) (y8 + 1) (mS.1, mS.2.1, mS.2.2.1, mS.2.2.2.1, mS.2.2.2.2.1, mS.2.2.2.2.2.1, mS.2.2.2.2.2.2.1, mS.2.2.2.2.2.2.2.1, mS.2.2.2.2.2.2.2.2.1, (upd mS.2.2.2.2.2.2.2.2.2.1 y8.toNatClampNeg ((((((y4 * 1103515245) + 12345) &&& 2147483647) / 65536) - ((((y4 * 1103515245) + 12345) &&& 2147483647) / 65536) / 91 * 91) - 45)), mS.2.2.2.2.2.2.2.2.2.2) H locs ls hP hD hS (lv_sub hl [2, 3, 4, 1, 5, 6, 7, 0] rfl) h
        refine lv_istore (lv' := [(8, .int 0), (0, .ref (aW 0)), (1, .int x1), (3, .int x3), (4, .int y4), (5, .int y5), (6, .int y6), (7, .int y7)]) hx hb dX5_drawnYears_30 hl (by decide) rfl (fun ls hl => ?_)
        exact B32 y5 y6 y7 lfu y4 0 (r26.1, r26.2.1, r26.2.2.1, r26.2.2.2.1, r26.2.2.2.2.1, r26.2.2.2.2.2.1, mS.2.2.2.2.2.2.1, r26.2.2.2.2.2.2.1, r26.2.2.2.2.2.2.2.1, r26.2.2.2.2.2.2.2.2, mS.2.2.2.2.2.2.2.2.2.2) H locs ls hP hD hS (lv_sub hl [1, 2, 3, 4, 5, 6, 7, 0] rfl) h
  refine lv_istore (lv' := [(7, .int 0), (6, .int 0), (5, .int 0), (4, .int x2), (0, .ref (aW 0)), (1, .int x1), (2, .int x2), (3, .int x3)]) hx hb dX5_drawnYears_10 hl (by decide) rfl (fun ls hl => ?_)
  exact B12 lfu x2 0 0 0 mS s.heap [] ls hP hD hS (lv_sub hl [4, 5, 7, 3, 2, 1, 0] rfl) h
