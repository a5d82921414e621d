abbrev rm_X11_power : Room := { frames := 0, cells := 0, slots := 0, locals := 0 }
set_option maxHeartbeats 4000000 in
set_option maxRecDepth 100000 in
theorem c_PL_power (l : Launch) (D : va_G) (cI cM cS cJ : ClassId) (sz : Nat) (x0 : Int32) (x1 : Int32) {o : (Int64)} (hsem : S_PL_power x0 x1 = some o) : kMet l yX11_power wsX11_power rm_X11_power [.int x0, .int x1] D (kT cI cM cS cJ) (Wd0) sz (some (.long o)) (Wd0) := by
  refine k_metJ (by decide) rfl rfl (Nat.le_of_ble_eq_true rfl) ?_
  intro p e s m below meth c ls Q A hx hb hml hts hown hK hN hA hP hD hS hl hsz hnm hret
  have hown : s.vm.findClass RX11 = some m.cls := hown
  replace hl : lv_has ls 5 [(0, .int x0), (1, .int x1)] := hl
  have h := hsem
  clear hsem
  rw [S_PL_power] at h
  refine lv_lconst (v := 1) hx hb dX11_power_0 (by decide) ?_
  refine lv_lstore_n (lv' := [(2, .long 1), (0, .int x0), (1, .int x1)]) hx hb dX11_power_1 rfl hl (by decide) rfl (fun ls hl => ?_)
  refine lv_iconst (v := 0) hx hb dX11_power_2 (by decide) ?_
  have B5 : ∀ (n5 : Nat) (y2 : Int64) (y4 : Int32) (H : Heap) (locs : List Loc) (ls : Array Slot), va_P D vwCl (Wd0) H → va_D A (Wd0) → va_S A s.heap H locs → lv_has ls 5 [(0, .int x0), (1, .int x1), (2, .long y2), (4, .int y4)] → S_PL_power_L5 x0 x1 n5 y2 y4 = some o → W p l e rm_X11_power s m ([.int x0, .int x1] : List Value).toArray below meth c H locs 0 0 Q (F0 m 5 ls []) := by
    intro n5
    induction n5 with
    | zero => intro y2 y4 H locs ls hP hD hS hl h; exact absurd h (by simp [S_PL_power_L5])
    | succ n5 ih5 =>
      intro y2 y4 H locs ls hP hD hS hl h
      rw [S_PL_power_L5] at h
      refine lv_iload hx hb dX11_power_5 (lv_at hl 3 rfl) ?_
      refine lv_iload_n hx hb dX11_power_7 rfl (lv_at hl 1 rfl) ?_
      refine lv_icmp_ge (tgt := 22) hx hb dX11_power_8 (by decide) (fun c8 => ?_) (fun c8 => ?_)
      · have h := k_pos c8 h
        refine lv_lload_n hx hb dX11_power_22 rfl (lv_at hl 2 rfl) ?_
        cases h
        exact hret _ _ _ _ hP hS dX11_power_23
      · have h := k_neg c8 h
        refine lv_lload_n hx hb dX11_power_11 rfl (lv_at hl 2 rfl) ?_
        refine lv_iload_n hx hb dX11_power_12 rfl (lv_at hl 0 rfl) ?_
        refine lv_i2l (v := (x0 : Int32).toInt64) hx hb dX11_power_13 rfl ?_
        refine lv_lmul hx hb dX11_power_14 ?_
        refine lv_lstore_n (lv' := [(2, .long (y2 * (x0 : Int32).toInt64)), (0, .int x0), (1, .int x1), (4, .int y4)]) hx hb dX11_power_15 rfl hl (by decide) rfl (fun ls hl => ?_)
        refine lv_iinc (v := (y4 + 1)) (lv' := [(4, .int (y4 + 1)), (2, .long (y2 * (x0 : Int32).toInt64)), (0, .int x0), (1, .int x1)]) hx hb dX11_power_16 hl (k := 3) rfl (by first | rfl | decide) (by decide) rfl (fun ls hl => ?_)
        refine lv_goto (tgt := 5) hx hb dX11_power_19 (by decide) ?_
        exact ih5 (y2 * (x0 : Int32).toInt64) (y4 + 1) H locs ls hP hD hS (lv_sub hl [2, 3, 1, 0] rfl) h
  refine lv_istore (lv' := [(4, .int 0), (2, .long 1), (0, .int x0), (1, .int x1)]) hx hb dX11_power_3 hl (by decide) rfl (fun ls hl => ?_)
  exact B5 lfu 1 0 s.heap [] ls hP hD hS (lv_sub hl [2, 3, 1, 0] rfl) h
abbrev Wd16 (cI : ClassId) (cM : ClassId) (aN : Nat → Nat) (aW : Nat → Nat) (aM : Nat → Nat) (aK : Nat → Nat) (n_men : Int32) (n_propped : Int32) (n_place : Int32) (n_swings : Int32) (n_crashes : Int32) (n_day : Int32) (n_crashedToday : Int32) (n_kind : Nat → Int32) (n_figure : Nat → Int32) (n_lean : Nat → Int32) (m_men : Int32) (m_propped : Int32) (m_place : Int32) (m_swings : Int32) (m_crashes : Int32) (m_day : Int32) (m_crashedToday : Int32) (m_kind : Nat → Int32) (m_figure : Nat → Int32) (m_lean : Nat → Int32) : va_W := [((aW 0), .inr (5, [.ref (aN 0), .ref (aM 0), .ref (aW 1), .ref (aW 2), .ref (aW 3)])), ((aN 0), .inr (2, [.ref (aN 1), .ref (aN 2), .ref (aN 3), .int n_men, .int n_propped, .int n_place, .int n_swings, .int n_crashes, .int n_day, .int n_crashedToday, .ref (aK 8), .ref (aN 4)])), ((aN 1), .inl (cI, 8, .inl n_kind)), ((aN 2), .inl (cI, 8, .inl n_figure)), ((aN 3), .inl (cI, 8, .inl n_lean)), ((aM 0), .inr (2, [.ref (aM 1), .ref (aM 2), .ref (aM 3), .int m_men, .int m_propped, .int m_place, .int m_swings, .int m_crashes, .int m_day, .int m_crashedToday, .ref (aK 8), .ref (aM 4)])), ((aM 1), .inl (cI, 8, .inl m_kind)), ((aM 2), .inl (cI, 8, .inl m_figure)), ((aM 3), .inl (cI, 8, .inl m_lean)), ((aK 8), .inl (cM, 8, .inr (.inr (.inr (.inr (fun k => some (aK k))))))), ((aK 0), .inr (4, [])), ((aK 1), .inr (0, [])), ((aK 2), .inr (7, [])), ((aK 3), .inr (3, [])), ((aK 4), .inr (1, [])), ((aK 5), .inr (8, [])), ((aK 6), .inr (10, [])), ((aK 7), .inr (6, []))]
theorem kdV_X2_becomes : yX2_becomes.cls = RX2 ∧ yX2_becomes.cls ≠ "java/lang/invoke/MethodHandle" ∧ yX2_becomes.cls ≠ "java/lang/invoke/VarHandle" ∧ (parseMethodDescriptor yX2_becomes.desc).map (fun d => d.parameters.length) = some 1 := by decide +kernel
abbrev rm_X5_after : Room := { frames := 5, cells := 0, slots := 0, locals := 128 }
set_option maxHeartbeats 4000000 in
set_option maxRecDepth 100000 in
theorem c_Mind_after (l : Launch) (D : va_G) (cI cM cS cJ : ClassId) (aN : Nat → Nat) (aW : Nat → Nat) (aM : Nat → Nat) (aK : Nat → Nat) (sz : Nat) (x1 : Int32) (nS : CS) (mS : CS) {o : (CS)} (hsem : S_Mind_after x1 nS mS = some o) : kMet l yX5_after wsX5_after rm_X5_after [.ref (aW 0), .int x1] D (kT cI cM cS cJ) (Wd16 cI cM aN aW aM aK nS.1 nS.2.1 nS.2.2.1 nS.2.2.2.1 nS.2.2.2.2.1 nS.2.2.2.2.2.1 nS.2.2.2.2.2.2.1 nS.2.2.2.2.2.2.2.1 nS.2.2.2.2.2.2.2.2.1 nS.2.2.2.2.2.2.2.2.2.1 mS.1 mS.2.1 mS.2.2.1 mS.2.2.2.1 mS.2.2.2.2.1 mS.2.2.2.2.2.1 mS.2.2.2.2.2.2.1 mS.2.2.2.2.2.2.2.1 mS.2.2.2.2.2.2.2.2.1 mS.2.2.2.2.2.2.2.2.2.1) sz (some (.ref (aM 0))) (Wd16 cI cM aN aW aM aK nS.1 nS.2.1 nS.2.2.1 nS.2.2.2.1 nS.2.2.2.2.1 nS.2.2.2.2.2.1 nS.2.2.2.2.2.2.1 nS.2.2.2.2.2.2.2.1 nS.2.2.2.2.2.2.2.2.1 nS.2.2.2.2.2.2.2.2.2.1 o.1 o.2.1 o.2.2.1 o.2.2.2.1 o.2.2.2.2.1 o.2.2.2.2.2.1 o.2.2.2.2.2.2.1 o.2.2.2.2.2.2.2.1 o.2.2.2.2.2.2.2.2.1 o.2.2.2.2.2.2.2.2.2.1) := by
  refine k_metR (by decide) rfl ⟨_, rfl⟩ (Nat.le_of_ble_eq_true rfl) ?_
  intro p e s m below meth c ls Q A hx hb hml hts hown hK hN hA hP hD hS hl hsz hnm hret
  have hown : s.vm.findClass RX5 = some m.cls := hown
  have hf25 := hts (.fieldLink RX5 25 "PlumbLine$Mind" "then" "LPlumbLine$City;") (List.mem_of_getElem? (i := 1) rfl)
  have hf21 := hts (.fieldLink RX5 21 "PlumbLine$Mind" "now" "LPlumbLine$City;") (List.mem_of_getElem? (i := 2) rfl)
  have hiX5 : ∀ w ∈ u_ws RX5 TX5 5, w ∈ wsX5_after := fun w h => List.mem_cons_of_mem _ (List.mem_append_left _ (List.mem_append_right _ h))
  replace hl : lv_has ls 2 [(0, .ref (aW 0)), (1, .int x1)] := hl
  have h := hsem
  clear hsem
  rw [S_Mind_after] at h
  refine lv_aload_n hx hb dX5_after_0 rfl (lv_at hl 0 rfl) ?_
  refine va_get (D := D) (ci := 5) (v := .ref (aM 0)) (C := RX5) (T := TX5) (N := 5) hx hb hts hiX5 hown hK hP 0 rfl rfl 1 (by decide) hf25 (fun _ z => z) rfl dX5_after_1 ?_
  refine lv_aload_n hx hb dX5_after_4 rfl (lv_at hl 0 rfl) ?_
  refine va_get (D := D) (ci := 5) (v := .ref (aN 0)) (C := RX5) (T := TX5) (N := 5) hx hb hts hiX5 hown hK hP 0 rfl rfl 0 (by decide) hf21 (fun _ z => z) rfl dX5_after_5 ?_
  obtain ⟨r8, g8, h⟩ := k_bind h
  refine k_callV (As := [.ref (aN 0)]) (rest := []) (st1 := []) (ws2 := (Wd16 cI cM aN aW aM aK nS.1 nS.2.1 nS.2.2.1 nS.2.2.2.1 nS.2.2.2.2.1 nS.2.2.2.2.2.1 nS.2.2.2.2.2.2.1 nS.2.2.2.2.2.2.2.1 nS.2.2.2.2.2.2.2.2.1 nS.2.2.2.2.2.2.2.2.2.1 r8.1 r8.2.1 r8.2.2.1 r8.2.2.2.1 r8.2.2.2.2.1 r8.2.2.2.2.2.1 mS.2.2.2.2.2.2.1 r8.2.2.2.2.2.2.1 r8.2.2.2.2.2.2.2.1 r8.2.2.2.2.2.2.2.2)) hx hb hml hown hts hK hN hA hP hD hS hl (c_City_becomes l D cI cM cS cJ aM aN aK s.heap.size mS.1 mS.2.1 mS.2.2.1 mS.2.2.2.1 mS.2.2.2.2.1 mS.2.2.2.2.2.1 mS.2.2.2.2.2.2.1 mS.2.2.2.2.2.2.2.1 mS.2.2.2.2.2.2.2.2.1 mS.2.2.2.2.2.2.2.2.2.1 nS.1 nS.2.1 nS.2.2.1 nS.2.2.2.1 nS.2.2.2.2.1 nS.2.2.2.2.2.1 nS.2.2.2.2.2.2.1 nS.2.2.2.2.2.2.2.1 nS.2.2.2.2.2.2.2.2.1 nS.2.2.2.2.2.2.2.2.2.1 g8) gX5_after_X2_becomes rfl kdV_X2_becomes 0 2 rfl rfl rfl [5, 6, 7, 8, 1, 2, 3, 4] ⟨rfl, rfl⟩ ⟨Nat.le_of_ble_eq_true rfl, Nat.le_of_ble_eq_true rfl⟩ ⟨Nat.zero_le _, Nat.zero_le _⟩ rfl rfl (by decide +kernel) rfl rfl rfl (Nat.le_of_ble_eq_true rfl) dX5_after_8 rfl (fun H locs hP hD hS => ?_)
  refine lv_aload_n hx hb dX5_after_11 rfl (lv_at hl 0 rfl) ?_
  refine va_get (D := D) (ci := 5) (v := .ref (aM 0)) (C := RX5) (T := TX5) (N := 5) hx hb hts hiX5 hown hK hP 0 rfl rfl 1 (by decide) hf25 (fun _ z => z) rfl dX5_after_12 ?_
  refine lv_iload_n hx hb dX5_after_15 rfl (lv_at hl 1 rfl) ?_
  obtain ⟨r16, g16, h⟩ := k_bind h
  refine k_callV (As := [.int x1]) (rest := []) (st1 := [.int r16.1]) (ws2 := (Wd16 cI cM aN aW aM aK nS.1 nS.2.1 nS.2.2.1 nS.2.2.2.1 nS.2.2.2.2.1 nS.2.2.2.2.2.1 nS.2.2.2.2.2.2.1 nS.2.2.2.2.2.2.2.1 nS.2.2.2.2.2.2.2.2.1 nS.2.2.2.2.2.2.2.2.2.1 r8.1 r8.2.1 r16.2.1 r16.2.2.1 r16.2.2.2.1 r16.2.2.2.2.1 r16.2.2.2.2.2.1 r8.2.2.2.2.2.2.1 r8.2.2.2.2.2.2.2.1 r16.2.2.2.2.2.2)) hx hb hml hown hts hK hN hA hP hD hS hl (c_City_passDays l D cI cM cS cJ aM aK H.size x1 r8.1 r8.2.1 r8.2.2.1 r8.2.2.2.1 r8.2.2.2.2.1 r8.2.2.2.2.2.1 mS.2.2.2.2.2.2.1 r8.2.2.2.2.2.2.1 r8.2.2.2.2.2.2.2.1 r8.2.2.2.2.2.2.2.2 g16) gX5_after_X2_passDays rfl kdV_X2_passDays 0 2 rfl rfl rfl [5, 6, 7, 8, 9, 10, 11, 12, 13, 14, 15, 16, 17] ⟨rfl, rfl⟩ ⟨Nat.le_of_ble_eq_true rfl, Nat.le_of_ble_eq_true rfl⟩ ⟨Nat.zero_le _, Nat.zero_le _⟩ rfl rfl (by decide +kernel) rfl rfl rfl (Nat.le_of_ble_eq_true rfl) dX5_after_16 rfl (fun H locs hP hD hS => ?_)
  refine lv_pop hx hb dX5_after_19 rfl ?_
  refine lv_aload_n hx hb dX5_after_20 rfl (lv_at hl 0 rfl) ?_
  refine va_get (D := D) (ci := 5) (v := .ref (aM 0)) (C := RX5) (T := TX5) (N := 5) hx hb hts hiX5 hown hK hP 0 rfl rfl 1 (by decide) hf25 (fun _ z => z) rfl dX5_after_21 ?_
  cases h
  exact hret _ _ _ _ hP hS dX5_after_24
abbrev rm_X5_daysToStraight : Room := { frames := 4, cells := 0, slots := 0, locals := 105 }
set_option maxHeartbeats 4000000 in
set_option maxRecDepth 100000 in
theorem c_Mind_daysToStraight (l : Launch) (D : va_G) (cI cM cS cJ : ClassId) (aN : Nat → Nat) (aW : Nat → Nat) (aM : Nat → Nat) (aK : Nat → Nat) (sz : Nat) (x1 : Int32) (nS : CS) (mS : CS) {o : (Int32) × (CS)} (hsem : S_Mind_daysToStraight x1 nS mS = some o) : kMet l yX5_daysToStraight wsX5_daysToStraight rm_X5_daysToStraight [.ref (aW 0), .int x1] D (kT cI cM cS cJ) (Wd16 cI cM aN aW aM aK nS.1 nS.2.1 nS.2.2.1 nS.2.2.2.1 nS.2.2.2.2.1 nS.2.2.2.2.2.1 nS.2.2.2.2.2.2.1 nS.2.2.2.2.2.2.2.1 nS.2.2.2.2.2.2.2.2.1 nS.2.2.2.2.2.2.2.2.2.1 mS.1 mS.2.1 mS.2.2.1 mS.2.2.2.1 mS.2.2.2.2.1 mS.2.2.2.2.2.1 mS.2.2.2.2.2.2.1 mS.2.2.2.2.2.2.2.1 mS.2.2.2.2.2.2.2.2.1 mS.2.2.2.2.2.2.2.2.2.1) sz (some (.int o.1)) (Wd16 cI cM aN aW aM aK nS.1 nS.2.1 nS.2.2.1 nS.2.2.2.1 nS.2.2.2.2.1 nS.2.2.2.2.2.1 nS.2.2.2.2.2.2.1 nS.2.2.2.2.2.2.2.1 nS.2.2.2.2.2.2.2.2.1 nS.2.2.2.2.2.2.2.2.2.1 o.2.1 o.2.2.1 o.2.2.2.1 o.2.2.2.2.1 o.2.2.2.2.2.1 o.2.2.2.2.2.2.1 o.2.2.2.2.2.2.2.1 o.2.2.2.2.2.2.2.2.1 o.2.2.2.2.2.2.2.2.2.1 o.2.2.2.2.2.2.2.2.2.2.1) := by
  refine k_metI (by decide) rfl rfl (Nat.le_of_ble_eq_true rfl) ?_
  intro p e s m below meth c ls Q A hx hb hml hts hown hK hN hA hP hD hS hl hsz hnm hret
  have hown : s.vm.findClass RX5 = some m.cls := hown
  have hf25 := hts (.fieldLink RX5 25 "PlumbLine$Mind" "then" "LPlumbLine$City;") (List.mem_of_getElem? (i := 1) rfl)
  have hf21 := hts (.fieldLink RX5 21 "PlumbLine$Mind" "now" "LPlumbLine$City;") (List.mem_of_getElem? (i := 2) rfl)
  have hf38 := hts (.fieldLink RX5 38 "PlumbLine$City" "lean" "[I") (List.mem_of_getElem? (i := 3) rfl)
  have hiX2 : ∀ w ∈ u_ws RX2 TX2 12, w ∈ wsX5_daysToStraight := fun w h => List.mem_cons_of_mem _ (List.mem_append_right _ h)
  have hiX5 : ∀ w ∈ u_ws RX5 TX5 5, w ∈ wsX5_daysToStraight := fun w h => List.mem_cons_of_mem _ (List.mem_append_left _ (List.mem_append_right _ h))
  replace hl : lv_has ls 3 [(0, .ref (aW 0)), (1, .int x1)] := hl
  have h := hsem
  clear hsem
  rw [S_Mind_daysToStraight] at h
  refine lv_aload_n hx hb dX5_daysToStraight_0 rfl (lv_at hl 0 rfl) ?_
  refine va_get (D := D) (ci := 5) (v := .ref (aM 0)) (C := RX5) (T := TX5) (N := 5) hx hb hts hiX5 hown hK hP 0 rfl rfl 1 (by decide) hf25 (fun _ z => z) rfl dX5_daysToStraight_1 ?_
  refine lv_aload_n hx hb dX5_daysToStraight_4 rfl (lv_at hl 0 rfl) ?_
  refine va_get (D := D) (ci := 5) (v := .ref (aN 0)) (C := RX5) (T := TX5) (N := 5) hx hb hts hiX5 hown hK hP 0 rfl rfl 0 (by decide) hf21 (fun _ z => z) rfl dX5_daysToStraight_5 ?_
  obtain ⟨r8, g8, h⟩ := k_bind h
  refine k_callV (As := [.ref (aN 0)]) (rest := []) (st1 := []) (ws2 := (Wd16 cI cM aN aW aM aK nS.1 nS.2.1 nS.2.2.1 nS.2.2.2.1 nS.2.2.2.2.1 nS.2.2.2.2.2.1 nS.2.2.2.2.2.2.1 nS.2.2.2.2.2.2.2.1 nS.2.2.2.2.2.2.2.2.1 nS.2.2.2.2.2.2.2.2.2.1 r8.1 r8.2.1 r8.2.2.1 r8.2.2.2.1 r8.2.2.2.2.1 r8.2.2.2.2.2.1 mS.2.2.2.2.2.2.1 r8.2.2.2.2.2.2.1 r8.2.2.2.2.2.2.2.1 r8.2.2.2.2.2.2.2.2)) hx hb hml hown hts hK hN hA hP hD hS hl (c_City_becomes l D cI cM cS cJ aM aN aK s.heap.size mS.1 mS.2.1 mS.2.2.1 mS.2.2.2.1 mS.2.2.2.2.1 mS.2.2.2.2.2.1 mS.2.2.2.2.2.2.1 mS.2.2.2.2.2.2.2.1 mS.2.2.2.2.2.2.2.2.1 mS.2.2.2.2.2.2.2.2.2.1 nS.1 nS.2.1 nS.2.2.1 nS.2.2.2.1 nS.2.2.2.2.1 nS.2.2.2.2.2.1 nS.2.2.2.2.2.2.1 nS.2.2.2.2.2.2.2.1 nS.2.2.2.2.2.2.2.2.1 nS.2.2.2.2.2.2.2.2.2.1 g8) gX5_daysToStraight_X2_becomes rfl kdV_X2_becomes 0 2 rfl rfl rfl [5, 6, 7, 8, 1, 2, 3, 4] ⟨rfl, rfl⟩ ⟨Nat.le_of_ble_eq_true rfl, Nat.le_of_ble_eq_true rfl⟩ ⟨Nat.zero_le _, Nat.zero_le _⟩ rfl rfl (by decide +kernel) rfl rfl rfl (Nat.le_of_ble_eq_true rfl) dX5_daysToStraight_8 rfl (fun H locs hP hD hS => ?_)
  refine lv_iconst (v := 0) hx hb dX5_daysToStraight_11 (by decide) ?_
  have B13 : ∀ (n13 : Nat) (y2 : Int32) (mS : CS) (H : Heap) (locs : List Loc) (ls : Array Slot), va_P D vwCl (Wd16 cI cM aN aW aM aK nS.1 nS.2.1 nS.2.2.1 nS.2.2.2.1 nS.2.2.2.2.1 nS.2.2.2.2.2.1 nS.2.2.2.2.2.2.1 nS.2.2.2.2.2.2.2.1 nS.2.2.2.2.2.2.2.2.1 nS.2.2.2.2.2.2.2.2.2.1 mS.1 mS.2.1 mS.2.2.1 mS.2.2.2.1 mS.2.2.2.2.1 mS.2.2.2.2.2.1 mS.2.2.2.2.2.2.1 mS.2.2.2.2.2.2.2.1 mS.2.2.2.2.2.2.2.2.1 mS.2.2.2.2.2.2.2.2.2.1) H → va_D A (Wd16 cI cM aN aW aM aK nS.1 nS.2.1 nS.2.2.1 nS.2.2.2.1 nS.2.2.2.2.1 nS.2.2.2.2.2.1 nS.2.2.2.2.2.2.1 nS.2.2.2.2.2.2.2.1 nS.2.2.2.2.2.2.2.2.1 nS.2.2.2.2.2.2.2.2.2.1 mS.1 mS.2.1 mS.2.2.1 mS.2.2.2.1 mS.2.2.2.2.1 mS.2.2.2.2.2.1 mS.2.2.2.2.2.2.1 mS.2.2.2.2.2.2.2.1 mS.2.2.2.2.2.2.2.2.1 mS.2.2.2.2.2.2.2.2.2.1) → va_S A s.heap H locs → lv_has ls 3 [(0, .ref (aW 0)), (1, .int x1), (2, .int y2)] → S_Mind_daysToStraight_L13 x1 n13 y2 mS = some o → W p l e rm_X5_daysToStraight s m ([.ref (aW 0), .int x1] : List Value).toArray below meth c H locs 0 0 Q (F0 m 13 ls []) := by
    intro n13
    induction n13 with
    | zero => intro y2 mS H locs ls hP hD hS hl h; exact absurd h (by simp [S_Mind_daysToStraight_L13])
    | succ n13 ih13 =>
      intro y2 mS H locs ls hP hD hS hl h
      rw [S_Mind_daysToStraight_L13] at h
      refine lv_iload_n hx hb dX5_daysToStraight_13 rfl (lv_at hl 2 rfl) ?_
      refine lv_bipush (v := 60) hx hb dX5_daysToStraight_14 (by decide) ?_
      refine lv_icmp_gt (tgt := 46) hx hb dX5_daysToStraight_16 (by decide) (fun c16 => ?_) (fun c16 => ?_)
      · have h := k_pos c16 h
        refine lv_bipush (v := (-4)) hx hb dX5_daysToStraight_46 (by decide) ?_
        cases h
        exact hret _ _ _ _ hP hS dX5_daysToStraight_48
      · have h := k_neg c16 h
        refine lv_aload_n hx hb dX5_daysToStraight_19 rfl (lv_at hl 0 rfl) ?_
        refine va_get (D := D) (ci := 5) (v := .ref (aM 0)) (C := RX5) (T := TX5) (N := 5) hx hb hts hiX5 hown hK hP 0 rfl rfl 1 (by decide) hf25 (fun _ z => z) rfl dX5_daysToStraight_20 ?_
        refine va_get (D := D) (ci := 2) (v := .ref (aM 3)) (C := RX2) (T := TX2) (N := 12) hx hb hts hiX2 hown hK hP 5 rfl rfl 2 (by decide) hf38 (fun _ z => z) rfl dX5_daysToStraight_23 ?_
        refine lv_iload_n hx hb dX5_daysToStraight_26 rfl (lv_at hl 1 rfl) ?_
        obtain ⟨g27, h⟩ := k_guard h
        refine va_iald hx hb hK hP 8 0 rfl rfl g27 dX5_daysToStraight_27 ?_
        refine lv_if_ne (tgt := 33) hx hb dX5_daysToStraight_28 (by decide) (fun c28 => ?_) (fun c28 => ?_)
        · have h := k_neg c28 h
          refine lv_aload_n hx hb dX5_daysToStraight_33 rfl (lv_at hl 0 rfl) ?_
          refine va_get (D := D) (ci := 5) (v := .ref (aM 0)) (C := RX5) (T := TX5) (N := 5) hx hb hts hiX5 hown hK hP 0 rfl rfl 1 (by decide) hf25 (fun _ z => z) rfl dX5_daysToStraight_34 ?_
          obtain ⟨r37, g37, h⟩ := k_bind h
          refine k_callV (As := []) (rest := []) (st1 := []) (ws2 := (Wd16 cI cM aN aW aM aK nS.1 nS.2.1 nS.2.2.1 nS.2.2.2.1 nS.2.2.2.2.1 nS.2.2.2.2.2.1 nS.2.2.2.2.2.2.1 nS.2.2.2.2.2.2.2.1 nS.2.2.2.2.2.2.2.2.1 nS.2.2.2.2.2.2.2.2.2.1 mS.1 mS.2.1 r37.1 r37.2.1 r37.2.2.1 r37.2.2.2.1 r37.2.2.2.2.1 mS.2.2.2.2.2.2.2.1 mS.2.2.2.2.2.2.2.2.1 r37.2.2.2.2.2)) hx hb hml hown hts hK hN hA hP hD hS hl (c_City_passDay l D cI cM cS cJ aM aK H.size mS.1 mS.2.1 mS.2.2.1 mS.2.2.2.1 mS.2.2.2.2.1 mS.2.2.2.2.2.1 mS.2.2.2.2.2.2.1 mS.2.2.2.2.2.2.2.1 mS.2.2.2.2.2.2.2.2.1 mS.2.2.2.2.2.2.2.2.2.1 g37) gX5_daysToStraight_X2_passDay rfl kdV_X2_passDay 0 2 rfl rfl rfl [5, 6, 7, 8, 9, 10, 11, 12, 13, 14, 15, 16, 17] ⟨rfl, rfl⟩ ⟨Nat.le_of_ble_eq_true rfl, Nat.le_of_ble_eq_true rfl⟩ ⟨Nat.zero_le _, Nat.zero_le _⟩ rfl rfl (by decide +kernel) rfl rfl rfl (Nat.le_of_ble_eq_true rfl) dX5_daysToStraight_37 rfl (fun H locs hP hD hS => ?_)
          refine lv_iinc (v := (y2 + 1)) (lv' := [(2, .int (y2 + 1)), (0, .ref (aW 0)), (1, .int x1)]) hx hb dX5_daysToStraight_40 hl (k := 2) rfl (by first | rfl | decide) (by decide) rfl (fun ls hl => ?_)
          refine lv_goto (tgt := 13) hx hb dX5_daysToStraight_43 (by decide) ?_
          exact ih13 (y2 + 1) (mS.1, mS.2.1, r37.1, r37.2.1, r37.2.2.1, r37.2.2.2.1, r37.2.2.2.2.1, mS.2.2.2.2.2.2.2.1, mS.2.2.2.2.2.2.2.2.1, r37.2.2.2.2.2, mS.2.2.2.2.2.2.2.2.2.2) H locs ls hP hD hS (lv_sub hl [1, 2, 0] rfl) h
        · have h := k_pos c28 h
          refine lv_iload_n hx hb dX5_daysToStraight_31 rfl (lv_at hl 2 rfl) ?_
          cases h
          exact hret _ _ _ _ hP hS dX5_daysToStraight_32
  refine lv_istore_n (lv' := [(2, .int 0), (0, .ref (aW 0)), (1, .int x1)]) hx hb dX5_daysToStraight_12 rfl hl (by decide) rfl (fun ls hl => ?_)
  exact B13 lfu 0 (r8.1, r8.2.1, r8.2.2.1, r8.2.2.2.1, r8.2.2.2.2.1, r8.2.2.2.2.2.1, mS.2.2.2.2.2.2.1, r8.2.2.2.2.2.2.1, r8.2.2.2.2.2.2.2.1, r8.2.2.2.2.2.2.2.2, mS.2.2.2.2.2.2.2.2.2.2) H locs ls hP hD hS (lv_sub hl [1, 2, 0] rfl) h
abbrev rm_X5_daysToCrash : Room := { frames := 4, cells := 0, slots := 0, locals := 105 }
set_option maxHeartbeats 4000000 in
set_option maxRecDepth 100000 in
theorem c_Mind_daysToCrash (l : Launch) (D : va_G) (cI cM cS cJ : ClassId) (aN : Nat → Nat) (aW : Nat → Nat) (aM : Nat → Nat) (aK : Nat → Nat) (sz : Nat) (nS : CS) (mS : CS) {o : (Int32) × (CS)} (hsem : S_Mind_daysToCrash nS mS = some o) : kMet l yX5_daysToCrash wsX5_daysToCrash rm_X5_daysToCrash [.ref (aW 0)] D (kT cI cM cS cJ) (Wd16 cI cM aN aW aM aK nS.1 nS.2.1 nS.2.2.1 nS.2.2.2.1 nS.2.2.2.2.1 nS.2.2.2.2.2.1 nS.2.2.2.2.2.2.1 nS.2.2.2.2.2.2.2.1 nS.2.2.2.2.2.2.2.2.1 nS.2.2.2.2.2.2.2.2.2.1 mS.1 mS.2.1 mS.2.2.1 mS.2.2.2.1 mS.2.2.2.2.1 mS.2.2.2.2.2.1 mS.2.2.2.2.2.2.1 mS.2.2.2.2.2.2.2.1 mS.2.2.2.2.2.2.2.2.1 mS.2.2.2.2.2.2.2.2.2.1) sz (some (.int o.1)) (Wd16 cI cM aN aW aM aK nS.1 nS.2.1 nS.2.2.1 nS.2.2.2.1 nS.2.2.2.2.1 nS.2.2.2.2.2.1 nS.2.2.2.2.2.2.1 nS.2.2.2.2.2.2.2.1 nS.2.2.2.2.2.2.2.2.1 nS.2.2.2.2.2.2.2.2.2.1 o.2.1 o.2.2.1 o.2.2.2.1 o.2.2.2.2.1 o.2.2.2.2.2.1 o.2.2.2.2.2.2.1 o.2.2.2.2.2.2.2.1 o.2.2.2.2.2.2.2.2.1 o.2.2.2.2.2.2.2.2.2.1 o.2.2.2.2.2.2.2.2.2.2.1) := by
  refine k_metI (by decide) rfl rfl (Nat.le_of_ble_eq_true rfl) ?_
  intro p e s m below meth c ls Q A hx hb hml hts hown hK hN hA hP hD hS hl hsz hnm hret
  have hown : s.vm.findClass RX5 = some m.cls := hown
  have hf25 := hts (.fieldLink RX5 25 "PlumbLine$Mind" "then" "LPlumbLine$City;") (List.mem_of_getElem? (i := 1) rfl)
  have hf21 := hts (.fieldLink RX5 21 "PlumbLine$Mind" "now" "LPlumbLine$City;") (List.mem_of_getElem? (i := 2) rfl)
  have hf44 := hts (.fieldLink RX5 44 "PlumbLine$City" "crashedToday" "Z") (List.mem_of_getElem? (i := 3) rfl)
  have hiX2 : ∀ w ∈ u_ws RX2 TX2 12, w ∈ wsX5_daysToCrash := fun w h => List.mem_cons_of_mem _ (List.mem_append_right _ h)
  have hiX5 : ∀ w ∈ u_ws RX5 TX5 5, w ∈ wsX5_daysToCrash := fun w h => List.mem_cons_of_mem _ (List.mem_append_left _ (List.mem_append_right _ h))
  replace hl : lv_has ls 2 [(0, .ref (aW 0))] := hl
  have h := hsem
  clear hsem
  rw [S_Mind_daysToCrash] at h
  refine lv_aload_n hx hb dX5_daysToCrash_0 rfl (lv_at hl 0 rfl) ?_
  refine va_get (D := D) (ci := 5) (v := .ref (aM 0)) (C := RX5) (T := TX5) (N := 5) hx hb hts hiX5 hown hK hP 0 rfl rfl 1 (by decide) hf25 (fun _ z => z) rfl dX5_daysToCrash_1 ?_
  refine lv_aload_n hx hb dX5_daysToCrash_4 rfl (lv_at hl 0 rfl) ?_
  refine va_get (D := D) (ci := 5) (v := .ref (aN 0)) (C := RX5) (T := TX5) (N := 5) hx hb hts hiX5 hown hK hP 0 rfl rfl 0 (by decide) hf21 (fun _ z => z) rfl dX5_daysToCrash_5 ?_
  obtain ⟨r8, g8, h⟩ := k_bind h
  refine k_callV (As := [.ref (aN 0)]) (rest := []) (st1 := []) (ws2 := (Wd16 cI cM aN aW aM aK nS.1 nS.2.1 nS.2.2.1 nS.2.2.2.1 nS.2.2.2.2.1 nS.2.2.2.2.2.1 nS.2.2.2.2.2.2.1 nS.2.2.2.2.2.2.2.1 nS.2.2.2.2.2.2.2.2.1 nS.2.2.2.2.2.2.2.2.2.1 r8.1 r8.2.1 r8.2.2.1 r8.2.2.2.1 r8.2.2.2.2.1 r8.2.2.2.2.2.1 mS.2.2.2.2.2.2.1 r8.2.2.2.2.2.2.1 r8.2.2.2.2.2.2.2.1 r8.2.2.2.2.2.2.2.2)) hx hb hml hown hts hK hN hA hP hD hS hl (c_City_becomes l D cI cM cS cJ aM aN aK s.heap.size mS.1 mS.2.1 mS.2.2.1 mS.2.2.2.1 mS.2.2.2.2.1 mS.2.2.2.2.2.1 mS.2.2.2.2.2.2.1 mS.2.2.2.2.2.2.2.1 mS.2.2.2.2.2.2.2.2.1 mS.2.2.2.2.2.2.2.2.2.1 nS.1 nS.2.1 nS.2.2.1 nS.2.2.2.1 nS.2.2.2.2.1 nS.2.2.2.2.2.1 nS.2.2.2.2.2.2.1 nS.2.2.2.2.2.2.2.1 nS.2.2.2.2.2.2.2.2.1 nS.2.2.2.2.2.2.2.2.2.1 g8) gX5_daysToCrash_X2_becomes rfl kdV_X2_becomes 0 2 rfl rfl rfl [5, 6, 7, 8, 1, 2, 3, 4] ⟨rfl, rfl⟩ ⟨Nat.le_of_ble_eq_true rfl, Nat.le_of_ble_eq_true rfl⟩ ⟨Nat.zero_le _, Nat.zero_le _⟩ rfl rfl (by decide +kernel) rfl rfl rfl (Nat.le_of_ble_eq_true rfl) dX5_daysToCrash_8 rfl (fun H locs hP hD hS => ?_)
  refine lv_iconst (v := 1) hx hb dX5_daysToCrash_11 (by decide) ?_
  have B13 : ∀ (n13 : Nat) (y1 : Int32) (mS : CS) (H : Heap) (locs : List Loc) (ls : Array Slot), va_P D vwCl (Wd16 cI cM aN aW aM aK nS.1 nS.2.1 nS.2.2.1 nS.2.2.2.1 nS.2.2.2.2.1 nS.2.2.2.2.2.1 nS.2.2.2.2.2.2.1 nS.2.2.2.2.2.2.2.1 nS.2.2.2.2.2.2.2.2.1 nS.2.2.2.2.2.2.2.2.2.1 mS.1 mS.2.1 mS.2.2.1 mS.2.2.2.1 mS.2.2.2.2.1 mS.2.2.2.2.2.1 mS.2.2.2.2.2.2.1 mS.2.2.2.2.2.2.2.1 mS.2.2.2.2.2.2.2.2.1 mS.2.2.2.2.2.2.2.2.2.1) H → va_D A (Wd16 cI cM aN aW aM aK nS.1 nS.2.1 nS.2.2.1 nS.2.2.2.1 nS.2.2.2.2.1 nS.2.2.2.2.2.1 nS.2.2.2.2.2.2.1 nS.2.2.2.2.2.2.2.1 nS.2.2.2.2.2.2.2.2.1 nS.2.2.2.2.2.2.2.2.2.1 mS.1 mS.2.1 mS.2.2.1 mS.2.2.2.1 mS.2.2.2.2.1 mS.2.2.2.2.2.1 mS.2.2.2.2.2.2.1 mS.2.2.2.2.2.2.2.1 mS.2.2.2.2.2.2.2.2.1 mS.2.2.2.2.2.2.2.2.2.1) → va_S A s.heap H locs → lv_has ls 2 [(0, .ref (aW 0)), (1, .int y1)] → S_Mind_daysToCrash_L13 n13 y1 mS = some o → W p l e rm_X5_daysToCrash s m ([.ref (aW 0)] : List Value).toArray below meth c H locs 0 0 Q (F0 m 13 ls []) := by
    intro n13
    induction n13 with
    | zero => intro y1 mS H locs ls hP hD hS hl h; exact absurd h (by simp [S_Mind_daysToCrash_L13])
    | succ n13 ih13 =>
      intro y1 mS H locs ls hP hD hS hl h
      rw [S_Mind_daysToCrash_L13] at h
      refine lv_iload_n hx hb dX5_daysToCrash_13 rfl (lv_at hl 1 rfl) ?_
      refine lv_bipush (v := 60) hx hb dX5_daysToCrash_14 (by decide) ?_
      refine lv_icmp_gt (tgt := 44) hx hb dX5_daysToCrash_16 (by decide) (fun c16 => ?_) (fun c16 => ?_)
      · have h := k_pos c16 h
        refine lv_bipush (v := (-4)) hx hb dX5_daysToCrash_44 (by decide) ?_
        cases h
        exact hret _ _ _ _ hP hS dX5_daysToCrash_46
      · have h := k_neg c16 h
        refine lv_aload_n hx hb dX5_daysToCrash_19 rfl (lv_at hl 0 rfl) ?_
        refine va_get (D := D) (ci := 5) (v := .ref (aM 0)) (C := RX5) (T := TX5) (N := 5) hx hb hts hiX5 hown hK hP 0 rfl rfl 1 (by decide) hf25 (fun _ z => z) rfl dX5_daysToCrash_20 ?_
        obtain ⟨r23, g23, h⟩ := k_bind h
        refine k_callV (As := []) (rest := []) (st1 := []) (ws2 := (Wd16 cI cM aN aW aM aK nS.1 nS.2.1 nS.2.2.1 nS.2.2.2.1 nS.2.2.2.2.1 nS.2.2.2.2.2.1 nS.2.2.2.2.2.2.1 nS.2.2.2.2.2.2.2.1 nS.2.2.2.2.2.2.2.2.1 nS.2.2.2.2.2.2.2.2.2.1 mS.1 mS.2.1 r23.1 r23.2.1 r23.2.2.1 r23.2.2.2.1 r23.2.2.2.2.1 mS.2.2.2.2.2.2.2.1 mS.2.2.2.2.2.2.2.2.1 r23.2.2.2.2.2)) hx hb hml hown hts hK hN hA hP hD hS hl (c_City_passDay l D cI cM cS cJ aM aK H.size mS.1 mS.2.1 mS.2.2.1 mS.2.2.2.1 mS.2.2.2.2.1 mS.2.2.2.2.2.1 mS.2.2.2.2.2.2.1 mS.2.2.2.2.2.2.2.1 mS.2.2.2.2.2.2.2.2.1 mS.2.2.2.2.2.2.2.2.2.1 g23) gX5_daysToCrash_X2_passDay rfl kdV_X2_passDay 0 2 rfl rfl rfl [5, 6, 7, 8, 9, 10, 11, 12, 13, 14, 15, 16, 17] ⟨rfl, rfl⟩ ⟨Nat.le_of_ble_eq_true rfl, Nat.le_of_ble_eq_true rfl⟩ ⟨Nat.zero_le _, Nat.zero_le _⟩ rfl rfl (by decide +kernel) rfl rfl rfl (Nat.le_of_ble_eq_true rfl) dX5_daysToCrash_23 rfl (fun H locs hP hD hS => ?_)
        refine lv_aload_n hx hb dX5_daysToCrash_26 rfl (lv_at hl 0 rfl) ?_
        refine va_get (D := D) (ci := 5) (v := .ref (aM 0)) (C := RX5) (T := TX5) (N := 5) hx hb hts hiX5 hown hK hP 0 rfl rfl 1 (by decide) hf25 (fun _ z => z) rfl dX5_daysToCrash_27 ?_
        refine va_get (D := D) (ci := 2) (v := .int r23.2.2.2.2.1) (C := RX2) (T := TX2) (N := 12) hx hb hts hiX2 hown hK hP 5 rfl rfl 9 (by decide) hf44 (fun _ z => z) rfl dX5_daysToCrash_30 ?_
        refine lv_if_eq (tgt := 38) hx hb dX5_daysToCrash_33 (by decide) (fun c33 => ?_) (fun c33 => ?_)
        · have h := k_pos c33 h
          refine lv_iinc (v := (y1 + 1)) (lv' := [(1, .int (y1 + 1)), (0, .ref (aW 0))]) hx hb dX5_daysToCrash_38 hl (k := 1) rfl (by first | rfl | decide) (by decide) rfl (fun ls hl => ?_)
          refine lv_goto (tgt := 13) hx hb dX5_daysToCrash_41 (by decide) ?_
          exact ih13 (y1 + 1) (mS.1, mS.2.1, r23.1, r23.2.1, r23.2.2.1, r23.2.2.2.1, r23.2.2.2.2.1, mS.2.2.2.2.2.2.2.1, mS.2.2.2.2.2.2.2.2.1, r23.2.2.2.2.2, mS.2.2.2.2.2.2.2.2.2.2) H locs ls hP hD hS (lv_sub hl [1, 0] rfl) h
        · have h := k_neg c33 h
          refine lv_iload_n hx hb dX5_daysToCrash_36 rfl (lv_at hl 1 rfl) ?_
          cases h
          exact hret _ _ _ _ hP hS dX5_daysToCrash_37
  refine lv_istore_n (lv' := [(1, .int 1), (0, .ref (aW 0))]) hx hb dX5_daysToCrash_12 rfl hl (by decide) rfl (fun ls hl => ?_)
  exact B13 lfu 1 (r8.1, r8.2.1, r8.2.2.1, r8.2.2.2.1, r8.2.2.2.2.1, r8.2.2.2.2.2.1, mS.2.2.2.2.2.2.1, r8.2.2.2.2.2.2.1, r8.2.2.2.2.2.2.2.1, r8.2.2.2.2.2.2.2.2, mS.2.2.2.2.2.2.2.2.2.2) H locs ls hP hD hS (lv_sub hl [1, 0] rfl) h
abbrev rm_X5_daysToFind : Room := { frames := 4, cells := 0, slots := 0, locals := 105 }
set_option maxHeartbeats 4000000 in
set_option maxRecDepth 100000 in
theorem c_Mind_daysToFind (l : Launch) (D : va_G) (cI cM cS cJ : ClassId) (aN : Nat → Nat) (aW : Nat → Nat) (aM : Nat → Nat) (aK : Nat → Nat) (sz : Nat) (x1 : Int32) (nS : CS) (mS : CS) {o : (Int32) × (CS)} (hsem : S_Mind_daysToFind x1 nS mS = some o) : kMet l yX5_daysToFind wsX5_daysToFind rm_X5_daysToFind [.ref (aW 0), .int x1] D (kT cI cM cS cJ) (Wd16 cI cM aN aW aM aK nS.1 nS.2.1 nS.2.2.1 nS.2.2.2.1 nS.2.2.2.2.1 nS.2.2.2.2.2.1 nS.2.2.2.2.2.2.1 nS.2.2.2.2.2.2.2.1 nS.2.2.2.2.2.2.2.2.1 nS.2.2.2.2.2.2.2.2.2.1 mS.1 mS.2.1 mS.2.2.1 mS.2.2.2.1 mS.2.2.2.2.1 mS.2.2.2.2.2.1 mS.2.2.2.2.2.2.1 mS.2.2.2.2.2.2.2.1 mS.2.2.2.2.2.2.2.2.1 mS.2.2.2.2.2.2.2.2.2.1) sz (some (.int o.1)) (Wd16 cI cM aN aW aM aK nS.1 nS.2.1 nS.2.2.1 nS.2.2.2.1 nS.2.2.2.2.1 nS.2.2.2.2.2.1 nS.2.2.2.2.2.2.1 nS.2.2.2.2.2.2.2.1 nS.2.2.2.2.2.2.2.2.1 nS.2.2.2.2.2.2.2.2.2.1 o.2.1 o.2.2.1 o.2.2.2.1 o.2.2.2.2.1 o.2.2.2.2.2.1 o.2.2.2.2.2.2.1 o.2.2.2.2.2.2.2.1 o.2.2.2.2.2.2.2.2.1 o.2.2.2.2.2.2.2.2.2.1 o.2.2.2.2.2.2.2.2.2.2.1) := by
  refine k_metI (by decide) rfl rfl (Nat.le_of_ble_eq_true rfl) ?_
  intro p e s m below meth c ls Q A hx hb hml hts hown hK hN hA hP hD hS hl hsz hnm hret
  have hown : s.vm.findClass RX5 = some m.cls := hown
  have hf25 := hts (.fieldLink RX5 25 "PlumbLine$Mind" "then" "LPlumbLine$City;") (List.mem_of_getElem? (i := 1) rfl)
  have hf21 := hts (.fieldLink RX5 21 "PlumbLine$Mind" "now" "LPlumbLine$City;") (List.mem_of_getElem? (i := 2) rfl)
  have hf48 := hts (.fieldLink RX5 48 "PlumbLine$City" "place" "I") (List.mem_of_getElem? (i := 3) rfl)
  have hiX2 : ∀ w ∈ u_ws RX2 TX2 12, w ∈ wsX5_daysToFind := fun w h => List.mem_cons_of_mem _ (List.mem_append_right _ h)
  have hiX5 : ∀ w ∈ u_ws RX5 TX5 5, w ∈ wsX5_daysToFind := fun w h => List.mem_cons_of_mem _ (List.mem_append_left _ (List.mem_append_right _ h))
  replace hl : lv_has ls 3 [(0, .ref (aW 0)), (1, .int x1)] := hl
  have h := hsem
  clear hsem
  rw [S_Mind_daysToFind] at h
  refine lv_aload_n hx hb dX5_daysToFind_0 rfl (lv_at hl 0 rfl) ?_
  refine va_get (D := D) (ci := 5) (v := .ref (aM 0)) (C := RX5) (T := TX5) (N := 5) hx hb hts hiX5 hown hK hP 0 rfl rfl 1 (by decide) hf25 (fun _ z => z) rfl dX5_daysToFind_1 ?_
  refine lv_aload_n hx hb dX5_daysToFind_4 rfl (lv_at hl 0 rfl) ?_
  refine va_get (D := D) (ci := 5) (v := .ref (aN 0)) (C := RX5) (T := TX5) (N := 5) hx hb hts hiX5 hown hK hP 0 rfl rfl 0 (by decide) hf21 (fun _ z => z) rfl dX5_daysToFind_5 ?_
  obtain ⟨r8, g8, h⟩ := k_bind h
  refine k_callV (As := [.ref (aN 0)]) (rest := []) (st1 := []) (ws2 := (Wd16 cI cM aN aW aM aK nS.1 nS.2.1 nS.2.2.1 nS.2.2.2.1 nS.2.2.2.2.1 nS.2.2.2.2.2.1 nS.2.2.2.2.2.2.1 nS.2.2.2.2.2.2.2.1 nS.2.2.2.2.2.2.2.2.1 nS.2.2.2.2.2.2.2.2.2.1 r8.1 r8.2.1 r8.2.2.1 r8.2.2.2.1 r8.2.2.2.2.1 r8.2.2.2.2.2.1 mS.2.2.2.2.2.2.1 r8.2.2.2.2.2.2.1 r8.2.2.2.2.2.2.2.1 r8.2.2.2.2.2.2.2.2)) hx hb hml hown hts hK hN hA hP hD hS hl (c_City_becomes l D cI cM cS cJ aM aN aK s.heap.size mS.1 mS.2.1 mS.2.2.1 mS.2.2.2.1 mS.2.2.2.2.1 mS.2.2.2.2.2.1 mS.2.2.2.2.2.2.1 mS.2.2.2.2.2.2.2.1 mS.2.2.2.2.2.2.2.2.1 mS.2.2.2.2.2.2.2.2.2.1 nS.1 nS.2.1 nS.2.2.1 nS.2.2.2.1 nS.2.2.2.2.1 nS.2.2.2.2.2.1 nS.2.2.2.2.2.2.1 nS.2.2.2.2.2.2.2.1 nS.2.2.2.2.2.2.2.2.1 nS.2.2.2.2.2.2.2.2.2.1 g8) gX5_daysToFind_X2_becomes rfl kdV_X2_becomes 0 2 rfl rfl rfl [5, 6, 7, 8, 1, 2, 3, 4] ⟨rfl, rfl⟩ ⟨Nat.le_of_ble_eq_true rfl, Nat.le_of_ble_eq_true rfl⟩ ⟨Nat.zero_le _, Nat.zero_le _⟩ rfl rfl (by decide +kernel) rfl rfl rfl (Nat.le_of_ble_eq_true rfl) dX5_daysToFind_8 rfl (fun H locs hP hD hS => ?_)
  refine lv_iconst (v := 0) hx hb dX5_daysToFind_11 (by decide) ?_
  have B13 : ∀ (n13 : Nat) (y2 : Int32) (mS : CS) (H : Heap) (locs : List Loc) (ls : Array Slot), va_P D vwCl (Wd16 cI cM aN aW aM aK nS.1 nS.2.1 nS.2.2.1 nS.2.2.2.1 nS.2.2.2.2.1 nS.2.2.2.2.2.1 nS.2.2.2.2.2.2.1 nS.2.2.2.2.2.2.2.1 nS.2.2.2.2.2.2.2.2.1 nS.2.2.2.2.2.2.2.2.2.1 mS.1 mS.2.1 mS.2.2.1 mS.2.2.2.1 mS.2.2.2.2.1 mS.2.2.2.2.2.1 mS.2.2.2.2.2.2.1 mS.2.2.2.2.2.2.2.1 mS.2.2.2.2.2.2.2.2.1 mS.2.2.2.2.2.2.2.2.2.1) H → va_D A (Wd16 cI cM aN aW aM aK nS.1 nS.2.1 nS.2.2.1 nS.2.2.2.1 nS.2.2.2.2.1 nS.2.2.2.2.2.1 nS.2.2.2.2.2.2.1 nS.2.2.2.2.2.2.2.1 nS.2.2.2.2.2.2.2.2.1 nS.2.2.2.2.2.2.2.2.2.1 mS.1 mS.2.1 mS.2.2.1 mS.2.2.2.1 mS.2.2.2.2.1 mS.2.2.2.2.2.1 mS.2.2.2.2.2.2.1 mS.2.2.2.2.2.2.2.1 mS.2.2.2.2.2.2.2.2.1 mS.2.2.2.2.2.2.2.2.2.1) → va_S A s.heap H locs → lv_has ls 3 [(0, .ref (aW 0)), (1, .int x1), (2, .int y2)] → S_Mind_daysToFind_L13 x1 n13 y2 mS = some o → W p l e rm_X5_daysToFind s m ([.ref (aW 0), .int x1] : List Value).toArray below meth c H locs 0 0 Q (F0 m 13 ls []) := by
    intro n13
    induction n13 with
    | zero => intro y2 mS H locs ls hP hD hS hl h; exact absurd h (by simp [S_Mind_daysToFind_L13])
    | succ n13 ih13 =>
      intro y2 mS H locs ls hP hD hS hl h
      rw [S_Mind_daysToFind_L13] at h
      refine lv_iload_n hx hb dX5_daysToFind_13 rfl (lv_at hl 2 rfl) ?_
      refine lv_bipush (v := 60) hx hb dX5_daysToFind_14 (by decide) ?_
      refine lv_icmp_gt (tgt := 45) hx hb dX5_daysToFind_16 (by decide) (fun c16 => ?_) (fun c16 => ?_)
      · have h := k_pos c16 h
        refine lv_bipush (v := (-4)) hx hb dX5_daysToFind_45 (by decide) ?_
        cases h
        exact hret _ _ _ _ hP hS dX5_daysToFind_47
      · have h := k_neg c16 h
        refine lv_aload_n hx hb dX5_daysToFind_19 rfl (lv_at hl 0 rfl) ?_
        refine va_get (D := D) (ci := 5) (v := .ref (aM 0)) (C := RX5) (T := TX5) (N := 5) hx hb hts hiX5 hown hK hP 0 rfl rfl 1 (by decide) hf25 (fun _ z => z) rfl dX5_daysToFind_20 ?_
        refine va_get (D := D) (ci := 2) (v := .int mS.2.2.1) (C := RX2) (T := TX2) (N := 12) hx hb hts hiX2 hown hK hP 5 rfl rfl 5 (by decide) hf48 (fun _ z => z) rfl dX5_daysToFind_23 ?_
        refine lv_iload_n hx hb dX5_daysToFind_26 rfl (lv_at hl 1 rfl) ?_
        refine lv_icmp_ne (tgt := 32) hx hb dX5_daysToFind_27 (by decide) (fun c27 => ?_) (fun c27 => ?_)
        · have h := k_neg c27 h
          refine lv_aload_n hx hb dX5_daysToFind_32 rfl (lv_at hl 0 rfl) ?_
          refine va_get (D := D) (ci := 5) (v := .ref (aM 0)) (C := RX5) (T := TX5) (N := 5) hx hb hts hiX5 hown hK hP 0 rfl rfl 1 (by decide) hf25 (fun _ z => z) rfl dX5_daysToFind_33 ?_
          obtain ⟨r36, g36, h⟩ := k_bind h
          refine k_callV (As := []) (rest := []) (st1 := []) (ws2 := (Wd16 cI cM aN aW aM aK nS.1 nS.2.1 nS.2.2.1 nS.2.2.2.1 nS.2.2.2.2.1 nS.2.2.2.2.2.1 nS.2.2.2.2.2.2.1 nS.2.2.2.2.2.2.2.1 nS.2.2.2.2.2.2.2.2.1 nS.2.2.2.2.2.2.2.2.2.1 mS.1 mS.2.1 r36.1 r36.2.1 r36.2.2.1 r36.2.2.2.1 r36.2.2.2.2.1 mS.2.2.2.2.2.2.2.1 mS.2.2.2.2.2.2.2.2.1 r36.2.2.2.2.2)) hx hb hml hown hts hK hN hA hP hD hS hl (c_City_passDay l D cI cM cS cJ aM aK H.size mS.1 mS.2.1 mS.2.2.1 mS.2.2.2.1 mS.2.2.2.2.1 mS.2.2.2.2.2.1 mS.2.2.2.2.2.2.1 mS.2.2.2.2.2.2.2.1 mS.2.2.2.2.2.2.2.2.1 mS.2.2.2.2.2.2.2.2.2.1 g36) gX5_daysToFind_X2_passDay rfl kdV_X2_passDay 0 2 rfl rfl rfl [5, 6, 7, 8, 9, 10, 11, 12, 13, 14, 15, 16, 17] ⟨rfl, rfl⟩ ⟨Nat.le_of_ble_eq_true rfl, Nat.le_of_ble_eq_true rfl⟩ ⟨Nat.zero_le _, Nat.zero_le _⟩ rfl rfl (by decide +kernel) rfl rfl rfl (Nat.le_of_ble_eq_true rfl) dX5_daysToFind_36 rfl (fun H locs hP hD hS => ?_)
          refine lv_iinc (v := (y2 + 1)) (lv' := [(2, .int (y2 + 1)), (0, .ref (aW 0)), (1, .int x1)]) hx hb dX5_daysToFind_39 hl (k := 2) rfl (by first | rfl | decide) (by decide) rfl (fun ls hl => ?_)
          refine lv_goto (tgt := 13) hx hb dX5_daysToFind_42 (by decide) ?_
          exact ih13 (y2 + 1) (mS.1, mS.2.1, r36.1, r36.2.1, r36.2.2.1, r36.2.2.2.1, r36.2.2.2.2.1, mS.2.2.2.2.2.2.2.1, mS.2.2.2.2.2.2.2.2.1, r36.2.2.2.2.2, mS.2.2.2.2.2.2.2.2.2.2) H locs ls hP hD hS (lv_sub hl [1, 2, 0] rfl) h
        · have h := k_pos c27 h
          refine lv_iload_n hx hb dX5_daysToFind_30 rfl (lv_at hl 2 rfl) ?_
          cases h
          exact hret _ _ _ _ hP hS dX5_daysToFind_31
  refine lv_istore_n (lv' := [(2, .int 0), (0, .ref (aW 0)), (1, .int x1)]) hx hb dX5_daysToFind_12 rfl hl (by decide) rfl (fun ls hl => ?_)
  exact B13 lfu 0 (r8.1, r8.2.1, r8.2.2.1, r8.2.2.2.1, r8.2.2.2.2.1, r8.2.2.2.2.2.1, mS.2.2.2.2.2.2.1, r8.2.2.2.2.2.2.1, r8.2.2.2.2.2.2.2.1, r8.2.2.2.2.2.2.2.2, mS.2.2.2.2.2.2.2.2.2.2) H locs ls hP hD hS (lv_sub hl [1, 2, 0] rfl) h
abbrev Wd17 (cI : ClassId) (cM : ClassId) (aN : Nat → Nat) (aW : Nat → Nat) (aM : Nat → Nat) (aK : Nat → Nat) (w_before : Nat → Int32) (m_men : Int32) (m_propped : Int32) (m_place : Int32) (m_swings : Int32) (m_crashes : Int32) (m_day : Int32) (m_crashedToday : Int32) (m_kind : Nat → Int32) (m_figure : Nat → Int32) (m_lean : Nat → Int32) : va_W := [((aW 0), .inr (5, [.ref (aN 0), .ref (aM 0), .ref (aW 1), .ref (aW 2), .ref (aW 3)])), ((aW 3), .inl (cI, 8, .inl w_before)), ((aM 0), .inr (2, [.ref (aM 1), .ref (aM 2), .ref (aM 3), .int m_men, .int m_propped, .int m_place, .int m_swings, .int m_crashes, .int m_day, .int m_crashedToday, .ref (aK 8), .ref (aM 4)])), ((aM 1), .inl (cI, 8, .inl m_kind)), ((aM 2), .inl (cI, 8, .inl m_figure)), ((aM 3), .inl (cI, 8, .inl m_lean)), ((aK 8), .inl (cM, 8, .inr (.inr (.inr (.inr (fun k => some (aK k))))))), ((aK 0), .inr (4, [])), ((aK 1), .inr (0, [])), ((aK 2), .inr (7, [])), ((aK 3), .inr (3, [])), ((aK 4), .inr (1, [])), ((aK 5), .inr (8, [])), ((aK 6), .inr (10, [])), ((aK 7), .inr (6, []))]
abbrev rm_X5_passesAlike : Room := { frames := 4, cells := 0, slots := 0, locals := 105 }
set_option maxHeartbeats 4000000 in
set_option maxRecDepth 100000 in
theorem c_Mind_passesAlike (l : Launch) (D : va_G) (cI cM cS cJ : ClassId) (aN : Nat → Nat) (aW : Nat → Nat) (aM : Nat → Nat) (aK : Nat → Nat) (sz : Nat) (w_before : Nat → Int32) (mS : CS) {o : (Int32) × (Nat → Int32) × (CS)} (hsem : S_Mind_passesAlike w_before mS = some o) : kMet l yX5_passesAlike wsX5_passesAlike rm_X5_passesAlike [.ref (aW 0)] D (kT cI cM cS cJ) (Wd17 cI cM aN aW aM aK w_before mS.1 mS.2.1 mS.2.2.1 mS.2.2.2.1 mS.2.2.2.2.1 mS.2.2.2.2.2.1 mS.2.2.2.2.2.2.1 mS.2.2.2.2.2.2.2.1 mS.2.2.2.2.2.2.2.2.1 mS.2.2.2.2.2.2.2.2.2.1) sz (some (.int o.1)) (Wd17 cI cM aN aW aM aK o.2.1 o.2.2.1 o.2.2.2.1 o.2.2.2.2.1 o.2.2.2.2.2.1 o.2.2.2.2.2.2.1 o.2.2.2.2.2.2.2.1 o.2.2.2.2.2.2.2.2.1 o.2.2.2.2.2.2.2.2.2.1 o.2.2.2.2.2.2.2.2.2.2.1 o.2.2.2.2.2.2.2.2.2.2.2.1) := by
  refine k_metZ (by decide) rfl rfl (Nat.le_of_ble_eq_true rfl) ?_
  intro p e s m below meth c ls Q A hx hb hml hts hown hK hN hA hP hD hS hl hsz hnm hret
  have hown : s.vm.findClass RX5 = some m.cls := hown
  have hf25 := hts (.fieldLink RX5 25 "PlumbLine$Mind" "then" "LPlumbLine$City;") (List.mem_of_getElem? (i := 1) rfl)
  have hf38 := hts (.fieldLink RX5 38 "PlumbLine$City" "lean" "[I") (List.mem_of_getElem? (i := 2) rfl)
  have hf18 := hts (.fieldLink RX5 18 "PlumbLine$Mind" "before" "[I") (List.mem_of_getElem? (i := 3) rfl)
  have hf62 := hts (.fieldLink RX5 62 "PlumbLine$City" "men" "I") (List.mem_of_getElem? (i := 8) rfl)
  have hiX2 : ∀ w ∈ u_ws RX2 TX2 12, w ∈ wsX5_passesAlike := fun w h => List.mem_cons_of_mem _ (List.mem_append_right _ h)
  have hiX5 : ∀ w ∈ u_ws RX5 TX5 5, w ∈ wsX5_passesAlike := fun w h => List.mem_cons_of_mem _ (List.mem_append_left _ (List.mem_append_right _ h))
  replace hl : lv_has ls 2 [(0, .ref (aW 0))] := hl
  have h := hsem
  clear hsem
  rw [S_Mind_passesAlike] at h
  refine lv_aload_n hx hb dX5_passesAlike_0 rfl (lv_at hl 0 rfl) ?_
  refine va_get (D := D) (ci := 5) (v := .ref (aM 0)) (C := RX5) (T := TX5) (N := 5) hx hb hts hiX5 hown hK hP 0 rfl rfl 1 (by decide) hf25 (fun _ z => z) rfl dX5_passesAlike_1 ?_
  refine va_get (D := D) (ci := 2) (v := .ref (aM 3)) (C := RX2) (T := TX2) (N := 12) hx hb hts hiX2 hown hK hP 2 rfl rfl 2 (by decide) hf38 (fun _ z => z) rfl dX5_passesAlike_4 ?_
  refine lv_iconst (v := 0) hx hb dX5_passesAlike_7 (by decide) ?_
  refine lv_aload_n hx hb dX5_passesAlike_8 rfl (lv_at hl 0 rfl) ?_
  refine va_get (D := D) (ci := 5) (v := .ref (aW 3)) (C := RX5) (T := TX5) (N := 5) hx hb hts hiX5 hown hK hP 0 rfl rfl 4 (by decide) hf18 (fun _ z => z) rfl dX5_passesAlike_9 ?_
  refine lv_iconst (v := 0) hx hb dX5_passesAlike_12 (by decide) ?_
  refine lv_bipush (v := 8) hx hb dX5_passesAlike_13 (by decide) ?_
  refine va_copyi (own := RX5) (index := 56) (ty := .int) hx hb (hml.trans hl.1.symm) hown (hts _ (List.mem_of_getElem? (i := 4) rfl)) (hts _ (List.mem_of_getElem? (i := 5) rfl)) (hts _ (List.mem_of_getElem? (i := 6) rfl)) (hts _ (List.mem_of_getElem? (i := 7) rfl)) hK hP hD hS 5 1 0 0 rfl rfl rfl rfl rfl (by decide) (by decide) (by decide) (by decide) (by decide) (fun _ _ => rfl) (Nat.le_of_ble_eq_true rfl) (by decide +kernel) dX5_passesAlike_15 (fun H locs hP hD hS => ?_)
  replace hP : va_P D vwCl (Wd17 cI cM aN aW aM aK (va_cpy mS.2.2.2.2.2.2.2.2.2.1 w_before (0 : Int32).toNatClampNeg (0 : Int32).toNatClampNeg (8 : Int32).toNatClampNeg) mS.1 mS.2.1 mS.2.2.1 mS.2.2.2.1 mS.2.2.2.2.1 mS.2.2.2.2.2.1 mS.2.2.2.2.2.2.1 mS.2.2.2.2.2.2.2.1 mS.2.2.2.2.2.2.2.2.1 mS.2.2.2.2.2.2.2.2.2.1) H := hP
  replace hD : va_D A (Wd17 cI cM aN aW aM aK (va_cpy mS.2.2.2.2.2.2.2.2.2.1 w_before (0 : Int32).toNatClampNeg (0 : Int32).toNatClampNeg (8 : Int32).toNatClampNeg) mS.1 mS.2.1 mS.2.2.1 mS.2.2.2.1 mS.2.2.2.2.1 mS.2.2.2.2.2.1 mS.2.2.2.2.2.2.1 mS.2.2.2.2.2.2.2.1 mS.2.2.2.2.2.2.2.2.1 mS.2.2.2.2.2.2.2.2.2.1) := hD
  refine lv_aload_n hx hb dX5_passesAlike_18 rfl (lv_at hl 0 rfl) ?_
  refine va_get (D := D) (ci := 5) (v := .ref (aM 0)) (C := RX5) (T := TX5) (N := 5) hx hb hts hiX5 hown hK hP 0 rfl rfl 1 (by decide) hf25 (fun _ z => z) rfl dX5_passesAlike_19 ?_
  obtain ⟨r22, g22, h⟩ := k_bind h
  refine k_callV (As := []) (rest := []) (st1 := []) (ws2 := (Wd17 cI cM aN aW aM aK (va_cpy mS.2.2.2.2.2.2.2.2.2.1 w_before (0 : Int32).toNatClampNeg (0 : Int32).toNatClampNeg (8 : Int32).toNatClampNeg) mS.1 mS.2.1 r22.1 r22.2.1 r22.2.2.1 r22.2.2.2.1 r22.2.2.2.2.1 mS.2.2.2.2.2.2.2.1 mS.2.2.2.2.2.2.2.2.1 r22.2.2.2.2.2)) hx hb hml hown hts hK hN hA hP hD hS hl (c_City_passDay l D cI cM cS cJ aM aK H.size mS.1 mS.2.1 mS.2.2.1 mS.2.2.2.1 mS.2.2.2.2.1 mS.2.2.2.2.2.1 mS.2.2.2.2.2.2.1 mS.2.2.2.2.2.2.2.1 mS.2.2.2.2.2.2.2.2.1 mS.2.2.2.2.2.2.2.2.2.1 g22) gX5_passesAlike_X2_passDay rfl kdV_X2_passDay 0 2 rfl rfl rfl [2, 3, 4, 5, 6, 7, 8, 9, 10, 11, 12, 13, 14] ⟨rfl, rfl⟩ ⟨Nat.le_of_ble_eq_true rfl, Nat.le_of_ble_eq_true rfl⟩ ⟨Nat.zero_le _, Nat.zero_le _⟩ rfl rfl (by decide +kernel) rfl rfl rfl (Nat.le_of_ble_eq_true rfl) dX5_passesAlike_22 rfl (fun H locs hP hD hS => ?_)
  refine lv_iconst (v := 0) hx hb dX5_passesAlike_25 (by decide) ?_
  have B27 : ∀ (w_before : Nat → Int32) (mS : CS) (n27 : Nat) (y1 : Int32) (H : Heap) (locs : List Loc) (ls : Array Slot), va_P D vwCl (Wd17 cI cM aN aW aM aK w_before mS.1 mS.2.1 mS.2.2.1 mS.2.2.2.1 mS.2.2.2.2.1 mS.2.2.2.2.2.1 mS.2.2.2.2.2.2.1 mS.2.2.2.2.2.2.2.1 mS.2.2.2.2.2.2.2.2.1 mS.2.2.2.2.2.2.2.2.2.1) H → va_D A (Wd17 cI cM aN aW aM aK w_before mS.1 mS.2.1 mS.2.2.1 mS.2.2.2.1 mS.2.2.2.2.1 mS.2.2.2.2.2.1 mS.2.2.2.2.2.2.1 mS.2.2.2.2.2.2.2.1 mS.2.2.2.2.2.2.2.2.1 mS.2.2.2.2.2.2.2.2.2.1) → va_S A s.heap H locs → lv_has ls 2 [(0, .ref (aW 0)), (1, .int y1)] → S_Mind_passesAlike_L27 w_before mS n27 y1 = some o → W p l e rm_X5_passesAlike s m ([.ref (aW 0)] : List Value).toArray below meth c H locs 0 0 Q (F0 m 27 ls []) := by
    intro w_before mS
    intro n27
    induction n27 with
    | zero => intro y1 H locs ls hP hD hS hl h; exact absurd h (by simp [S_Mind_passesAlike_L27])
    | succ n27 ih27 =>
      intro y1 H locs ls hP hD hS hl h
      rw [S_Mind_passesAlike_L27] at h
      refine lv_iload_n hx hb dX5_passesAlike_27 rfl (lv_at hl 1 rfl) ?_
      refine lv_aload_n hx hb dX5_passesAlike_28 rfl (lv_at hl 0 rfl) ?_
      refine va_get (D := D) (ci := 5) (v := .ref (aM 0)) (C := RX5) (T := TX5) (N := 5) hx hb hts hiX5 hown hK hP 0 rfl rfl 1 (by decide) hf25 (fun _ z => z) rfl dX5_passesAlike_29 ?_
      refine va_get (D := D) (ci := 2) (v := .int mS.1) (C := RX2) (T := TX2) (N := 12) hx hb hts hiX2 hown hK hP 2 rfl rfl 3 (by decide) hf62 (fun _ z => z) rfl dX5_passesAlike_32 ?_
      refine lv_icmp_ge (tgt := 64) hx hb dX5_passesAlike_35 (by decide) (fun c35 => ?_) (fun c35 => ?_)
      · have h := k_pos c35 h
        refine lv_iconst (v := 1) hx hb dX5_passesAlike_64 (by decide) ?_
        cases h
        exact hret _ _ _ _ rfl hP hS dX5_passesAlike_65
      · have h := k_neg c35 h
        refine lv_aload_n hx hb dX5_passesAlike_38 rfl (lv_at hl 0 rfl) ?_
        refine va_get (D := D) (ci := 5) (v := .ref (aM 0)) (C := RX5) (T := TX5) (N := 5) hx hb hts hiX5 hown hK hP 0 rfl rfl 1 (by decide) hf25 (fun _ z => z) rfl dX5_passesAlike_39 ?_
        refine va_get (D := D) (ci := 2) (v := .ref (aM 3)) (C := RX2) (T := TX2) (N := 12) hx hb hts hiX2 hown hK hP 2 rfl rfl 2 (by decide) hf38 (fun _ z => z) rfl dX5_passesAlike_42 ?_
        refine lv_iload_n hx hb dX5_passesAlike_45 rfl (lv_at hl 1 rfl) ?_
        obtain ⟨g46, h⟩ := k_guard h
        refine va_iald hx hb hK hP 5 0 rfl rfl g46 dX5_passesAlike_46 ?_
        refine lv_aload_n hx hb dX5_passesAlike_47 rfl (lv_at hl 0 rfl) ?_
        refine va_get (D := D) (ci := 5) (v := .ref (aW 3)) (C := RX5) (T := TX5) (N := 5) hx hb hts hiX5 hown hK hP 0 rfl rfl 4 (by decide) hf18 (fun _ z => z) rfl dX5_passesAlike_48 ?_
        refine lv_iload_n hx hb dX5_passesAlike_51 rfl (lv_at hl 1 rfl) ?_
        refine va_iald hx hb hK hP 1 0 rfl rfl g46 dX5_passesAlike_52 ?_
        refine lv_icmp_eq (tgt := 58) hx hb dX5_passesAlike_53 (by decide) (fun c53 => ?_) (fun c53 => ?_)
        · have h := k_pos c53 h
          refine lv_iinc (v := (y1 + 1)) (lv' := [(1, .int (y1 + 1)), (0, .ref (aW 0))]) hx hb dX5_passesAlike_58 hl (k := 1) rfl (by first | rfl | decide) (by decide) rfl (fun ls hl => ?_)
          refine lv_goto (tgt := 27) hx hb dX5_passesAlike_61 (by decide) ?_
          exact ih27 (y1 + 1) H locs ls hP hD hS (lv_sub hl [1, 0] rfl) h
        · have h := k_neg c53 h
          refine lv_iconst (v := 0) hx hb dX5_passesAlike_56 (by decide) ?_
          cases h
          exact hret _ _ _ _ rfl hP hS dX5_passesAlike_57
  refine lv_istore_n (lv' := [(1, .int 0), (0, .ref (aW 0))]) hx hb dX5_passesAlike_26 rfl hl (by decide) rfl (fun ls hl => ?_)
  exact B27 (va_cpy mS.2.2.2.2.2.2.2.2.2.1 w_before (0 : Int32).toNatClampNeg (0 : Int32).toNatClampNeg (8 : Int32).toNatClampNeg) (mS.1, mS.2.1, r22.1, r22.2.1, r22.2.2.1, r22.2.2.2.1, r22.2.2.2.2.1, mS.2.2.2.2.2.2.2.1, mS.2.2.2.2.2.2.2.2.1, r22.2.2.2.2.2, mS.2.2.2.2.2.2.2.2.2.2) lfu 0 H locs ls hP hD hS (lv_sub hl [1, 0] rfl) h
abbrev Wd18 (cI : ClassId) (cM : ClassId) (aN : Nat → Nat) (aW : Nat → Nat) (aM : Nat → Nat) (aK : Nat → Nat) (w_before : Nat → Int32) (n_men : Int32) (n_propped : Int32) (n_place : Int32) (n_swings : Int32) (n_crashes : Int32) (n_day : Int32) (n_crashedToday : Int32) (n_kind : Nat → Int32) (n_figure : Nat → Int32) (n_lean : Nat → Int32) (m_men : Int32) (m_propped : Int32) (m_place : Int32) (m_swings : Int32) (m_crashes : Int32) (m_day : Int32) (m_crashedToday : Int32) (m_kind : Nat → Int32) (m_figure : Nat → Int32) (m_lean : Nat → Int32) : va_W := [((aW 0), .inr (5, [.ref (aN 0), .ref (aM 0), .ref (aW 1), .ref (aW 2), .ref (aW 3)])), ((aW 3), .inl (cI, 8, .inl w_before)), ((aN 0), .inr (2, [.ref (aN 1), .ref (aN 2), .ref (aN 3), .int n_men, .int n_propped, .int n_place, .int n_swings, .int n_crashes, .int n_day, .int n_crashedToday, .ref (aK 8), .ref (aN 4)])), ((aN 1), .inl (cI, 8, .inl n_kind)), ((aN 2), .inl (cI, 8, .inl n_figure)), ((aN 3), .inl (cI, 8, .inl n_lean)), ((aM 0), .inr (2, [.ref (aM 1), .ref (aM 2), .ref (aM 3), .int m_men, .int m_propped, .int m_place, .int m_swings, .int m_crashes, .int m_day, .int m_crashedToday, .ref (aK 8), .ref (aM 4)])), ((aM 1), .inl (cI, 8, .inl m_kind)), ((aM 2), .inl (cI, 8, .inl m_figure)), ((aM 3), .inl (cI, 8, .inl m_lean)), ((aK 8), .inl (cM, 8, .inr (.inr (.inr (.inr (fun k => some (aK k))))))), ((aK 0), .inr (4, [])), ((aK 1), .inr (0, [])), ((aK 2), .inr (7, [])), ((aK 3), .inr (3, [])), ((aK 4), .inr (1, [])), ((aK 5), .inr (8, [])), ((aK 6), .inr (10, [])), ((aK 7), .inr (6, []))]
theorem kdV_X5_passesAlike : yX5_passesAlike.cls = RX5 ∧ yX5_passesAlike.cls ≠ "java/lang/invoke/MethodHandle" ∧ yX5_passesAlike.cls ≠ "java/lang/invoke/VarHandle" ∧ (parseMethodDescriptor yX5_passesAlike.desc).map (fun d => d.parameters.length) = some 0 := by decide +kernel
abbrev rm_X5_daysToStill : Room := { frames := 5, cells := 0, slots := 0, locals := 126 }
set_option maxHeartbeats 4000000 in
set_option maxRecDepth 100000 in
theorem c_Mind_daysToStill (l : Launch) (D : va_G) (cI cM cS cJ : ClassId) (aN : Nat → Nat) (aW : Nat → Nat) (aM : Nat → Nat) (aK : Nat → Nat) (sz : Nat) (w_before : Nat → Int32) (nS : CS) (mS : CS) {o : (Int32) × (Nat → Int32) × (CS)} (hsem : S_Mind_daysToStill w_before nS mS = some o) : kMet l yX5_daysToStill wsX5_daysToStill rm_X5_daysToStill [.ref (aW 0)] D (kT cI cM cS cJ) (Wd18 cI cM aN aW aM aK w_before nS.1 nS.2.1 nS.2.2.1 nS.2.2.2.1 nS.2.2.2.2.1 nS.2.2.2.2.2.1 nS.2.2.2.2.2.2.1 nS.2.2.2.2.2.2.2.1 nS.2.2.2.2.2.2.2.2.1 nS.2.2.2.2.2.2.2.2.2.1 mS.1 mS.2.1 mS.2.2.1 mS.2.2.2.1 mS.2.2.2.2.1 mS.2.2.2.2.2.1 mS.2.2.2.2.2.2.1 mS.2.2.2.2.2.2.2.1 mS.2.2.2.2.2.2.2.2.1 mS.2.2.2.2.2.2.2.2.2.1) sz (some (.int o.1)) (Wd18 cI cM aN aW aM aK o.2.1 nS.1 nS.2.1 nS.2.2.1 nS.2.2.2.1 nS.2.2.2.2.1 nS.2.2.2.2.2.1 nS.2.2.2.2.2.2.1 nS.2.2.2.2.2.2.2.1 nS.2.2.2.2.2.2.2.2.1 nS.2.2.2.2.2.2.2.2.2.1 o.2.2.1 o.2.2.2.1 o.2.2.2.2.1 o.2.2.2.2.2.1 o.2.2.2.2.2.2.1 o.2.2.2.2.2.2.2.1 o.2.2.2.2.2.2.2.2.1 o.2.2.2.2.2.2.2.2.2.1 o.2.2.2.2.2.2.2.2.2.2.1 o.2.2.2.2.2.2.2.2.2.2.2.1) := by
  refine k_metI (by decide) rfl rfl (Nat.le_of_ble_eq_true rfl) ?_
  intro p e s m below meth c ls Q A hx hb hml hts hown hK hN hA hP hD hS hl hsz hnm hret
  have hown : s.vm.findClass RX5 = some m.cls := hown
  have hf25 := hts (.fieldLink RX5 25 "PlumbLine$Mind" "then" "LPlumbLine$City;") (List.mem_of_getElem? (i := 1) rfl)
  have hf21 := hts (.fieldLink RX5 21 "PlumbLine$Mind" "now" "LPlumbLine$City;") (List.mem_of_getElem? (i := 2) rfl)
  have hiX5 : ∀ w ∈ u_ws RX5 TX5 5, w ∈ wsX5_daysToStill := fun w h => List.mem_cons_of_mem _ (List.mem_append_left _ (List.mem_append_right _ h))
  replace hl : lv_has ls 3 [(0, .ref (aW 0))] := hl
  have h := hsem
  clear hsem
  rw [S_Mind_daysToStill] at h
  refine lv_aload_n hx hb dX5_daysToStill_0 rfl (lv_at hl 0 rfl) ?_
  refine va_get (D := D) (ci := 5) (v := .ref (aM 0)) (C := RX5) (T := TX5) (N := 5) hx hb hts hiX5 hown hK hP 0 rfl rfl 1 (by decide) hf25 (fun _ z => z) rfl dX5_daysToStill_1 ?_
  refine lv_aload_n hx hb dX5_daysToStill_4 rfl (lv_at hl 0 rfl) ?_
  refine va_get (D := D) (ci := 5) (v := .ref (aN 0)) (C := RX5) (T := TX5) (N := 5) hx hb hts hiX5 hown hK hP 0 rfl rfl 0 (by decide) hf21 (fun _ z => z) rfl dX5_daysToStill_5 ?_
  obtain ⟨r8, g8, h⟩ := k_bind h
  refine k_callV (As := [.ref (aN 0)]) (rest := []) (st1 := []) (ws2 := (Wd18 cI cM aN aW aM aK w_before nS.1 nS.2.1 nS.2.2.1 nS.2.2.2.1 nS.2.2.2.2.1 nS.2.2.2.2.2.1 nS.2.2.2.2.2.2.1 nS.2.2.2.2.2.2.2.1 nS.2.2.2.2.2.2.2.2.1 nS.2.2.2.2.2.2.2.2.2.1 r8.1 r8.2.1 r8.2.2.1 r8.2.2.2.1 r8.2.2.2.2.1 r8.2.2.2.2.2.1 mS.2.2.2.2.2.2.1 r8.2.2.2.2.2.2.1 r8.2.2.2.2.2.2.2.1 r8.2.2.2.2.2.2.2.2)) hx hb hml hown hts hK hN hA hP hD hS hl (c_City_becomes l D cI cM cS cJ aM aN aK s.heap.size mS.1 mS.2.1 mS.2.2.1 mS.2.2.2.1 mS.2.2.2.2.1 mS.2.2.2.2.2.1 mS.2.2.2.2.2.2.1 mS.2.2.2.2.2.2.2.1 mS.2.2.2.2.2.2.2.2.1 mS.2.2.2.2.2.2.2.2.2.1 nS.1 nS.2.1 nS.2.2.1 nS.2.2.2.1 nS.2.2.2.2.1 nS.2.2.2.2.2.1 nS.2.2.2.2.2.2.1 nS.2.2.2.2.2.2.2.1 nS.2.2.2.2.2.2.2.2.1 nS.2.2.2.2.2.2.2.2.2.1 g8) gX5_daysToStill_X2_becomes rfl kdV_X2_becomes 0 2 rfl rfl rfl [6, 7, 8, 9, 2, 3, 4, 5] ⟨rfl, rfl⟩ ⟨Nat.le_of_ble_eq_true rfl, Nat.le_of_ble_eq_true rfl⟩ ⟨Nat.zero_le _, Nat.zero_le _⟩ rfl rfl (by decide +kernel) rfl rfl rfl (Nat.le_of_ble_eq_true rfl) dX5_daysToStill_8 rfl (fun H locs hP hD hS => ?_)
  refine lv_iconst (v := 0) hx hb dX5_daysToStill_11 (by decide) ?_
  refine lv_istore_n (lv' := [(1, .int 0), (0, .ref (aW 0))]) hx hb dX5_daysToStill_12 rfl hl (by decide) rfl (fun ls hl => ?_)
  refine lv_iconst (v := 1) hx hb dX5_daysToStill_13 (by decide) ?_
  have B15 : ∀ (n15 : Nat) (y1 : Int32) (y2 : Int32) (w_before : Nat → Int32) (mS : CS) (H : Heap) (locs : List Loc) (ls : Array Slot), va_P D vwCl (Wd18 cI cM aN aW aM aK w_before nS.1 nS.2.1 nS.2.2.1 nS.2.2.2.1 nS.2.2.2.2.1 nS.2.2.2.2.2.1 nS.2.2.2.2.2.2.1 nS.2.2.2.2.2.2.2.1 nS.2.2.2.2.2.2.2.2.1 nS.2.2.2.2.2.2.2.2.2.1 mS.1 mS.2.1 mS.2.2.1 mS.2.2.2.1 mS.2.2.2.2.1 mS.2.2.2.2.2.1 mS.2.2.2.2.2.2.1 mS.2.2.2.2.2.2.2.1 mS.2.2.2.2.2.2.2.2.1 mS.2.2.2.2.2.2.2.2.2.1) H → va_D A (Wd18 cI cM aN aW aM aK w_before nS.1 nS.2.1 nS.2.2.1 nS.2.2.2.1 nS.2.2.2.2.1 nS.2.2.2.2.2.1 nS.2.2.2.2.2.2.1 nS.2.2.2.2.2.2.2.1 nS.2.2.2.2.2.2.2.2.1 nS.2.2.2.2.2.2.2.2.2.1 mS.1 mS.2.1 mS.2.2.1 mS.2.2.2.1 mS.2.2.2.2.1 mS.2.2.2.2.2.1 mS.2.2.2.2.2.2.1 mS.2.2.2.2.2.2.2.1 mS.2.2.2.2.2.2.2.2.1 mS.2.2.2.2.2.2.2.2.2.1) → va_S A s.heap H locs → lv_has ls 3 [(0, .ref (aW 0)), (1, .int y1), (2, .int y2)] → S_Mind_daysToStill_L15 n15 y1 y2 w_before mS = some o → W p l e rm_X5_daysToStill s m ([.ref (aW 0)] : List Value).toArray below meth c H locs 0 0 Q (F0 m 15 ls []) := by
    intro n15
    induction n15 with
    | zero => intro y1 y2 w_before mS H locs ls hP hD hS hl h; exact absurd h (by simp [S_Mind_daysToStill_L15])
    | succ n15 ih15 =>
      intro y1 y2 w_before mS H locs ls hP hD hS hl h
      rw [S_Mind_daysToStill_L15] at h
      refine lv_iload_n hx hb dX5_daysToStill_15 rfl (lv_at hl 2 rfl) ?_
      refine lv_bipush (v := 60) hx hb dX5_daysToStill_16 (by decide) ?_
      refine lv_icmp_gt (tgt := 53) hx hb dX5_daysToStill_18 (by decide) (fun c18 => ?_) (fun c18 => ?_)
      · have h := k_pos c18 h
        refine lv_bipush (v := (-4)) hx hb dX5_daysToStill_53 (by decide) ?_
        cases h
        exact hret _ _ _ _ hP hS dX5_daysToStill_55
      · have h := k_neg c18 h
        refine lv_aload_n hx hb dX5_daysToStill_21 rfl (lv_at hl 0 rfl) ?_
        obtain ⟨r22, g22, h⟩ := k_bind h
        refine k_callV (As := []) (rest := []) (st1 := [.int r22.1]) (ws2 := (Wd18 cI cM aN aW aM aK r22.2.1 nS.1 nS.2.1 nS.2.2.1 nS.2.2.2.1 nS.2.2.2.2.1 nS.2.2.2.2.2.1 nS.2.2.2.2.2.2.1 nS.2.2.2.2.2.2.2.1 nS.2.2.2.2.2.2.2.2.1 nS.2.2.2.2.2.2.2.2.2.1 r22.2.2.1 r22.2.2.2.1 r22.2.2.2.2.1 r22.2.2.2.2.2.1 r22.2.2.2.2.2.2.1 r22.2.2.2.2.2.2.2.1 r22.2.2.2.2.2.2.2.2.1 r22.2.2.2.2.2.2.2.2.2.1 r22.2.2.2.2.2.2.2.2.2.2.1 r22.2.2.2.2.2.2.2.2.2.2.2.1)) hx hb hml hown hts hK hN hA hP hD hS hl (c_Mind_passesAlike l D cI cM cS cJ aN aW aM aK H.size w_before mS g22) gX5_daysToStill_X5_passesAlike rfl kdV_X5_passesAlike 0 5 rfl rfl rfl [0, 1, 6, 7, 8, 9, 10, 11, 12, 13, 14, 15, 16, 17, 18] ⟨rfl, rfl⟩ ⟨Nat.le_of_ble_eq_true rfl, Nat.le_of_ble_eq_true rfl⟩ ⟨Nat.zero_le _, Nat.zero_le _⟩ rfl rfl (by decide +kernel) rfl rfl rfl (Nat.le_of_ble_eq_true rfl) dX5_daysToStill_22 rfl (fun H locs hP hD hS => ?_)
        refine lv_if_eq (tgt := 34) hx hb dX5_daysToStill_25 (by decide) (fun c25 => ?_) (fun c25 => ?_)
        · have h := k_pos c25 h
          refine lv_iconst (v := 0) hx hb dX5_daysToStill_34 (by decide) ?_
          refine lv_istore_n (lv' := [(1, .int 0), (0, .ref (aW 0)), (2, .int y2)]) hx hb dX5_daysToStill_35 rfl hl (by decide) rfl (fun ls hl => ?_)
          refine lv_iload_n hx hb dX5_daysToStill_36 rfl (lv_at hl 0 rfl) ?_
          refine lv_bipush (v := 10) hx hb dX5_daysToStill_37 (by decide) ?_
          refine lv_icmp_ne (tgt := 47) hx hb dX5_daysToStill_39 (by decide) (fun _ => ?_) (fun z => absurd z (by decide))
          refine lv_iinc (v := (y2 + 1)) (lv' := [(2, .int (y2 + 1)), (1, .int 0), (0, .ref (aW 0))]) hx hb dX5_daysToStill_47 hl (k := 2) rfl (by first | rfl | decide) (by decide) rfl (fun ls hl => ?_)
          refine lv_goto (tgt := 15) hx hb dX5_daysToStill_50 (by decide) ?_
          exact ih15 0 (y2 + 1) r22.2.1 r22.2.2 H locs ls hP hD hS (lv_sub hl [2, 1, 0] rfl) h
        · have h := k_neg c25 h
          refine lv_iload_n hx hb dX5_daysToStill_28 rfl (lv_at hl 1 rfl) ?_
          refine lv_iconst (v := 1) hx hb dX5_daysToStill_29 (by decide) ?_
          refine lv_iadd hx hb dX5_daysToStill_30 ?_
          refine lv_goto (tgt := 35) hx hb dX5_daysToStill_31 (by decide) ?_
          refine lv_istore_n (lv' := [(1, .int (y1 + 1)), (0, .ref (aW 0)), (2, .int y2)]) hx hb dX5_daysToStill_35 rfl hl (by decide) rfl (fun ls hl => ?_)
          refine lv_iload_n hx hb dX5_daysToStill_36 rfl (lv_at hl 0 rfl) ?_
          refine lv_bipush (v := 10) hx hb dX5_daysToStill_37 (by decide) ?_
          refine lv_icmp_ne (tgt := 47) hx hb dX5_daysToStill_39 (by decide) (fun c39 => ?_) (fun c39 => ?_)
          · have h := k_neg c39 h
            refine lv_iinc (v := (y2 + 1)) (lv' := [(2, .int (y2 + 1)), (1, .int (y1 + 1)), (0, .ref (aW 0))]) hx hb dX5_daysToStill_47 hl (k := 2) rfl (by first | rfl | decide) (by decide) rfl (fun ls hl => ?_)
            refine lv_goto (tgt := 15) hx hb dX5_daysToStill_50 (by decide) ?_
            exact ih15 (y1 + 1) (y2 + 1) r22.2.1 r22.2.2 H locs ls hP hD hS (lv_sub hl [2, 1, 0] rfl) h
          · have h := k_pos c39 h
            refine lv_iload_n hx hb dX5_daysToStill_42 rfl (lv_at hl 2 rfl) ?_
            refine lv_bipush (v := 10) hx hb dX5_daysToStill_43 (by decide) ?_
            refine lv_isub hx hb dX5_daysToStill_45 ?_
            cases h
            exact hret _ _ _ _ hP hS dX5_daysToStill_46
  refine lv_istore_n (lv' := [(2, .int 1), (1, .int 0), (0, .ref (aW 0))]) hx hb dX5_daysToStill_14 rfl hl (by decide) rfl (fun ls hl => ?_)
  exact B15 lfu 0 1 w_before (r8.1, r8.2.1, r8.2.2.1, r8.2.2.2.1, r8.2.2.2.2.1, r8.2.2.2.2.2.1, mS.2.2.2.2.2.2.1, r8.2.2.2.2.2.2.1, r8.2.2.2.2.2.2.2.1, r8.2.2.2.2.2.2.2.2, mS.2.2.2.2.2.2.2.2.2.2) H locs ls hP hD hS (lv_sub hl [2, 1, 0] rfl) h
abbrev rm_X5_staysWhole : Room := { frames := 4, cells := 0, slots := 0, locals := 105 }
set_option maxHeartbeats 4000000 in
set_option maxRecDepth 100000 in
theorem c_Mind_staysWhole (l : Launch) (D : va_G) (cI cM cS cJ : ClassId) (aN : Nat → Nat) (aW : Nat → Nat) (aM : Nat → Nat) (aK : Nat → Nat) (sz : Nat) (x1 : Int32) (x2 : Int32) (nS : CS) (mS : CS) {o : (Int32) × (CS)} (hsem : S_Mind_staysWhole x1 x2 nS mS = some o) : kMet l yX5_staysWhole wsX5_staysWhole rm_X5_staysWhole [.ref (aW 0), .int x1, .int x2] D (kT cI cM cS cJ) (Wd16 cI cM aN aW aM aK nS.1 nS.2.1 nS.2.2.1 nS.2.2.2.1 nS.2.2.2.2.1 nS.2.2.2.2.2.1 nS.2.2.2.2.2.2.1 nS.2.2.2.2.2.2.2.1 nS.2.2.2.2.2.2.2.2.1 nS.2.2.2.2.2.2.2.2.2.1 mS.1 mS.2.1 mS.2.2.1 mS.2.2.2.1 mS.2.2.2.2.1 mS.2.2.2.2.2.1 mS.2.2.2.2.2.2.1 mS.2.2.2.2.2.2.2.1 mS.2.2.2.2.2.2.2.2.1 mS.2.2.2.2.2.2.2.2.2.1) sz (some (.int o.1)) (Wd16 cI cM aN aW aM aK nS.1 nS.2.1 nS.2.2.1 nS.2.2.2.1 nS.2.2.2.2.1 nS.2.2.2.2.2.1 nS.2.2.2.2.2.2.1 nS.2.2.2.2.2.2.2.1 nS.2.2.2.2.2.2.2.2.1 nS.2.2.2.2.2.2.2.2.2.1 o.2.1 o.2.2.1 o.2.2.2.1 o.2.2.2.2.1 o.2.2.2.2.2.1 o.2.2.2.2.2.2.1 o.2.2.2.2.2.2.2.1 o.2.2.2.2.2.2.2.2.1 o.2.2.2.2.2.2.2.2.2.1 o.2.2.2.2.2.2.2.2.2.2.1) := by
  refine k_metZ (by decide) rfl rfl (Nat.le_of_ble_eq_true rfl) ?_
  intro p e s m below meth c ls Q A hx hb hml hts hown hK hN hA hP hD hS hl hsz hnm hret
  have hown : s.vm.findClass RX5 = some m.cls := hown
  have hf25 := hts (.fieldLink RX5 25 "PlumbLine$Mind" "then" "LPlumbLine$City;") (List.mem_of_getElem? (i := 1) rfl)
  have hf21 := hts (.fieldLink RX5 21 "PlumbLine$Mind" "now" "LPlumbLine$City;") (List.mem_of_getElem? (i := 2) rfl)
  have hf70 := hts (.fieldLink RX5 70 "PlumbLine$City" "propped" "I") (List.mem_of_getElem? (i := 3) rfl)
  have hf44 := hts (.fieldLink RX5 44 "PlumbLine$City" "crashedToday" "Z") (List.mem_of_getElem? (i := 4) rfl)
  have hiX2 : ∀ w ∈ u_ws RX2 TX2 12, w ∈ wsX5_staysWhole := fun w h => List.mem_cons_of_mem _ (List.mem_append_right _ h)
  have hiX5 : ∀ w ∈ u_ws RX5 TX5 5, w ∈ wsX5_staysWhole := fun w h => List.mem_cons_of_mem _ (List.mem_append_left _ (List.mem_append_right _ h))
  replace hl : lv_has ls 4 [(0, .ref (aW 0)), (1, .int x1), (2, .int x2)] := hl
  have h := hsem
  clear hsem
  rw [S_Mind_staysWhole] at h
  refine lv_aload_n hx hb dX5_staysWhole_0 rfl (lv_at hl 0 rfl) ?_
  refine va_get (D := D) (ci := 5) (v := .ref (aM 0)) (C := RX5) (T := TX5) (N := 5) hx hb hts hiX5 hown hK hP 0 rfl rfl 1 (by decide) hf25 (fun _ z => z) rfl dX5_staysWhole_1 ?_
  refine lv_aload_n hx hb dX5_staysWhole_4 rfl (lv_at hl 0 rfl) ?_
  refine va_get (D := D) (ci := 5) (v := .ref (aN 0)) (C := RX5) (T := TX5) (N := 5) hx hb hts hiX5 hown hK hP 0 rfl rfl 0 (by decide) hf21 (fun _ z => z) rfl dX5_staysWhole_5 ?_
  obtain ⟨r8, g8, h⟩ := k_bind h
  refine k_callV (As := [.ref (aN 0)]) (rest := []) (st1 := []) (ws2 := (Wd16 cI cM aN aW aM aK nS.1 nS.2.1 nS.2.2.1 nS.2.2.2.1 nS.2.2.2.2.1 nS.2.2.2.2.2.1 nS.2.2.2.2.2.2.1 nS.2.2.2.2.2.2.2.1 nS.2.2.2.2.2.2.2.2.1 nS.2.2.2.2.2.2.2.2.2.1 r8.1 r8.2.1 r8.2.2.1 r8.2.2.2.1 r8.2.2.2.2.1 r8.2.2.2.2.2.1 mS.2.2.2.2.2.2.1 r8.2.2.2.2.2.2.1 r8.2.2.2.2.2.2.2.1 r8.2.2.2.2.2.2.2.2)) hx hb hml hown hts hK hN hA hP hD hS hl (c_City_becomes l D cI cM cS cJ aM aN aK s.heap.size mS.1 mS.2.1 mS.2.2.1 mS.2.2.2.1 mS.2.2.2.2.1 mS.2.2.2.2.2.1 mS.2.2.2.2.2.2.1 mS.2.2.2.2.2.2.2.1 mS.2.2.2.2.2.2.2.2.1 mS.2.2.2.2.2.2.2.2.2.1 nS.1 nS.2.1 nS.2.2.1 nS.2.2.2.1 nS.2.2.2.2.1 nS.2.2.2.2.2.1 nS.2.2.2.2.2.2.1 nS.2.2.2.2.2.2.2.1 nS.2.2.2.2.2.2.2.2.1 nS.2.2.2.2.2.2.2.2.2.1 g8) gX5_staysWhole_X2_becomes rfl kdV_X2_becomes 0 2 rfl rfl rfl [5, 6, 7, 8, 1, 2, 3, 4] ⟨rfl, rfl⟩ ⟨Nat.le_of_ble_eq_true rfl, Nat.le_of_ble_eq_true rfl⟩ ⟨Nat.zero_le _, Nat.zero_le _⟩ rfl rfl (by decide +kernel) rfl rfl rfl (Nat.le_of_ble_eq_true rfl) dX5_staysWhole_8 rfl (fun H locs hP hD hS => ?_)
  refine lv_aload_n hx hb dX5_staysWhole_11 rfl (lv_at hl 0 rfl) ?_
  refine va_get (D := D) (ci := 5) (v := .ref (aM 0)) (C := RX5) (T := TX5) (N := 5) hx hb hts hiX5 hown hK hP 0 rfl rfl 1 (by decide) hf25 (fun _ z => z) rfl dX5_staysWhole_12 ?_
  refine lv_dup hx hb dX5_staysWhole_15 rfl ?_
  refine va_get (D := D) (ci := 2) (v := .int r8.2.1) (C := RX2) (T := TX2) (N := 12) hx hb hts hiX2 hown hK hP 5 rfl rfl 4 (by decide) hf70 (fun _ z => z) rfl dX5_staysWhole_16 ?_
  refine lv_iload_n hx hb dX5_staysWhole_19 rfl (lv_at hl 1 rfl) ?_
  refine lv_ior hx hb dX5_staysWhole_20 ?_
  refine va_put (D := D) (ci := 2) (v := .int (r8.2.1 ||| x1)) (ty := .int) (C := RX2) (T := TX2) (N := 12) hx hb hts hiX2 tyX2 tyX2_ok nmX2 hown hK hP hD hS 5 rfl rfl 4 (by decide) hf70 (fun _ z => z) rfl (by decide +kernel) rfl rfl (Nat.le_of_ble_eq_true rfl) dX5_staysWhole_21 (fun H locs hP hD hS => ?_)
  replace hP : va_P D vwCl (Wd16 cI cM aN aW aM aK nS.1 nS.2.1 nS.2.2.1 nS.2.2.2.1 nS.2.2.2.2.1 nS.2.2.2.2.2.1 nS.2.2.2.2.2.2.1 nS.2.2.2.2.2.2.2.1 nS.2.2.2.2.2.2.2.2.1 nS.2.2.2.2.2.2.2.2.2.1 r8.1 (r8.2.1 ||| x1) r8.2.2.1 r8.2.2.2.1 r8.2.2.2.2.1 r8.2.2.2.2.2.1 mS.2.2.2.2.2.2.1 r8.2.2.2.2.2.2.1 r8.2.2.2.2.2.2.2.1 r8.2.2.2.2.2.2.2.2) H := hP
  replace hD : va_D A (Wd16 cI cM aN aW aM aK nS.1 nS.2.1 nS.2.2.1 nS.2.2.2.1 nS.2.2.2.2.1 nS.2.2.2.2.2.1 nS.2.2.2.2.2.2.1 nS.2.2.2.2.2.2.2.1 nS.2.2.2.2.2.2.2.2.1 nS.2.2.2.2.2.2.2.2.2.1 r8.1 (r8.2.1 ||| x1) r8.2.2.1 r8.2.2.2.1 r8.2.2.2.2.1 r8.2.2.2.2.2.1 mS.2.2.2.2.2.2.1 r8.2.2.2.2.2.2.1 r8.2.2.2.2.2.2.2.1 r8.2.2.2.2.2.2.2.2) := hD
  refine lv_iconst (v := 0) hx hb dX5_staysWhole_24 (by decide) ?_
  have B26 : ∀ (n26 : Nat) (y3 : Int32) (mS : CS) (H : Heap) (locs : List Loc) (ls : Array Slot), va_P D vwCl (Wd16 cI cM aN aW aM aK nS.1 nS.2.1 nS.2.2.1 nS.2.2.2.1 nS.2.2.2.2.1 nS.2.2.2.2.2.1 nS.2.2.2.2.2.2.1 nS.2.2.2.2.2.2.2.1 nS.2.2.2.2.2.2.2.2.1 nS.2.2.2.2.2.2.2.2.2.1 mS.1 mS.2.1 mS.2.2.1 mS.2.2.2.1 mS.2.2.2.2.1 mS.2.2.2.2.2.1 mS.2.2.2.2.2.2.1 mS.2.2.2.2.2.2.2.1 mS.2.2.2.2.2.2.2.2.1 mS.2.2.2.2.2.2.2.2.2.1) H → va_D A (Wd16 cI cM aN aW aM aK nS.1 nS.2.1 nS.2.2.1 nS.2.2.2.1 nS.2.2.2.2.1 nS.2.2.2.2.2.1 nS.2.2.2.2.2.2.1 nS.2.2.2.2.2.2.2.1 nS.2.2.2.2.2.2.2.2.1 nS.2.2.2.2.2.2.2.2.2.1 mS.1 mS.2.1 mS.2.2.1 mS.2.2.2.1 mS.2.2.2.2.1 mS.2.2.2.2.2.1 mS.2.2.2.2.2.2.1 mS.2.2.2.2.2.2.2.1 mS.2.2.2.2.2.2.2.2.1 mS.2.2.2.2.2.2.2.2.2.1) → va_S A s.heap H locs → lv_has ls 4 [(0, .ref (aW 0)), (2, .int x2), (3, .int y3)] → S_Mind_staysWhole_L26 x2 n26 y3 mS = some o → W p l e rm_X5_staysWhole s m ([.ref (aW 0), .int x1, .int x2] : List Value).toArray below meth c H locs 0 0 Q (F0 m 26 ls []) := by
    intro n26
    induction n26 with
    | zero => intro y3 mS H locs ls hP hD hS hl h; exact absurd h (by simp [S_Mind_staysWhole_L26])
    | succ n26 ih26 =>
      intro y3 mS H locs ls hP hD hS hl h
      rw [S_Mind_staysWhole_L26] at h
      refine lv_iload_n hx hb dX5_staysWhole_26 rfl (lv_at hl 2 rfl) ?_
      refine lv_iload_n hx hb dX5_staysWhole_27 rfl (lv_at hl 1 rfl) ?_
      refine lv_icmp_ge (tgt := 56) hx hb dX5_staysWhole_28 (by decide) (fun c28 => ?_) (fun c28 => ?_)
      · have h := k_pos c28 h
        refine lv_iconst (v := 1) hx hb dX5_staysWhole_56 (by decide) ?_
        cases h
        exact hret _ _ _ _ rfl hP hS dX5_staysWhole_57
      · have h := k_neg c28 h
        refine lv_aload_n hx hb dX5_staysWhole_31 rfl (lv_at hl 0 rfl) ?_
        refine va_get (D := D) (ci := 5) (v := .ref (aM 0)) (C := RX5) (T := TX5) (N := 5) hx hb hts hiX5 hown hK hP 0 rfl rfl 1 (by decide) hf25 (fun _ z => z) rfl dX5_staysWhole_32 ?_
        obtain ⟨r35, g35, h⟩ := k_bind h
        refine k_callV (As := []) (rest := []) (st1 := []) (ws2 := (Wd16 cI cM aN aW aM aK nS.1 nS.2.1 nS.2.2.1 nS.2.2.2.1 nS.2.2.2.2.1 nS.2.2.2.2.2.1 nS.2.2.2.2.2.2.1 nS.2.2.2.2.2.2.2.1 nS.2.2.2.2.2.2.2.2.1 nS.2.2.2.2.2.2.2.2.2.1 mS.1 mS.2.1 r35.1 r35.2.1 r35.2.2.1 r35.2.2.2.1 r35.2.2.2.2.1 mS.2.2.2.2.2.2.2.1 mS.2.2.2.2.2.2.2.2.1 r35.2.2.2.2.2)) hx hb hml hown hts hK hN hA hP hD hS hl (c_City_passDay l D cI cM cS cJ aM aK H.size mS.1 mS.2.1 mS.2.2.1 mS.2.2.2.1 mS.2.2.2.2.1 mS.2.2.2.2.2.1 mS.2.2.2.2.2.2.1 mS.2.2.2.2.2.2.2.1 mS.2.2.2.2.2.2.2.2.1 mS.2.2.2.2.2.2.2.2.2.1 g35) gX5_staysWhole_X2_passDay rfl kdV_X2_passDay 0 2 rfl rfl rfl [5, 6, 7, 8, 9, 10, 11, 12, 13, 14, 15, 16, 17] ⟨rfl, rfl⟩ ⟨Nat.le_of_ble_eq_true rfl, Nat.le_of_ble_eq_true rfl⟩ ⟨Nat.zero_le _, Nat.zero_le _⟩ rfl rfl (by decide +kernel) rfl rfl rfl (Nat.le_of_ble_eq_true rfl) dX5_staysWhole_35 rfl (fun H locs hP hD hS => ?_)
        refine lv_aload_n hx hb dX5_staysWhole_38 rfl (lv_at hl 0 rfl) ?_
        refine va_get (D := D) (ci := 5) (v := .ref (aM 0)) (C := RX5) (T := TX5) (N := 5) hx hb hts hiX5 hown hK hP 0 rfl rfl 1 (by decide) hf25 (fun _ z => z) rfl dX5_staysWhole_39 ?_
        refine va_get (D := D) (ci := 2) (v := .int r35.2.2.2.2.1) (C := RX2) (T := TX2) (N := 12) hx hb hts hiX2 hown hK hP 5 rfl rfl 9 (by decide) hf44 (fun _ z => z) rfl dX5_staysWhole_42 ?_
        refine lv_if_eq (tgt := 50) hx hb dX5_staysWhole_45 (by decide) (fun c45 => ?_) (fun c45 => ?_)
        · have h := k_pos c45 h
          refine lv_iinc (v := (y3 + 1)) (lv' := [(3, .int (y3 + 1)), (0, .ref (aW 0)), (2, .int x2)]) hx hb dX5_staysWhole_50 hl (k := 2) rfl (by first | rfl | decide) (by decide) rfl (fun ls hl => ?_)
          refine lv_goto (tgt := 26) hx hb dX5_staysWhole_53 (by decide) ?_
          exact ih26 (y3 + 1) (mS.1, mS.2.1, r35.1, r35.2.1, r35.2.2.1, r35.2.2.2.1, r35.2.2.2.2.1, mS.2.2.2.2.2.2.2.1, mS.2.2.2.2.2.2.2.2.1, r35.2.2.2.2.2, mS.2.2.2.2.2.2.2.2.2.2) H locs ls hP hD hS (lv_sub hl [1, 2, 0] rfl) h
        · have h := k_neg c45 h
          refine lv_iconst (v := 0) hx hb dX5_staysWhole_48 (by decide) ?_
          cases h
          exact hret _ _ _ _ rfl hP hS dX5_staysWhole_49
  refine lv_istore_n (lv' := [(3, .int 0), (0, .ref (aW 0)), (1, .int x1), (2, .int x2)]) hx hb dX5_staysWhole_25 rfl hl (by decide) rfl (fun ls hl => ?_)
  exact B26 lfu 0 (r8.1, (r8.2.1 ||| x1), r8.2.2.1, r8.2.2.2.1, r8.2.2.2.2.1, r8.2.2.2.2.2.1, mS.2.2.2.2.2.2.1, r8.2.2.2.2.2.2.1, r8.2.2.2.2.2.2.2.1, r8.2.2.2.2.2.2.2.2, mS.2.2.2.2.2.2.2.2.2.2) H locs ls hP hD hS (lv_sub hl [1, 3, 0] rfl) h
theorem kdV_X5_staysWhole : yX5_staysWhole.cls = RX5 ∧ yX5_staysWhole.cls ≠ "java/lang/invoke/MethodHandle" ∧ yX5_staysWhole.cls ≠ "java/lang/invoke/VarHandle" ∧ (parseMethodDescriptor yX5_staysWhole.desc).map (fun d => d.parameters.length) = some 2 := by decide +kernel
abbrev rm_X5_propsAgainstCrash : Room := { frames := 5, cells := 0, slots := 0, locals := 128 }
set_option maxHeartbeats 4000000 in
set_option maxRecDepth 100000 in
theorem c_Mind_propsAgainstCrash (l : Launch) (D : va_G) (cI cM cS cJ : ClassId) (aN : Nat → Nat) (aW : Nat → Nat) (aM : Nat → Nat) (aK : Nat → Nat) (sz : Nat) (x1 : Int32) (nS : CS) (mS : CS) {o : (Int32) × (CS)} (hsem : S_Mind_propsAgainstCrash x1 nS mS = some o) : kMet l yX5_propsAgainstCrash wsX5_propsAgainstCrash rm_X5_propsAgainstCrash [.ref (aW 0), .int x1] D (kT cI cM cS cJ) (Wd16 cI cM aN aW aM aK nS.1 nS.2.1 nS.2.2.1 nS.2.2.2.1 nS.2.2.2.2.1 nS.2.2.2.2.2.1 nS.2.2.2.2.2.2.1 nS.2.2.2.2.2.2.2.1 nS.2.2.2.2.2.2.2.2.1 nS.2.2.2.2.2.2.2.2.2.1 mS.1 mS.2.1 mS.2.2.1 mS.2.2.2.1 mS.2.2.2.2.1 mS.2.2.2.2.2.1 mS.2.2.2.2.2.2.1 mS.2.2.2.2.2.2.2.1 mS.2.2.2.2.2.2.2.2.1 mS.2.2.2.2.2.2.2.2.2.1) sz (some (.int o.1)) (Wd16 cI cM aN aW aM aK nS.1 nS.2.1 nS.2.2.1 nS.2.2.2.1 nS.2.2.2.2.1 nS.2.2.2.2.2.1 nS.2.2.2.2.2.2.1 nS.2.2.2.2.2.2.2.1 nS.2.2.2.2.2.2.2.2.1 nS.2.2.2.2.2.2.2.2.2.1 o.2.1 o.2.2.1 o.2.2.2.1 o.2.2.2.2.1 o.2.2.2.2.2.1 o.2.2.2.2.2.2.1 o.2.2.2.2.2.2.2.1 o.2.2.2.2.2.2.2.2.1 o.2.2.2.2.2.2.2.2.2.1 o.2.2.2.2.2.2.2.2.2.2.1) := by
  refine k_metI (by decide) rfl rfl (Nat.le_of_ble_eq_true rfl) ?_
  intro p e s m below meth c ls Q A hx hb hml hts hown hK hN hA hP hD hS hl hsz hnm hret
  have hown : s.vm.findClass RX5 = some m.cls := hown
  have hf21 := hts (.fieldLink RX5 21 "PlumbLine$Mind" "now" "LPlumbLine$City;") (List.mem_of_getElem? (i := 1) rfl)
  have hf62 := hts (.fieldLink RX5 62 "PlumbLine$City" "men" "I") (List.mem_of_getElem? (i := 2) rfl)
  have hf70 := hts (.fieldLink RX5 70 "PlumbLine$City" "propped" "I") (List.mem_of_getElem? (i := 3) rfl)
  have hiX2 : ∀ w ∈ u_ws RX2 TX2 12, w ∈ wsX5_propsAgainstCrash := fun w h => List.mem_cons_of_mem _ (List.mem_append_right _ h)
  have hiX5 : ∀ w ∈ u_ws RX5 TX5 5, w ∈ wsX5_propsAgainstCrash := fun w h => List.mem_cons_of_mem _ (List.mem_append_left _ (List.mem_append_right _ h))
  replace hl : lv_has ls 4 [(0, .ref (aW 0)), (1, .int x1)] := hl
  have h := hsem
  clear hsem
  rw [S_Mind_propsAgainstCrash] at h
  refine lv_iconst (v := 0) hx hb dX5_propsAgainstCrash_0 (by decide) ?_
  have B2 : ∀ (n2 : Nat) (y2 : Int32) (mS : CS) (H : Heap) (locs : List Loc) (ls : Array Slot), va_P D vwCl (Wd16 cI cM aN aW aM aK nS.1 nS.2.1 nS.2.2.1 nS.2.2.2.1 nS.2.2.2.2.1 nS.2.2.2.2.2.1 nS.2.2.2.2.2.2.1 nS.2.2.2.2.2.2.2.1 nS.2.2.2.2.2.2.2.2.1 nS.2.2.2.2.2.2.2.2.2.1 mS.1 mS.2.1 mS.2.2.1 mS.2.2.2.1 mS.2.2.2.2.1 mS.2.2.2.2.2.1 mS.2.2.2.2.2.2.1 mS.2.2.2.2.2.2.2.1 mS.2.2.2.2.2.2.2.2.1 mS.2.2.2.2.2.2.2.2.2.1) H → va_D A (Wd16 cI cM aN aW aM aK nS.1 nS.2.1 nS.2.2.1 nS.2.2.2.1 nS.2.2.2.2.1 nS.2.2.2.2.2.1 nS.2.2.2.2.2.2.1 nS.2.2.2.2.2.2.2.1 nS.2.2.2.2.2.2.2.2.1 nS.2.2.2.2.2.2.2.2.2.1 mS.1 mS.2.1 mS.2.2.1 mS.2.2.2.1 mS.2.2.2.2.1 mS.2.2.2.2.2.1 mS.2.2.2.2.2.2.1 mS.2.2.2.2.2.2.2.1 mS.2.2.2.2.2.2.2.2.1 mS.2.2.2.2.2.2.2.2.2.1) → va_S A s.heap H locs → lv_has ls 4 [(0, .ref (aW 0)), (1, .int x1), (2, .int y2)] → S_Mind_propsAgainstCrash_L2 x1 nS n2 y2 mS = some o → W p l e rm_X5_propsAgainstCrash s m ([.ref (aW 0), .int x1] : List Value).toArray below meth c H locs 0 0 Q (F0 m 2 ls []) := by
    intro n2
    induction n2 with
    | zero => intro y2 mS H locs ls hP hD hS hl h; exact absurd h (by simp [S_Mind_propsAgainstCrash_L2])
    | succ n2 ih2 =>
      intro y2 mS H locs ls hP hD hS hl h
      rw [S_Mind_propsAgainstCrash_L2] at h
      refine lv_iload_n hx hb dX5_propsAgainstCrash_2 rfl (lv_at hl 2 rfl) ?_
      refine lv_aload_n hx hb dX5_propsAgainstCrash_3 rfl (lv_at hl 0 rfl) ?_
      refine va_get (D := D) (ci := 5) (v := .ref (aN 0)) (C := RX5) (T := TX5) (N := 5) hx hb hts hiX5 hown hK hP 0 rfl rfl 0 (by decide) hf21 (fun _ z => z) rfl dX5_propsAgainstCrash_4 ?_
      refine va_get (D := D) (ci := 2) (v := .int nS.1) (C := RX2) (T := TX2) (N := 12) hx hb hts hiX2 hown hK hP 1 rfl rfl 3 (by decide) hf62 (fun _ z => z) rfl dX5_propsAgainstCrash_7 ?_
      refine lv_icmp_gt (tgt := 71) hx hb dX5_propsAgainstCrash_10 (by decide) (fun c10 => ?_) (fun c10 => ?_)
      · have h := k_pos c10 h
        refine lv_bipush (v := (-4)) hx hb dX5_propsAgainstCrash_71 (by decide) ?_
        cases h
        exact hret _ _ _ _ hP hS dX5_propsAgainstCrash_73
      · have h := k_neg c10 h
        refine lv_iconst (v := 0) hx hb dX5_propsAgainstCrash_13 (by decide) ?_
        have B15 : ∀ (y2 : Int32) (n15 : Nat) (y3 : Int32) (mS : CS) (H : Heap) (locs : List Loc) (ls : Array Slot), va_P D vwCl (Wd16 cI cM aN aW aM aK nS.1 nS.2.1 nS.2.2.1 nS.2.2.2.1 nS.2.2.2.2.1 nS.2.2.2.2.2.1 nS.2.2.2.2.2.2.1 nS.2.2.2.2.2.2.2.1 nS.2.2.2.2.2.2.2.2.1 nS.2.2.2.2.2.2.2.2.2.1 mS.1 mS.2.1 mS.2.2.1 mS.2.2.2.1 mS.2.2.2.2.1 mS.2.2.2.2.2.1 mS.2.2.2.2.2.2.1 mS.2.2.2.2.2.2.2.1 mS.2.2.2.2.2.2.2.2.1 mS.2.2.2.2.2.2.2.2.2.1) H → va_D A (Wd16 cI cM aN aW aM aK nS.1 nS.2.1 nS.2.2.1 nS.2.2.2.1 nS.2.2.2.2.1 nS.2.2.2.2.2.1 nS.2.2.2.2.2.2.1 nS.2.2.2.2.2.2.2.1 nS.2.2.2.2.2.2.2.2.1 nS.2.2.2.2.2.2.2.2.2.1 mS.1 mS.2.1 mS.2.2.1 mS.2.2.2.1 mS.2.2.2.2.1 mS.2.2.2.2.2.1 mS.2.2.2.2.2.2.1 mS.2.2.2.2.2.2.2.1 mS.2.2.2.2.2.2.2.2.1 mS.2.2.2.2.2.2.2.2.2.1) → va_S A s.heap H locs → lv_has ls 4 [(0, .ref (aW 0)), (1, .int x1), (2, .int y2), (3, .int y3)] → S_Mind_propsAgainstCrash_L15 (S_Mind_propsAgainstCrash_L2 x1 nS n2) x1 y2 nS n15 y3 mS = some o → W p l e rm_X5_propsAgainstCrash s m ([.ref (aW 0), .int x1] : List Value).toArray below meth c H locs 0 0 Q (F0 m 15 ls []) := by
          intro y2
          intro n15
          induction n15 with
          | zero => intro y3 mS H locs ls hP hD hS hl h; exact absurd h (by simp [S_Mind_propsAgainstCrash_L15])
          | succ n15 ih15 =>
            intro y3 mS H locs ls hP hD hS hl h
            rw [S_Mind_propsAgainstCrash_L15] at h
            refine lv_iload_n hx hb dX5_propsAgainstCrash_15 rfl (lv_at hl 3 rfl) ?_
            refine lv_iconst (v := 1) hx hb dX5_propsAgainstCrash_16 (by decide) ?_
            refine lv_aload_n hx hb dX5_propsAgainstCrash_17 rfl (lv_at hl 0 rfl) ?_
            refine va_get (D := D) (ci := 5) (v := .ref (aN 0)) (C := RX5) (T := TX5) (N := 5) hx hb hts hiX5 hown hK hP 0 rfl rfl 0 (by decide) hf21 (fun _ z => z) rfl dX5_propsAgainstCrash_18 ?_
            refine va_get (D := D) (ci := 2) (v := .int nS.1) (C := RX2) (T := TX2) (N := 12) hx hb hts hiX2 hown hK hP 1 rfl rfl 3 (by decide) hf62 (fun _ z => z) rfl dX5_propsAgainstCrash_21 ?_
            refine lv_ishl hx hb dX5_propsAgainstCrash_24 ?_
            refine lv_icmp_ge (tgt := 65) hx hb dX5_propsAgainstCrash_25 (by decide) (fun c25 => ?_) (fun c25 => ?_)
            · have h := k_pos c25 h
              refine lv_iinc (v := (y2 + 1)) (lv' := [(2, .int (y2 + 1)), (0, .ref (aW 0)), (1, .int x1), (3, .int y3)]) hx hb dX5_propsAgainstCrash_65 hl (k := 2) rfl (by first | rfl | decide) (by decide) rfl (fun ls hl => ?_)
              refine lv_goto (tgt := 2) hx hb dX5_propsAgainstCrash_68 (by decide) ?_
              exact ih2 (y2 + 1) mS H locs ls hP hD hS (lv_sub hl [1, 2, 0] rfl) h
            · have h := k_neg c25 h
              refine lv_iload_n hx hb dX5_propsAgainstCrash_28 rfl (lv_at hl 3 rfl) ?_
              refine k_callS (As := [.int y3]) (rest := []) (st1 := [.int (S_J_bitCount y3)]) (ws2 := (Wd16 cI cM aN aW aM aK nS.1 nS.2.1 nS.2.2.1 nS.2.2.2.1 nS.2.2.2.2.1 nS.2.2.2.2.2.1 nS.2.2.2.2.2.2.1 nS.2.2.2.2.2.2.2.1 nS.2.2.2.2.2.2.2.2.1 nS.2.2.2.2.2.2.2.2.2.1 mS.1 mS.2.1 mS.2.2.1 mS.2.2.2.1 mS.2.2.2.2.1 mS.2.2.2.2.2.1 mS.2.2.2.2.2.2.1 mS.2.2.2.2.2.2.2.1 mS.2.2.2.2.2.2.2.2.1 mS.2.2.2.2.2.2.2.2.2.1)) hx hb hml hown hts hK hN hA hP hD hS hl (c_J_bitCount l D cI cM cS cJ H.size y3 rfl) gX5_propsAgainstCrash_J6_bitCount_0f7a4 rfl kdS_J6_bitCount_0f7a4 [] ⟨rfl, rfl⟩ ⟨Nat.le_of_ble_eq_true rfl, Nat.le_of_ble_eq_true rfl⟩ ⟨Nat.zero_le _, Nat.zero_le _⟩ rfl rfl (by decide +kernel) rfl rfl rfl (Nat.le_of_ble_eq_true rfl) dX5_propsAgainstCrash_29 rfl (fun H locs hP hD hS => ?_)
              refine lv_iload_n hx hb dX5_propsAgainstCrash_32 rfl (lv_at hl 2 rfl) ?_
              refine lv_icmp_ne (tgt := 59) hx hb dX5_propsAgainstCrash_33 (by decide) (fun c33 => ?_) (fun c33 => ?_)
              · have h := k_neg c33 h
                refine lv_iinc (v := (y3 + 1)) (lv' := [(3, .int (y3 + 1)), (0, .ref (aW 0)), (1, .int x1), (2, .int y2)]) hx hb dX5_propsAgainstCrash_59 hl (k := 3) rfl (by first | rfl | decide) (by decide) rfl (fun ls hl => ?_)
                refine lv_goto (tgt := 15) hx hb dX5_propsAgainstCrash_62 (by decide) ?_
                exact ih15 (y3 + 1) mS H locs ls hP hD hS (lv_sub hl [1, 2, 3, 0] rfl) h
              · have h := k_pos c33 h
                refine lv_iload_n hx hb dX5_propsAgainstCrash_36 rfl (lv_at hl 3 rfl) ?_
                refine lv_aload_n hx hb dX5_propsAgainstCrash_37 rfl (lv_at hl 0 rfl) ?_
                refine va_get (D := D) (ci := 5) (v := .ref (aN 0)) (C := RX5) (T := TX5) (N := 5) hx hb hts hiX5 hown hK hP 0 rfl rfl 0 (by decide) hf21 (fun _ z => z) rfl dX5_propsAgainstCrash_38 ?_
                refine va_get (D := D) (ci := 2) (v := .int nS.2.1) (C := RX2) (T := TX2) (N := 12) hx hb hts hiX2 hown hK hP 1 rfl rfl 4 (by decide) hf70 (fun _ z => z) rfl dX5_propsAgainstCrash_41 ?_
                refine lv_iand hx hb dX5_propsAgainstCrash_44 ?_
                refine lv_if_ne (tgt := 59) hx hb dX5_propsAgainstCrash_45 (by decide) (fun c45 => ?_) (fun c45 => ?_)
                · have h := k_neg c45 h
                  refine lv_iinc (v := (y3 + 1)) (lv' := [(3, .int (y3 + 1)), (0, .ref (aW 0)), (1, .int x1), (2, .int y2)]) hx hb dX5_propsAgainstCrash_59 hl (k := 3) rfl (by first | rfl | decide) (by decide) rfl (fun ls hl => ?_)
                  refine lv_goto (tgt := 15) hx hb dX5_propsAgainstCrash_62 (by decide) ?_
                  exact ih15 (y3 + 1) mS H locs ls hP hD hS (lv_sub hl [1, 2, 3, 0] rfl) h
                · have h := k_pos c45 h
                  refine lv_aload_n hx hb dX5_propsAgainstCrash_48 rfl (lv_at hl 0 rfl) ?_
                  refine lv_iload_n hx hb dX5_propsAgainstCrash_49 rfl (lv_at hl 3 rfl) ?_
                  refine lv_iload_n hx hb dX5_propsAgainstCrash_50 rfl (lv_at hl 1 rfl) ?_
                  obtain ⟨r51, g51, h⟩ := k_bind h
                  refine k_callV (As := [.int y3, .int x1]) (rest := []) (st1 := [.int r51.1]) (ws2 := (Wd16 cI cM aN aW aM aK nS.1 nS.2.1 nS.2.2.1 nS.2.2.2.1 nS.2.2.2.2.1 nS.2.2.2.2.2.1 nS.2.2.2.2.2.2.1 nS.2.2.2.2.2.2.2.1 nS.2.2.2.2.2.2.2.2.1 nS.2.2.2.2.2.2.2.2.2.1 r51.2.1 r51.2.2.1 r51.2.2.2.1 r51.2.2.2.2.1 r51.2.2.2.2.2.1 r51.2.2.2.2.2.2.1 r51.2.2.2.2.2.2.2.1 r51.2.2.2.2.2.2.2.2.1 r51.2.2.2.2.2.2.2.2.2.1 r51.2.2.2.2.2.2.2.2.2.2.1)) hx hb hml hown hts hK hN hA hP hD hS hl (c_Mind_staysWhole l D cI cM cS cJ aN aW aM aK H.size y3 x1 nS mS g51) gX5_propsAgainstCrash_X5_staysWhole rfl kdV_X5_staysWhole 0 5 rfl rfl rfl [0, 1, 2, 3, 4, 5, 6, 7, 8, 9, 10, 11, 12, 13, 14, 15, 16, 17] ⟨rfl, rfl⟩ ⟨Nat.le_of_ble_eq_true rfl, Nat.le_of_ble_eq_true rfl⟩ ⟨Nat.zero_le _, Nat.zero_le _⟩ rfl rfl (by decide +kernel) rfl rfl rfl (Nat.le_of_ble_eq_true rfl) dX5_propsAgainstCrash_51 rfl (fun H locs hP hD hS => ?_)
                  refine lv_if_eq (tgt := 59) hx hb dX5_propsAgainstCrash_54 (by decide) (fun c54 => ?_) (fun c54 => ?_)
                  · have h := k_pos c54 h
                    refine lv_iinc (v := (y3 + 1)) (lv' := [(3, .int (y3 + 1)), (0, .ref (aW 0)), (1, .int x1), (2, .int y2)]) hx hb dX5_propsAgainstCrash_59 hl (k := 3) rfl (by first | rfl | decide) (by decide) rfl (fun ls hl => ?_)
                    refine lv_goto (tgt := 15) hx hb dX5_propsAgainstCrash_62 (by decide) ?_
                    exact ih15 (y3 + 1) r51.2 H locs ls hP hD hS (lv_sub hl [1, 2, 3, 0] rfl) h
                  · have h := k_neg c54 h
                    refine lv_iload_n hx hb dX5_propsAgainstCrash_57 rfl (lv_at hl 3 rfl) ?_
                    cases h
                    exact hret _ _ _ _ hP hS dX5_propsAgainstCrash_58
        refine lv_istore_n (lv' := [(3, .int 0), (0, .ref (aW 0)), (1, .int x1), (2, .int y2)]) hx hb dX5_propsAgainstCrash_14 rfl hl (by decide) rfl (fun ls hl => ?_)
        exact B15 y2 lfu 0 mS H locs ls hP hD hS (lv_sub hl [1, 2, 3, 0] rfl) h
  refine lv_istore_n (lv' := [(2, .int 0), (0, .ref (aW 0)), (1, .int x1)]) hx hb dX5_propsAgainstCrash_1 rfl hl (by decide) rfl (fun ls hl => ?_)
  exact B2 lfu 0 mS s.heap [] ls hP hD hS (lv_sub hl [1, 2, 0] rfl) h
theorem kdV_X5_after : yX5_after.cls = RX5 ∧ yX5_after.cls ≠ "java/lang/invoke/MethodHandle" ∧ yX5_after.cls ≠ "java/lang/invoke/VarHandle" ∧ (parseMethodDescriptor yX5_after.desc).map (fun d => d.parameters.length) = some 1 := by decide +kernel
abbrev rm_X5_bestPush : Room := { frames := 6, cells := 0, slots := 0, locals := 149 }
set_option maxHeartbeats 4000000 in
set_option maxRecDepth 100000 in
theorem c_Mind_bestPush (l : Launch) (D : va_G) (cI cM cS cJ : ClassId) (aN : Nat → Nat) (aW : Nat → Nat) (aM : Nat → Nat) (aK : Nat → Nat) (sz : Nat) (x1 : Int32) (nS : CS) (mS : CS) {o : (Int32) × (CS)} (hsem : S_Mind_bestPush x1 nS mS = some o) : kMet l yX5_bestPush wsX5_bestPush rm_X5_bestPush [.ref (aW 0), .int x1] D (kT cI cM cS cJ) (Wd16 cI cM aN aW aM aK nS.1 nS.2.1 nS.2.2.1 nS.2.2.2.1 nS.2.2.2.2.1 nS.2.2.2.2.2.1 nS.2.2.2.2.2.2.1 nS.2.2.2.2.2.2.2.1 nS.2.2.2.2.2.2.2.2.1 nS.2.2.2.2.2.2.2.2.2.1 mS.1 mS.2.1 mS.2.2.1 mS.2.2.2.1 mS.2.2.2.2.1 mS.2.2.2.2.2.1 mS.2.2.2.2.2.2.1 mS.2.2.2.2.2.2.2.1 mS.2.2.2.2.2.2.2.2.1 mS.2.2.2.2.2.2.2.2.2.1) sz (some (.int o.1)) (Wd16 cI cM aN aW aM aK nS.1 nS.2.1 nS.2.2.1 nS.2.2.2.1 nS.2.2.2.2.1 nS.2.2.2.2.2.1 nS.2.2.2.2.2.2.1 nS.2.2.2.2.2.2.2.1 nS.2.2.2.2.2.2.2.2.1 nS.2.2.2.2.2.2.2.2.2.1 o.2.1 o.2.2.1 o.2.2.2.1 o.2.2.2.2.1 o.2.2.2.2.2.1 o.2.2.2.2.2.2.1 o.2.2.2.2.2.2.2.1 o.2.2.2.2.2.2.2.2.1 o.2.2.2.2.2.2.2.2.2.1 o.2.2.2.2.2.2.2.2.2.2.1) := by
  refine k_metI (by decide) rfl rfl (Nat.le_of_ble_eq_true rfl) ?_
  intro p e s m below meth c ls Q A hx hb hml hts hown hK hN hA hP hD hS hl hsz hnm hret
  have hown : s.vm.findClass RX5 = some m.cls := hown
  have hf21 := hts (.fieldLink RX5 21 "PlumbLine$Mind" "now" "LPlumbLine$City;") (List.mem_of_getElem? (i := 1) rfl)
  have hf62 := hts (.fieldLink RX5 62 "PlumbLine$City" "men" "I") (List.mem_of_getElem? (i := 2) rfl)
  have hf25 := hts (.fieldLink RX5 25 "PlumbLine$Mind" "then" "LPlumbLine$City;") (List.mem_of_getElem? (i := 3) rfl)
  have hf38 := hts (.fieldLink RX5 38 "PlumbLine$City" "lean" "[I") (List.mem_of_getElem? (i := 4) rfl)
  have hiX2 : ∀ w ∈ u_ws RX2 TX2 12, w ∈ wsX5_bestPush := fun w h => List.mem_cons_of_mem _ (List.mem_append_right _ h)
  have hiX5 : ∀ w ∈ u_ws RX5 TX5 5, w ∈ wsX5_bestPush := fun w h => List.mem_cons_of_mem _ (List.mem_append_left _ (List.mem_append_right _ h))
  replace hl : lv_has ls 7 [(0, .ref (aW 0)), (1, .int x1)] := hl
  have h := hsem
  clear hsem
  rw [S_Mind_bestPush] at h
  refine lv_bipush (v := (-4)) hx hb dX5_bestPush_0 (by decide) ?_
  refine lv_istore_n (lv' := [(2, .int (-4)), (0, .ref (aW 0)), (1, .int x1)]) hx hb dX5_bestPush_2 rfl hl (by decide) rfl (fun ls hl => ?_)
  refine lv_aload_n hx hb dX5_bestPush_3 rfl (lv_at hl 1 rfl) ?_
  refine lv_iload_n hx hb dX5_bestPush_4 rfl (lv_at hl 2 rfl) ?_
  obtain ⟨r5, g5, h⟩ := k_bind h
  refine k_callV (As := [.int x1]) (rest := []) (st1 := [.ref (aM 0)]) (ws2 := (Wd16 cI cM aN aW aM aK nS.1 nS.2.1 nS.2.2.1 nS.2.2.2.1 nS.2.2.2.2.1 nS.2.2.2.2.2.1 nS.2.2.2.2.2.2.1 nS.2.2.2.2.2.2.2.1 nS.2.2.2.2.2.2.2.2.1 nS.2.2.2.2.2.2.2.2.2.1 r5.1 r5.2.1 r5.2.2.1 r5.2.2.2.1 r5.2.2.2.2.1 r5.2.2.2.2.2.1 r5.2.2.2.2.2.2.1 r5.2.2.2.2.2.2.2.1 r5.2.2.2.2.2.2.2.2.1 r5.2.2.2.2.2.2.2.2.2.1)) hx hb hml hown hts hK hN hA hP hD hS hl (c_Mind_after l D cI cM cS cJ aN aW aM aK s.heap.size x1 nS mS g5) gX5_bestPush_X5_after rfl kdV_X5_after 0 5 rfl rfl rfl [0, 1, 2, 3, 4, 5, 6, 7, 8, 9, 10, 11, 12, 13, 14, 15, 16, 17] ⟨rfl, rfl⟩ ⟨Nat.le_of_ble_eq_true rfl, Nat.le_of_ble_eq_true rfl⟩ ⟨Nat.zero_le _, Nat.zero_le _⟩ rfl rfl (by decide +kernel) rfl rfl rfl (Nat.le_of_ble_eq_true rfl) dX5_bestPush_5 rfl (fun H locs hP hD hS => ?_)
  obtain ⟨r8, g8, h⟩ := k_bind h
  refine k_callV (As := []) (rest := []) (st1 := [.int r8]) (ws2 := (Wd16 cI cM aN aW aM aK nS.1 nS.2.1 nS.2.2.1 nS.2.2.2.1 nS.2.2.2.2.1 nS.2.2.2.2.2.1 nS.2.2.2.2.2.2.1 nS.2.2.2.2.2.2.2.1 nS.2.2.2.2.2.2.2.2.1 nS.2.2.2.2.2.2.2.2.2.1 r5.1 r5.2.1 r5.2.2.1 r5.2.2.2.1 r5.2.2.2.2.1 r5.2.2.2.2.2.1 r5.2.2.2.2.2.2.1 r5.2.2.2.2.2.2.2.1 r5.2.2.2.2.2.2.2.2.1 r5.2.2.2.2.2.2.2.2.2.1)) hx hb hml hown hts hK hN hA hP hD hS hl (c_City_upright l D cI cM cS cJ aM aK H.size r5.1 r5.2.1 r5.2.2.1 r5.2.2.2.1 r5.2.2.2.2.1 r5.2.2.2.2.2.1 r5.2.2.2.2.2.2.1 r5.2.2.2.2.2.2.2.1 r5.2.2.2.2.2.2.2.2.1 r5.2.2.2.2.2.2.2.2.2.1 g8) gX5_bestPush_X2_upright rfl kdV_X2_upright 0 2 rfl rfl rfl [5, 6, 7, 8, 9, 10, 11, 12, 13, 14, 15, 16, 17] ⟨rfl, rfl⟩ ⟨Nat.le_of_ble_eq_true rfl, Nat.le_of_ble_eq_true rfl⟩ ⟨Nat.zero_le _, Nat.zero_le _⟩ rfl rfl (by decide +kernel) rfl rfl rfl (Nat.le_of_ble_eq_true rfl) dX5_bestPush_8 rfl (fun H locs hP hD hS => ?_)
  refine k_callS (As := [.int r8]) (rest := []) (st1 := [.int (S_J_bitCount r8)]) (ws2 := (Wd16 cI cM aN aW aM aK nS.1 nS.2.1 nS.2.2.1 nS.2.2.2.1 nS.2.2.2.2.1 nS.2.2.2.2.2.1 nS.2.2.2.2.2.2.1 nS.2.2.2.2.2.2.2.1 nS.2.2.2.2.2.2.2.2.1 nS.2.2.2.2.2.2.2.2.2.1 r5.1 r5.2.1 r5.2.2.1 r5.2.2.2.1 r5.2.2.2.2.1 r5.2.2.2.2.2.1 r5.2.2.2.2.2.2.1 r5.2.2.2.2.2.2.2.1 r5.2.2.2.2.2.2.2.2.1 r5.2.2.2.2.2.2.2.2.2.1)) hx hb hml hown hts hK hN hA hP hD hS hl (c_J_bitCount l D cI cM cS cJ H.size r8 rfl) gX5_bestPush_J6_bitCount_0f7a4 rfl kdS_J6_bitCount_0f7a4 [] ⟨rfl, rfl⟩ ⟨Nat.le_of_ble_eq_true rfl, Nat.le_of_ble_eq_true rfl⟩ ⟨Nat.zero_le _, Nat.zero_le _⟩ rfl rfl (by decide +kernel) rfl rfl rfl (Nat.le_of_ble_eq_true rfl) dX5_bestPush_11 rfl (fun H locs hP hD hS => ?_)
  refine lv_istore_n (lv' := [(3, .int (S_J_bitCount r8)), (2, .int (-4)), (0, .ref (aW 0)), (1, .int x1)]) hx hb dX5_bestPush_14 rfl hl (by decide) rfl (fun ls hl => ?_)
  refine lv_iconst (v := 0) hx hb dX5_bestPush_15 (by decide) ?_
  have B18 : ∀ (n18 : Nat) (y2 : Int32) (y3 : Int32) (y4 : Int32) (mS : CS) (H : Heap) (locs : List Loc) (ls : Array Slot), va_P D vwCl (Wd16 cI cM aN aW aM aK nS.1 nS.2.1 nS.2.2.1 nS.2.2.2.1 nS.2.2.2.2.1 nS.2.2.2.2.2.1 nS.2.2.2.2.2.2.1 nS.2.2.2.2.2.2.2.1 nS.2.2.2.2.2.2.2.2.1 nS.2.2.2.2.2.2.2.2.2.1 mS.1 mS.2.1 mS.2.2.1 mS.2.2.2.1 mS.2.2.2.2.1 mS.2.2.2.2.2.1 mS.2.2.2.2.2.2.1 mS.2.2.2.2.2.2.2.1 mS.2.2.2.2.2.2.2.2.1 mS.2.2.2.2.2.2.2.2.2.1) H → va_D A (Wd16 cI cM aN aW aM aK nS.1 nS.2.1 nS.2.2.1 nS.2.2.2.1 nS.2.2.2.2.1 nS.2.2.2.2.2.1 nS.2.2.2.2.2.2.1 nS.2.2.2.2.2.2.2.1 nS.2.2.2.2.2.2.2.2.1 nS.2.2.2.2.2.2.2.2.2.1 mS.1 mS.2.1 mS.2.2.1 mS.2.2.2.1 mS.2.2.2.2.1 mS.2.2.2.2.2.1 mS.2.2.2.2.2.2.1 mS.2.2.2.2.2.2.2.1 mS.2.2.2.2.2.2.2.2.1 mS.2.2.2.2.2.2.2.2.2.1) → va_S A s.heap H locs → lv_has ls 7 [(0, .ref (aW 0)), (1, .int x1), (2, .int y2), (3, .int y3), (4, .int y4)] → S_Mind_bestPush_L18 x1 nS n18 y2 y3 y4 mS = some o → W p l e rm_X5_bestPush s m ([.ref (aW 0), .int x1] : List Value).toArray below meth c H locs 0 0 Q (F0 m 18 ls []) := by
    intro n18
    induction n18 with
    | zero => intro y2 y3 y4 mS H locs ls hP hD hS hl h; exact absurd h (by simp [S_Mind_bestPush_L18])
    | succ n18 ih18 =>
      intro y2 y3 y4 mS H locs ls hP hD hS hl h
      rw [S_Mind_bestPush_L18] at h
      refine lv_iload hx hb dX5_bestPush_18 (lv_at hl 4 rfl) ?_
      refine lv_aload_n hx hb dX5_bestPush_20 rfl (lv_at hl 0 rfl) ?_
      refine va_get (D := D) (ci := 5) (v := .ref (aN 0)) (C := RX5) (T := TX5) (N := 5) hx hb hts hiX5 hown hK hP 0 rfl rfl 0 (by decide) hf21 (fun _ z => z) rfl dX5_bestPush_21 ?_
      refine va_get (D := D) (ci := 2) (v := .int nS.1) (C := RX2) (T := TX2) (N := 12) hx hb hts hiX2 hown hK hP 1 rfl rfl 3 (by decide) hf62 (fun _ z => z) rfl dX5_bestPush_24 ?_
      refine lv_icmp_ge (tgt := 117) hx hb dX5_bestPush_27 (by decide) (fun c27 => ?_) (fun c27 => ?_)
      · have h := k_pos c27 h
        refine lv_iload_n hx hb dX5_bestPush_117 rfl (lv_at hl 2 rfl) ?_
        cases h
        exact hret _ _ _ _ hP hS dX5_bestPush_118
      · have h := k_neg c27 h
        refine lv_iconst (v := 0) hx hb dX5_bestPush_30 (by decide) ?_
        have B33 : ∀ (y4 : Int32) (n33 : Nat) (y2 : Int32) (y3 : Int32) (y5 : Int32) (mS : CS) (H : Heap) (locs : List Loc) (ls : Array Slot), va_P D vwCl (Wd16 cI cM aN aW aM aK nS.1 nS.2.1 nS.2.2.1 nS.2.2.2.1 nS.2.2.2.2.1 nS.2.2.2.2.2.1 nS.2.2.2.2.2.2.1 nS.2.2.2.2.2.2.2.1 nS.2.2.2.2.2.2.2.2.1 nS.2.2.2.2.2.2.2.2.2.1 mS.1 mS.2.1 mS.2.2.1 mS.2.2.2.1 mS.2.2.2.2.1 mS.2.2.2.2.2.1 mS.2.2.2.2.2.2.1 mS.2.2.2.2.2.2.2.1 mS.2.2.2.2.2.2.2.2.1 mS.2.2.2.2.2.2.2.2.2.1) H → va_D A (Wd16 cI cM aN aW aM aK nS.1 nS.2.1 nS.2.2.1 nS.2.2.2.1 nS.2.2.2.2.1 nS.2.2.2.2.2.1 nS.2.2.2.2.2.2.1 nS.2.2.2.2.2.2.2.1 nS.2.2.2.2.2.2.2.2.1 nS.2.2.2.2.2.2.2.2.2.1 mS.1 mS.2.1 mS.2.2.1 mS.2.2.2.1 mS.2.2.2.2.1 mS.2.2.2.2.2.1 mS.2.2.2.2.2.2.1 mS.2.2.2.2.2.2.2.1 mS.2.2.2.2.2.2.2.2.1 mS.2.2.2.2.2.2.2.2.2.1) → va_S A s.heap H locs → lv_has ls 7 [(0, .ref (aW 0)), (1, .int x1), (2, .int y2), (3, .int y3), (4, .int y4), (5, .int y5)] → S_Mind_bestPush_L33 (S_Mind_bestPush_L18 x1 nS n18) x1 y4 nS n33 y2 y3 y5 mS = some o → W p l e rm_X5_bestPush s m ([.ref (aW 0), .int x1] : List Value).toArray below meth c H locs 0 0 Q (F0 m 33 ls []) := by
          intro y4
          intro n33
          induction n33 with
          | zero => intro y2 y3 y5 mS H locs ls hP hD hS hl h; exact absurd h (by simp [S_Mind_bestPush_L33])
          | succ n33 ih33 =>
            intro y2 y3 y5 mS H locs ls hP hD hS hl h
            rw [S_Mind_bestPush_L33] at h
            refine lv_iload hx hb dX5_bestPush_33 (lv_at hl 5 rfl) ?_
            refine lv_bipush (v := 91) hx hb dX5_bestPush_35 (by decide) ?_
            refine lv_icmp_ge (tgt := 111) hx hb dX5_bestPush_37 (by decide) (fun c37 => ?_) (fun c37 => ?_)
            · have h := k_pos c37 h
              refine lv_iinc (v := (y4 + 1)) (lv' := [(4, .int (y4 + 1)), (0, .ref (aW 0)), (1, .int x1), (2, .int y2), (3, .int y3), (5, .int y5)]) hx hb dX5_bestPush_111 hl (k := 4) rfl (by first | rfl | decide) (by decide) rfl (fun ls hl => ?_)
              refine lv_goto (tgt := 18) hx hb dX5_bestPush_114 (by decide) ?_
              exact ih18 y2 y3 (y4 + 1) mS H locs ls hP hD hS (lv_sub hl [1, 2, 3, 4, 0] rfl) h
            · have h := k_neg c37 h
              refine lv_aload_n hx hb dX5_bestPush_40 rfl (lv_at hl 0 rfl) ?_
              refine va_get (D := D) (ci := 5) (v := .ref (aM 0)) (C := RX5) (T := TX5) (N := 5) hx hb hts hiX5 hown hK hP 0 rfl rfl 1 (by decide) hf25 (fun _ z => z) rfl dX5_bestPush_41 ?_
              refine lv_aload_n hx hb dX5_bestPush_44 rfl (lv_at hl 0 rfl) ?_
              refine va_get (D := D) (ci := 5) (v := .ref (aN 0)) (C := RX5) (T := TX5) (N := 5) hx hb hts hiX5 hown hK hP 0 rfl rfl 0 (by decide) hf21 (fun _ z => z) rfl dX5_bestPush_45 ?_
              obtain ⟨r48, g48, h⟩ := k_bind h
              refine k_callV (As := [.ref (aN 0)]) (rest := []) (st1 := []) (ws2 := (Wd16 cI cM aN aW aM aK nS.1 nS.2.1 nS.2.2.1 nS.2.2.2.1 nS.2.2.2.2.1 nS.2.2.2.2.2.1 nS.2.2.2.2.2.2.1 nS.2.2.2.2.2.2.2.1 nS.2.2.2.2.2.2.2.2.1 nS.2.2.2.2.2.2.2.2.2.1 r48.1 r48.2.1 r48.2.2.1 r48.2.2.2.1 r48.2.2.2.2.1 r48.2.2.2.2.2.1 mS.2.2.2.2.2.2.1 r48.2.2.2.2.2.2.1 r48.2.2.2.2.2.2.2.1 r48.2.2.2.2.2.2.2.2)) hx hb hml hown hts hK hN hA hP hD hS hl (c_City_becomes l D cI cM cS cJ aM aN aK H.size mS.1 mS.2.1 mS.2.2.1 mS.2.2.2.1 mS.2.2.2.2.1 mS.2.2.2.2.2.1 mS.2.2.2.2.2.2.1 mS.2.2.2.2.2.2.2.1 mS.2.2.2.2.2.2.2.2.1 mS.2.2.2.2.2.2.2.2.2.1 nS.1 nS.2.1 nS.2.2.1 nS.2.2.2.1 nS.2.2.2.2.1 nS.2.2.2.2.2.1 nS.2.2.2.2.2.2.1 nS.2.2.2.2.2.2.2.1 nS.2.2.2.2.2.2.2.2.1 nS.2.2.2.2.2.2.2.2.2.1 g48) gX5_bestPush_X2_becomes rfl kdV_X2_becomes 0 2 rfl rfl rfl [5, 6, 7, 8, 1, 2, 3, 4] ⟨rfl, rfl⟩ ⟨Nat.le_of_ble_eq_true rfl, Nat.le_of_ble_eq_true rfl⟩ ⟨Nat.zero_le _, Nat.zero_le _⟩ rfl rfl (by decide +kernel) rfl rfl rfl (Nat.le_of_ble_eq_true rfl) dX5_bestPush_48 rfl (fun H locs hP hD hS => ?_)
              refine lv_aload_n hx hb dX5_bestPush_51 rfl (lv_at hl 0 rfl) ?_
              refine va_get (D := D) (ci := 5) (v := .ref (aM 0)) (C := RX5) (T := TX5) (N := 5) hx hb hts hiX5 hown hK hP 0 rfl rfl 1 (by decide) hf25 (fun _ z => z) rfl dX5_bestPush_52 ?_
              refine va_get (D := D) (ci := 2) (v := .ref (aM 3)) (C := RX2) (T := TX2) (N := 12) hx hb hts hiX2 hown hK hP 5 rfl rfl 2 (by decide) hf38 (fun _ z => z) rfl dX5_bestPush_55 ?_
              refine lv_iload hx hb dX5_bestPush_58 (lv_at hl 4 rfl) ?_
              refine lv_iload hx hb dX5_bestPush_60 (lv_at hl 5 rfl) ?_
              refine lv_bipush (v := 45) hx hb dX5_bestPush_62 (by decide) ?_
              refine lv_isub hx hb dX5_bestPush_64 ?_
              obtain ⟨g65, h⟩ := k_guard h
              refine va_iast hx hb hK hP hD hS 8 0 rfl rfl g65 dX5_bestPush_65 (fun H locs hP hD hS => ?_)
              replace hP : va_P D vwCl (Wd16 cI cM aN aW aM aK nS.1 nS.2.1 nS.2.2.1 nS.2.2.2.1 nS.2.2.2.2.1 nS.2.2.2.2.2.1 nS.2.2.2.2.2.2.1 nS.2.2.2.2.2.2.2.1 nS.2.2.2.2.2.2.2.2.1 nS.2.2.2.2.2.2.2.2.2.1 r48.1 r48.2.1 r48.2.2.1 r48.2.2.2.1 r48.2.2.2.2.1 r48.2.2.2.2.2.1 mS.2.2.2.2.2.2.1 r48.2.2.2.2.2.2.1 r48.2.2.2.2.2.2.2.1 (upd r48.2.2.2.2.2.2.2.2 y4.toNatClampNeg (y5 - 45))) H := hP
              replace hD : va_D A (Wd16 cI cM aN aW aM aK nS.1 nS.2.1 nS.2.2.1 nS.2.2.2.1 nS.2.2.2.2.1 nS.2.2.2.2.2.1 nS.2.2.2.2.2.2.1 nS.2.2.2.2.2.2.2.1 nS.2.2.2.2.2.2.2.2.1 nS.2.2.2.2.2.2.2.2.2.1 r48.1 r48.2.1 r48.2.2.1 r48.2.2.2.1 r48.2.2.2.2.1 r48.2.2.2.2.2.1 mS.2.2.2.2.2.2.1 r48.2.2.2.2.2.2.1 r48.2.2.2.2.2.2.2.1 (upd r48.2.2.2.2.2.2.2.2 y4.toNatClampNeg (y5 - 45))) := hD
              refine lv_aload_n hx hb dX5_bestPush_66 rfl (lv_at hl 0 rfl) ?_
              refine va_get (D := D) (ci := 5) (v := .ref (aM 0)) (C := RX5) (T := TX5) (N := 5) hx hb hts hiX5 hown hK hP 0 rfl rfl 1 (by decide) hf25 (fun _ z => z) rfl dX5_bestPush_67 ?_
              refine lv_iload_n hx hb dX5_bestPush_70 rfl (lv_at hl 1 rfl) ?_
              obtain ⟨r71, g71, h⟩ := k_bind h
              refine k_callV (As := [.int x1]) (rest := []) (st1 := [.int r71.1]) (ws2 := (Wd16 cI cM aN aW aM aK nS.1 nS.2.1 nS.2.2.1 nS.2.2.2.1 nS.2.2.2.2.1 nS.2.2.2.2.2.1 nS.2.2.2.2.2.2.1 nS.2.2.2.2.2.2.2.1 nS.2.2.2.2.2.2.2.2.1 nS.2.2.2.2.2.2.2.2.2.1 r48.1 r48.2.1 r71.2.1 r71.2.2.1 r71.2.2.2.1 r71.2.2.2.2.1 r71.2.2.2.2.2.1 r48.2.2.2.2.2.2.1 r48.2.2.2.2.2.2.2.1 r71.2.2.2.2.2.2)) hx hb hml hown hts hK hN hA hP hD hS hl (c_City_passDays l D cI cM cS cJ aM aK H.size x1 r48.1 r48.2.1 r48.2.2.1 r48.2.2.2.1 r48.2.2.2.2.1 r48.2.2.2.2.2.1 mS.2.2.2.2.2.2.1 r48.2.2.2.2.2.2.1 r48.2.2.2.2.2.2.2.1 (upd r48.2.2.2.2.2.2.2.2 y4.toNatClampNeg (y5 - 45)) g71) gX5_bestPush_X2_passDays rfl kdV_X2_passDays 0 2 rfl rfl rfl [5, 6, 7, 8, 9, 10, 11, 12, 13, 14, 15, 16, 17] ⟨rfl, rfl⟩ ⟨Nat.le_of_ble_eq_true rfl, Nat.le_of_ble_eq_true rfl⟩ ⟨Nat.zero_le _, Nat.zero_le _⟩ rfl rfl (by decide +kernel) rfl rfl rfl (Nat.le_of_ble_eq_true rfl) dX5_bestPush_71 rfl (fun H locs hP hD hS => ?_)
              refine lv_pop hx hb dX5_bestPush_74 rfl ?_
              refine lv_aload_n hx hb dX5_bestPush_75 rfl (lv_at hl 0 rfl) ?_
              refine va_get (D := D) (ci := 5) (v := .ref (aM 0)) (C := RX5) (T := TX5) (N := 5) hx hb hts hiX5 hown hK hP 0 rfl rfl 1 (by decide) hf25 (fun _ z => z) rfl dX5_bestPush_76 ?_
              obtain ⟨r79, g79, h⟩ := k_bind h
              refine k_callV (As := []) (rest := []) (st1 := [.int r79]) (ws2 := (Wd16 cI cM aN aW aM aK nS.1 nS.2.1 nS.2.2.1 nS.2.2.2.1 nS.2.2.2.2.1 nS.2.2.2.2.2.1 nS.2.2.2.2.2.2.1 nS.2.2.2.2.2.2.2.1 nS.2.2.2.2.2.2.2.2.1 nS.2.2.2.2.2.2.2.2.2.1 r48.1 r48.2.1 r71.2.1 r71.2.2.1 r71.2.2.2.1 r71.2.2.2.2.1 r71.2.2.2.2.2.1 r48.2.2.2.2.2.2.1 r48.2.2.2.2.2.2.2.1 r71.2.2.2.2.2.2)) hx hb hml hown hts hK hN hA hP hD hS hl (c_City_upright l D cI cM cS cJ aM aK H.size r48.1 r48.2.1 r71.2.1 r71.2.2.1 r71.2.2.2.1 r71.2.2.2.2.1 r71.2.2.2.2.2.1 r48.2.2.2.2.2.2.1 r48.2.2.2.2.2.2.2.1 r71.2.2.2.2.2.2 g79) gX5_bestPush_X2_upright rfl kdV_X2_upright 0 2 rfl rfl rfl [5, 6, 7, 8, 9, 10, 11, 12, 13, 14, 15, 16, 17] ⟨rfl, rfl⟩ ⟨Nat.le_of_ble_eq_true rfl, Nat.le_of_ble_eq_true rfl⟩ ⟨Nat.zero_le _, Nat.zero_le _⟩ rfl rfl (by decide +kernel) rfl rfl rfl (Nat.le_of_ble_eq_true rfl) dX5_bestPush_79 rfl (fun H locs hP hD hS => ?_)
              refine k_callS (As := [.int r79]) (rest := []) (st1 := [.int (S_J_bitCount r79)]) (ws2 := (Wd16 cI cM aN aW aM aK nS.1 nS.2.1 nS.2.2.1 nS.2.2.2.1 nS.2.2.2.2.1 nS.2.2.2.2.2.1 nS.2.2.2.2.2.2.1 nS.2.2.2.2.2.2.2.1 nS.2.2.2.2.2.2.2.2.1 nS.2.2.2.2.2.2.2.2.2.1 r48.1 r48.2.1 r71.2.1 r71.2.2.1 r71.2.2.2.1 r71.2.2.2.2.1 r71.2.2.2.2.2.1 r48.2.2.2.2.2.2.1 r48.2.2.2.2.2.2.2.1 r71.2.2.2.2.2.2)) hx hb hml hown hts hK hN hA hP hD hS hl (c_J_bitCount l D cI cM cS cJ H.size r79 rfl) gX5_bestPush_J6_bitCount_0f7a4 rfl kdS_J6_bitCount_0f7a4 [] ⟨rfl, rfl⟩ ⟨Nat.le_of_ble_eq_true rfl, Nat.le_of_ble_eq_true rfl⟩ ⟨Nat.zero_le _, Nat.zero_le _⟩ rfl rfl (by decide +kernel) rfl rfl rfl (Nat.le_of_ble_eq_true rfl) dX5_bestPush_82 rfl (fun H locs hP hD hS => ?_)
              refine lv_istore (lv' := [(6, .int (S_J_bitCount r79)), (0, .ref (aW 0)), (1, .int x1), (2, .int y2), (3, .int y3), (4, .int y4), (5, .int y5)]) hx hb dX5_bestPush_85 hl (by decide) rfl (fun ls hl => ?_)
              refine lv_iload hx hb dX5_bestPush_87 (lv_at hl 0 rfl) ?_
              refine lv_iload_n hx hb dX5_bestPush_89 rfl (lv_at hl 4 rfl) ?_
              refine lv_icmp_le (tgt := 105) hx hb dX5_bestPush_90 (by decide) (fun c90 => ?_) (fun c90 => ?_)
              · have h := k_pos c90 h
                refine lv_iinc (v := (y5 + 1)) (lv' := [(5, .int (y5 + 1)), (6, .int (S_J_bitCount r79)), (0, .ref (aW 0)), (1, .int x1), (2, .int y2), (3, .int y3), (4, .int y4)]) hx hb dX5_bestPush_105 hl (k := 6) rfl (by first | rfl | decide) (by decide) rfl (fun ls hl => ?_)
                refine lv_goto (tgt := 33) hx hb dX5_bestPush_108 (by decide) ?_
                exact ih33 y2 y3 (y5 + 1) (r48.1, r48.2.1, r71.2.1, r71.2.2.1, r71.2.2.2.1, r71.2.2.2.2.1, r71.2.2.2.2.2.1, r48.2.2.2.2.2.2.1, r48.2.2.2.2.2.2.2.1, r71.2.2.2.2.2.2, mS.2.2.2.2.2.2.2.2.2.2) H locs ls hP hD hS (lv_sub hl [2, 3, 4, 5, 6, 0] rfl) h
              · have h := k_neg c90 h
                refine lv_iload hx hb dX5_bestPush_93 (lv_at hl 0 rfl) ?_
                refine lv_istore_n (lv' := [(3, .int (S_J_bitCount r79)), (6, .int (S_J_bitCount r79)), (0, .ref (aW 0)), (1, .int x1), (2, .int y2), (4, .int y4), (5, .int y5)]) hx hb dX5_bestPush_95 rfl hl (by decide) rfl (fun ls hl => ?_)
                refine lv_bipush (v := 100) hx hb dX5_bestPush_96 (by decide) ?_
                refine lv_iload hx hb dX5_bestPush_98 (lv_at hl 5 rfl) ?_
                refine lv_imul hx hb dX5_bestPush_100 ?_
                refine lv_iload hx hb dX5_bestPush_101 (lv_at hl 6 rfl) ?_
                refine lv_iadd hx hb dX5_bestPush_103 ?_
                refine lv_istore_n (lv' := [(2, .int (((100 : Int32) * y4) + y5)), (3, .int (S_J_bitCount r79)), (6, .int (S_J_bitCount r79)), (0, .ref (aW 0)), (1, .int x1), (4, .int y4), (5, .int y5)]) hx hb dX5_bestPush_104 rfl hl (by decide) rfl (fun ls hl => ?_)
                refine lv_iinc (v := (y5 + 1)) (lv' := [(5, .int (y5 + 1)), (2, .int (((100 : Int32) * y4) + y5)), (3, .int (S_J_bitCount r79)), (6, .int (S_J_bitCount r79)), (0, .ref (aW 0)), (1, .int x1), (4, .int y4)]) hx hb dX5_bestPush_105 hl (k := 6) rfl (by first | rfl | decide) (by decide) rfl (fun ls hl => ?_)
                refine lv_goto (tgt := 33) hx hb dX5_bestPush_108 (by decide) ?_
                exact ih33 (((100 : Int32) * y4) + y5) (S_J_bitCount r79) (y5 + 1) (r48.1, r48.2.1, r71.2.1, r71.2.2.1, r71.2.2.2.1, r71.2.2.2.2.1, r71.2.2.2.2.2.1, r48.2.2.2.2.2.2.1, r48.2.2.2.2.2.2.2.1, r71.2.2.2.2.2.2, mS.2.2.2.2.2.2.2.2.2.2) H locs ls hP hD hS (lv_sub hl [4, 5, 1, 2, 6, 0] rfl) h
        refine lv_istore (lv' := [(5, .int 0), (0, .ref (aW 0)), (1, .int x1), (2, .int y2), (3, .int y3), (4, .int y4)]) hx hb dX5_bestPush_31 hl (by decide) rfl (fun ls hl => ?_)
        exact B33 y4 lfu y2 y3 0 mS H locs ls hP hD hS (lv_sub hl [1, 2, 3, 4, 5, 0] rfl) h
  refine lv_istore (lv' := [(4, .int 0), (3, .int (S_J_bitCount r8)), (2, .int (-4)), (0, .ref (aW 0)), (1, .int x1)]) hx hb dX5_bestPush_16 hl (by decide) rfl (fun ls hl => ?_)
  exact B18 lfu (-4) (S_J_bitCount r8) 0 r5 H locs ls hP hD hS (lv_sub hl [3, 4, 2, 1, 0] rfl) h
abbrev Wd19 (cI : ClassId) (cM : ClassId) (aD : Nat → Nat) (aN : Nat → Nat) (aW : Nat → Nat) (aM : Nat → Nat) (aK : Nat → Nat) (m_men : Int32) (m_propped : Int32) (m_place : Int32) (m_swings : Int32) (m_crashes : Int32) (m_day : Int32) (m_crashedToday : Int32) (m_kind : Nat → Int32) (m_figure : Nat → Int32) (m_lean : Nat → Int32) (d_kind : Int32) (d_figure : Int32) (d_sort : Int32) (d_size : Int32) (d_held : Int32) (d_el : Nat → Int32) : va_W := [((aW 0), .inr (5, [.ref (aN 0), .ref (aM 0), .ref (aW 1), .ref (aW 2), .ref (aW 3)])), ((aM 0), .inr (2, [.ref (aM 1), .ref (aM 2), .ref (aM 3), .int m_men, .int m_propped, .int m_place, .int m_swings, .int m_crashes, .int m_day, .int m_crashedToday, .ref (aK 8), .ref (aM 4)])), ((aM 1), .inl (cI, 8, .inl m_kind)), ((aM 2), .inl (cI, 8, .inl m_figure)), ((aM 3), .inl (cI, 8, .inl m_lean)), ((aD 0), .inr (9, [.ref (aD 1), .int d_kind, .int d_figure, .int d_sort, .int d_size, .int d_held, .ref (aK 8)])), ((aD 1), .inl (cI, 100, .inl d_el)), ((aK 8), .inl (cM, 8, .inr (.inr (.inr (.inr (fun k => some (aK k))))))), ((aK 0), .inr (4, [])), ((aK 1), .inr (0, [])), ((aK 2), .inr (7, [])), ((aK 3), .inr (3, [])), ((aK 4), .inr (1, [])), ((aK 5), .inr (8, [])), ((aK 6), .inr (10, [])), ((aK 7), .inr (6, []))]
theorem kdV_X9_agrees : yX9_agrees.cls = RX9 ∧ yX9_agrees.cls ≠ "java/lang/invoke/MethodHandle" ∧ yX9_agrees.cls ≠ "java/lang/invoke/VarHandle" ∧ (parseMethodDescriptor yX9_agrees.desc).map (fun d => d.parameters.length) = some 2 := by decide +kernel
abbrev rm_X5_leansAsTold : Room := { frames := 4, cells := 0, slots := 0, locals := 105 }
set_option maxHeartbeats 4000000 in
set_option maxRecDepth 100000 in
theorem c_Mind_leansAsTold (l : Launch) (D : va_G) (cI cM cS cJ : ClassId) (aD : Nat → Nat) (aN : Nat → Nat) (aW : Nat → Nat) (aM : Nat → Nat) (aK : Nat → Nat) (sz : Nat) (x1 : Int32) (mS : CS) (d_kind : Int32) (d_figure : Int32) (d_sort : Int32) (d_size : Int32) (d_held : Int32) (d_el : Nat → Int32) {o : (Int32) × (CS)} (hsem : S_Mind_leansAsTold x1 mS d_sort d_size d_el = some o) : kMet l yX5_leansAsTold wsX5_leansAsTold rm_X5_leansAsTold [.ref (aW 0), .int x1, .ref (aD 0)] D (kT cI cM cS cJ) (Wd19 cI cM aD aN aW aM aK mS.1 mS.2.1 mS.2.2.1 mS.2.2.2.1 mS.2.2.2.2.1 mS.2.2.2.2.2.1 mS.2.2.2.2.2.2.1 mS.2.2.2.2.2.2.2.1 mS.2.2.2.2.2.2.2.2.1 mS.2.2.2.2.2.2.2.2.2.1 d_kind d_figure d_sort d_size d_held d_el) sz (some (.int o.1)) (Wd19 cI cM aD aN aW aM aK o.2.1 o.2.2.1 o.2.2.2.1 o.2.2.2.2.1 o.2.2.2.2.2.1 o.2.2.2.2.2.2.1 o.2.2.2.2.2.2.2.1 o.2.2.2.2.2.2.2.2.1 o.2.2.2.2.2.2.2.2.2.1 o.2.2.2.2.2.2.2.2.2.2.1 d_kind d_figure d_sort d_size d_held d_el) := by
  refine k_metZ (by decide) rfl rfl (Nat.le_of_ble_eq_true rfl) ?_
  intro p e s m below meth c ls Q A hx hb hml hts hown hK hN hA hP hD hS hl hsz hnm hret
  have hown : s.vm.findClass RX5 = some m.cls := hown
  have hf95 := hts (.fieldLink RX5 95 "PlumbLine$Shelf" "size" "I") (List.mem_of_getElem? (i := 1) rfl)
  have hf25 := hts (.fieldLink RX5 25 "PlumbLine$Mind" "then" "LPlumbLine$City;") (List.mem_of_getElem? (i := 2) rfl)
  have hf38 := hts (.fieldLink RX5 38 "PlumbLine$City" "lean" "[I") (List.mem_of_getElem? (i := 3) rfl)
  have hiX2 : ∀ w ∈ u_ws RX2 TX2 12, w ∈ wsX5_leansAsTold := fun w h => List.mem_cons_of_mem _ (List.mem_append_right _ h)
  have hiX5 : ∀ w ∈ u_ws RX5 TX5 5, w ∈ wsX5_leansAsTold := fun w h => List.mem_cons_of_mem _ (List.mem_append_left _ (List.mem_append_right _ h))
  have hiX9 : ∀ w ∈ u_ws RX9 TX9 7, w ∈ wsX5_leansAsTold := fun w h => List.mem_cons_of_mem _ (List.mem_append_left _ (List.mem_append_left _ (List.mem_append_right _ h)))
  replace hl : lv_has ls 4 [(0, .ref (aW 0)), (1, .int x1), (2, .ref (aD 0))] := hl
  have h := hsem
  clear hsem
  rw [S_Mind_leansAsTold] at h
  refine lv_iconst (v := 0) hx hb dX5_leansAsTold_0 (by decide) ?_
  have B2 : ∀ (n2 : Nat) (y3 : Int32) (mS : CS) (H : Heap) (locs : List Loc) (ls : Array Slot), va_P D vwCl (Wd19 cI cM aD aN aW aM aK mS.1 mS.2.1 mS.2.2.1 mS.2.2.2.1 mS.2.2.2.2.1 mS.2.2.2.2.2.1 mS.2.2.2.2.2.2.1 mS.2.2.2.2.2.2.2.1 mS.2.2.2.2.2.2.2.2.1 mS.2.2.2.2.2.2.2.2.2.1 d_kind d_figure d_sort d_size d_held d_el) H → va_D A (Wd19 cI cM aD aN aW aM aK mS.1 mS.2.1 mS.2.2.1 mS.2.2.2.1 mS.2.2.2.2.1 mS.2.2.2.2.2.1 mS.2.2.2.2.2.2.1 mS.2.2.2.2.2.2.2.1 mS.2.2.2.2.2.2.2.2.1 mS.2.2.2.2.2.2.2.2.2.1 d_kind d_figure d_sort d_size d_held d_el) → va_S A s.heap H locs → lv_has ls 4 [(0, .ref (aW 0)), (1, .int x1), (2, .ref (aD 0)), (3, .int y3)] → S_Mind_leansAsTold_L2 x1 d_sort d_size d_el n2 y3 mS = some o → W p l e rm_X5_leansAsTold s m ([.ref (aW 0), .int x1, .ref (aD 0)] : List Value).toArray below meth c H locs 0 0 Q (F0 m 2 ls []) := by
    intro n2
    induction n2 with
    | zero => intro y3 mS H locs ls hP hD hS hl h; exact absurd h (by simp [S_Mind_leansAsTold_L2])
    | succ n2 ih2 =>
      intro y3 mS H locs ls hP hD hS hl h
      rw [S_Mind_leansAsTold_L2] at h
      refine lv_iload_n hx hb dX5_leansAsTold_2 rfl (lv_at hl 3 rfl) ?_
      refine lv_aload_n hx hb dX5_leansAsTold_3 rfl (lv_at hl 2 rfl) ?_
      refine va_get (D := D) (ci := 9) (v := .int d_size) (C := RX9) (T := TX9) (N := 7) hx hb hts hiX9 hown hK hP 5 rfl rfl 4 (by decide) hf95 (fun _ z => z) rfl dX5_leansAsTold_4 ?_
      refine lv_icmp_ge (tgt := 42) hx hb dX5_leansAsTold_7 (by decide) (fun c7 => ?_) (fun c7 => ?_)
      · have h := k_pos c7 h
        refine lv_iconst (v := 1) hx hb dX5_leansAsTold_42 (by decide) ?_
        cases h
        exact hret _ _ _ _ rfl hP hS dX5_leansAsTold_43
      · have h := k_neg c7 h
        refine lv_aload_n hx hb dX5_leansAsTold_10 rfl (lv_at hl 2 rfl) ?_
        refine lv_iload_n hx hb dX5_leansAsTold_11 rfl (lv_at hl 3 rfl) ?_
        refine lv_aload_n hx hb dX5_leansAsTold_12 rfl (lv_at hl 0 rfl) ?_
        refine va_get (D := D) (ci := 5) (v := .ref (aM 0)) (C := RX5) (T := TX5) (N := 5) hx hb hts hiX5 hown hK hP 0 rfl rfl 1 (by decide) hf25 (fun _ z => z) rfl dX5_leansAsTold_13 ?_
        refine va_get (D := D) (ci := 2) (v := .ref (aM 3)) (C := RX2) (T := TX2) (N := 12) hx hb hts hiX2 hown hK hP 1 rfl rfl 2 (by decide) hf38 (fun _ z => z) rfl dX5_leansAsTold_16 ?_
        refine lv_iload_n hx hb dX5_leansAsTold_19 rfl (lv_at hl 1 rfl) ?_
        obtain ⟨g20, h⟩ := k_guard h
        refine va_iald hx hb hK hP 4 0 rfl rfl g20 dX5_leansAsTold_20 ?_
        obtain ⟨r21, g21, h⟩ := k_bind h
        refine k_callV (As := [.int y3, .int (mS.2.2.2.2.2.2.2.2.2.1 x1.toNatClampNeg)]) (rest := []) (st1 := [.int r21]) (ws2 := (Wd19 cI cM aD aN aW aM aK mS.1 mS.2.1 mS.2.2.1 mS.2.2.2.1 mS.2.2.2.2.1 mS.2.2.2.2.2.1 mS.2.2.2.2.2.2.1 mS.2.2.2.2.2.2.2.1 mS.2.2.2.2.2.2.2.2.1 mS.2.2.2.2.2.2.2.2.2.1 d_kind d_figure d_sort d_size d_held d_el)) hx hb hml hown hts hK hN hA hP hD hS hl (c_Shelf_agrees l D cI cM cS cJ aD aK H.size y3 (mS.2.2.2.2.2.2.2.2.2.1 x1.toNatClampNeg) d_kind d_figure d_sort d_size d_held d_el g21) gX5_leansAsTold_X9_agrees rfl kdV_X9_agrees 0 9 rfl rfl rfl [5, 6] ⟨rfl, rfl⟩ ⟨Nat.le_of_ble_eq_true rfl, Nat.le_of_ble_eq_true rfl⟩ ⟨Nat.zero_le _, Nat.zero_le _⟩ rfl rfl (by decide +kernel) rfl rfl rfl (Nat.le_of_ble_eq_true rfl) dX5_leansAsTold_21 rfl (fun H locs hP hD hS => ?_)
        refine lv_if_ne (tgt := 29) hx hb dX5_leansAsTold_24 (by decide) (fun c24 => ?_) (fun c24 => ?_)
        · have h := k_neg c24 h
          refine lv_aload_n hx hb dX5_leansAsTold_29 rfl (lv_at hl 0 rfl) ?_
          refine va_get (D := D) (ci := 5) (v := .ref (aM 0)) (C := RX5) (T := TX5) (N := 5) hx hb hts hiX5 hown hK hP 0 rfl rfl 1 (by decide) hf25 (fun _ z => z) rfl dX5_leansAsTold_30 ?_
          obtain ⟨r33, g33, h⟩ := k_bind h
          refine k_callV (As := []) (rest := []) (st1 := []) (ws2 := (Wd19 cI cM aD aN aW aM aK mS.1 mS.2.1 r33.1 r33.2.1 r33.2.2.1 r33.2.2.2.1 r33.2.2.2.2.1 mS.2.2.2.2.2.2.2.1 mS.2.2.2.2.2.2.2.2.1 r33.2.2.2.2.2 d_kind d_figure d_sort d_size d_held d_el)) hx hb hml hown hts hK hN hA hP hD hS hl (c_City_passDay l D cI cM cS cJ aM aK H.size mS.1 mS.2.1 mS.2.2.1 mS.2.2.2.1 mS.2.2.2.2.1 mS.2.2.2.2.2.1 mS.2.2.2.2.2.2.1 mS.2.2.2.2.2.2.2.1 mS.2.2.2.2.2.2.2.2.1 mS.2.2.2.2.2.2.2.2.2.1 g33) gX5_leansAsTold_X2_passDay rfl kdV_X2_passDay 0 2 rfl rfl rfl [1, 2, 3, 4, 7, 8, 9, 10, 11, 12, 13, 14, 15] ⟨rfl, rfl⟩ ⟨Nat.le_of_ble_eq_true rfl, Nat.le_of_ble_eq_true rfl⟩ ⟨Nat.zero_le _, Nat.zero_le _⟩ rfl rfl (by decide +kernel) rfl rfl rfl (Nat.le_of_ble_eq_true rfl) dX5_leansAsTold_33 rfl (fun H locs hP hD hS => ?_)
          refine lv_iinc (v := (y3 + 1)) (lv' := [(3, .int (y3 + 1)), (0, .ref (aW 0)), (1, .int x1), (2, .ref (aD 0))]) hx hb dX5_leansAsTold_36 hl (k := 3) rfl (by first | rfl | decide) (by decide) rfl (fun ls hl => ?_)
          refine lv_goto (tgt := 2) hx hb dX5_leansAsTold_39 (by decide) ?_
          exact ih2 (y3 + 1) (mS.1, mS.2.1, r33.1, r33.2.1, r33.2.2.1, r33.2.2.2.1, r33.2.2.2.2.1, mS.2.2.2.2.2.2.2.1, mS.2.2.2.2.2.2.2.2.1, r33.2.2.2.2.2, mS.2.2.2.2.2.2.2.2.2.2) H locs ls hP hD hS (lv_sub hl [1, 2, 3, 0] rfl) h
        · have h := k_pos c24 h
          refine lv_iconst (v := 0) hx hb dX5_leansAsTold_27 (by decide) ?_
          cases h
          exact hret _ _ _ _ rfl hP hS dX5_leansAsTold_28
  refine lv_istore_n (lv' := [(3, .int 0), (0, .ref (aW 0)), (1, .int x1), (2, .ref (aD 0))]) hx hb dX5_leansAsTold_1 rfl hl (by decide) rfl (fun ls hl => ?_)
  exact B2 lfu 0 mS s.heap [] ls hP hD hS (lv_sub hl [1, 2, 3, 0] rfl) h
abbrev Wd20 (cI : ClassId) (cM : ClassId) (aD : Nat → Nat) (aN : Nat → Nat) (aW : Nat → Nat) (aM : Nat → Nat) (aK : Nat → Nat) (n_men : Int32) (n_propped : Int32) (n_place : Int32) (n_swings : Int32) (n_crashes : Int32) (n_day : Int32) (n_crashedToday : Int32) (n_kind : Nat → Int32) (n_figure : Nat → Int32) (n_lean : Nat → Int32) (m_men : Int32) (m_propped : Int32) (m_place : Int32) (m_swings : Int32) (m_crashes : Int32) (m_day : Int32) (m_crashedToday : Int32) (m_kind : Nat → Int32) (m_figure : Nat → Int32) (m_lean : Nat → Int32) (d_kind : Int32) (d_figure : Int32) (d_sort : Int32) (d_size : Int32) (d_held : Int32) (d_el : Nat → Int32) : va_W := [((aW 0), .inr (5, [.ref (aN 0), .ref (aM 0), .ref (aW 1), .ref (aW 2), .ref (aW 3)])), ((aN 0), .inr (2, [.ref (aN 1), .ref (aN 2), .ref (aN 3), .int n_men, .int n_propped, .int n_place, .int n_swings, .int n_crashes, .int n_day, .int n_crashedToday, .ref (aK 8), .ref (aN 4)])), ((aN 1), .inl (cI, 8, .inl n_kind)), ((aN 2), .inl (cI, 8, .inl n_figure)), ((aN 3), .inl (cI, 8, .inl n_lean)), ((aM 0), .inr (2, [.ref (aM 1), .ref (aM 2), .ref (aM 3), .int m_men, .int m_propped, .int m_place, .int m_swings, .int m_crashes, .int m_day, .int m_crashedToday, .ref (aK 8), .ref (aM 4)])), ((aM 1), .inl (cI, 8, .inl m_kind)), ((aM 2), .inl (cI, 8, .inl m_figure)), ((aM 3), .inl (cI, 8, .inl m_lean)), ((aD 0), .inr (9, [.ref (aD 1), .int d_kind, .int d_figure, .int d_sort, .int d_size, .int d_held, .ref (aK 8)])), ((aD 1), .inl (cI, 100, .inl d_el)), ((aK 8), .inl (cM, 8, .inr (.inr (.inr (.inr (fun k => some (aK k))))))), ((aK 0), .inr (4, [])), ((aK 1), .inr (0, [])), ((aK 2), .inr (7, [])), ((aK 3), .inr (3, [])), ((aK 4), .inr (1, [])), ((aK 5), .inr (8, [])), ((aK 6), .inr (10, [])), ((aK 7), .inr (6, []))]
theorem kdV_X5_leansAsTold : yX5_leansAsTold.cls = RX5 ∧ yX5_leansAsTold.cls ≠ "java/lang/invoke/MethodHandle" ∧ yX5_leansAsTold.cls ≠ "java/lang/invoke/VarHandle" ∧ (parseMethodDescriptor yX5_leansAsTold.desc).map (fun d => d.parameters.length) = some 2 := by decide +kernel
abbrev rm_X5_kindsThatDid : Room := { frames := 5, cells := 0, slots := 0, locals := 128 }
set_option maxHeartbeats 4000000 in
set_option maxRecDepth 100000 in
theorem c_Mind_kindsThatDid (l : Launch) (D : va_G) (cI cM cS cJ : ClassId) (aD : Nat → Nat) (aN : Nat → Nat) (aW : Nat → Nat) (aM : Nat → Nat) (aK : Nat → Nat) (sz : Nat) (x1 : Int32) (nS : CS) (mS : CS) (d_kind : Int32) (d_figure : Int32) (d_sort : Int32) (d_size : Int32) (d_held : Int32) (d_el : Nat → Int32) {o : (Int32) × (CS)} (hsem : S_Mind_kindsThatDid x1 nS mS d_sort d_size d_el = some o) : kMet l yX5_kindsThatDid wsX5_kindsThatDid rm_X5_kindsThatDid [.ref (aW 0), .int x1, .ref (aD 0)] D (kT cI cM cS cJ) (Wd20 cI cM aD aN aW aM aK nS.1 nS.2.1 nS.2.2.1 nS.2.2.2.1 nS.2.2.2.2.1 nS.2.2.2.2.2.1 nS.2.2.2.2.2.2.1 nS.2.2.2.2.2.2.2.1 nS.2.2.2.2.2.2.2.2.1 nS.2.2.2.2.2.2.2.2.2.1 mS.1 mS.2.1 mS.2.2.1 mS.2.2.2.1 mS.2.2.2.2.1 mS.2.2.2.2.2.1 mS.2.2.2.2.2.2.1 mS.2.2.2.2.2.2.2.1 mS.2.2.2.2.2.2.2.2.1 mS.2.2.2.2.2.2.2.2.2.1 d_kind d_figure d_sort d_size d_held d_el) sz (some (.int o.1)) (Wd20 cI cM aD aN aW aM aK nS.1 nS.2.1 nS.2.2.1 nS.2.2.2.1 nS.2.2.2.2.1 nS.2.2.2.2.2.1 nS.2.2.2.2.2.2.1 nS.2.2.2.2.2.2.2.1 nS.2.2.2.2.2.2.2.2.1 nS.2.2.2.2.2.2.2.2.2.1 o.2.1 o.2.2.1 o.2.2.2.1 o.2.2.2.2.1 o.2.2.2.2.2.1 o.2.2.2.2.2.2.1 o.2.2.2.2.2.2.2.1 o.2.2.2.2.2.2.2.2.1 o.2.2.2.2.2.2.2.2.2.1 o.2.2.2.2.2.2.2.2.2.2.1 d_kind d_figure d_sort d_size d_held d_el) := by
  refine k_metI (by decide) rfl rfl (Nat.le_of_ble_eq_true rfl) ?_
  intro p e s m below meth c ls Q A hx hb hml hts hown hK hN hA hP hD hS hl hsz hnm hret
  have hown : s.vm.findClass RX5 = some m.cls := hown
  have hf25 := hts (.fieldLink RX5 25 "PlumbLine$Mind" "then" "LPlumbLine$City;") (List.mem_of_getElem? (i := 1) rfl)
  have hf21 := hts (.fieldLink RX5 21 "PlumbLine$Mind" "now" "LPlumbLine$City;") (List.mem_of_getElem? (i := 2) rfl)
  have hf85 := hts (.fieldLink RX5 85 "PlumbLine$City" "kind" "[I") (List.mem_of_getElem? (i := 3) rfl)
  have hiX2 : ∀ w ∈ u_ws RX2 TX2 12, w ∈ wsX5_kindsThatDid := fun w h => List.mem_cons_of_mem _ (List.mem_append_left _ (List.mem_append_right _ h))
  have hiX5 : ∀ w ∈ u_ws RX5 TX5 5, w ∈ wsX5_kindsThatDid := fun w h => List.mem_cons_of_mem _ (List.mem_append_left _ (List.mem_append_left _ (List.mem_append_right _ h)))
  replace hl : lv_has ls 5 [(0, .ref (aW 0)), (1, .int x1), (2, .ref (aD 0))] := hl
  have h := hsem
  clear hsem
  rw [S_Mind_kindsThatDid] at h
  refine lv_iconst (v := 0) hx hb dX5_kindsThatDid_0 (by decide) ?_
  refine lv_istore_n (lv' := [(3, .int 0), (0, .ref (aW 0)), (1, .int x1), (2, .ref (aD 0))]) hx hb dX5_kindsThatDid_1 rfl hl (by decide) rfl (fun ls hl => ?_)
  refine lv_iconst (v := 0) hx hb dX5_kindsThatDid_2 (by decide) ?_
  have B5 : ∀ (n5 : Nat) (y3 : Int32) (y4 : Int32) (mS : CS) (H : Heap) (locs : List Loc) (ls : Array Slot), va_P D vwCl (Wd20 cI cM aD aN aW aM aK nS.1 nS.2.1 nS.2.2.1 nS.2.2.2.1 nS.2.2.2.2.1 nS.2.2.2.2.2.1 nS.2.2.2.2.2.2.1 nS.2.2.2.2.2.2.2.1 nS.2.2.2.2.2.2.2.2.1 nS.2.2.2.2.2.2.2.2.2.1 mS.1 mS.2.1 mS.2.2.1 mS.2.2.2.1 mS.2.2.2.2.1 mS.2.2.2.2.2.1 mS.2.2.2.2.2.2.1 mS.2.2.2.2.2.2.2.1 mS.2.2.2.2.2.2.2.2.1 mS.2.2.2.2.2.2.2.2.2.1 d_kind d_figure d_sort d_size d_held d_el) H → va_D A (Wd20 cI cM aD aN aW aM aK nS.1 nS.2.1 nS.2.2.1 nS.2.2.2.1 nS.2.2.2.2.1 nS.2.2.2.2.2.1 nS.2.2.2.2.2.2.1 nS.2.2.2.2.2.2.2.1 nS.2.2.2.2.2.2.2.2.1 nS.2.2.2.2.2.2.2.2.2.1 mS.1 mS.2.1 mS.2.2.1 mS.2.2.2.1 mS.2.2.2.2.1 mS.2.2.2.2.2.1 mS.2.2.2.2.2.2.1 mS.2.2.2.2.2.2.2.1 mS.2.2.2.2.2.2.2.2.1 mS.2.2.2.2.2.2.2.2.2.1 d_kind d_figure d_sort d_size d_held d_el) → va_S A s.heap H locs → lv_has ls 5 [(0, .ref (aW 0)), (1, .int x1), (2, .ref (aD 0)), (3, .int y3), (4, .int y4)] → S_Mind_kindsThatDid_L5 x1 nS d_sort d_size d_el n5 y3 y4 mS = some o → W p l e rm_X5_kindsThatDid s m ([.ref (aW 0), .int x1, .ref (aD 0)] : List Value).toArray below meth c H locs 0 0 Q (F0 m 5 ls []) := by
    intro n5
    induction n5 with
    | zero => intro y3 y4 mS H locs ls hP hD hS hl h; exact absurd h (by simp [S_Mind_kindsThatDid_L5])
    | succ n5 ih5 =>
      intro y3 y4 mS H locs ls hP hD hS hl h
      rw [S_Mind_kindsThatDid_L5] at h
      refine lv_iload hx hb dX5_kindsThatDid_5 (lv_at hl 4 rfl) ?_
      refine lv_bipush (v := 8) hx hb dX5_kindsThatDid_7 (by decide) ?_
      refine lv_icmp_ge (tgt := 56) hx hb dX5_kindsThatDid_9 (by decide) (fun c9 => ?_) (fun c9 => ?_)
      · have h := k_pos c9 h
        refine lv_iload_n hx hb dX5_kindsThatDid_56 rfl (lv_at hl 3 rfl) ?_
        cases h
        exact hret _ _ _ _ hP hS dX5_kindsThatDid_57
      · have h := k_neg c9 h
        refine lv_aload_n hx hb dX5_kindsThatDid_12 rfl (lv_at hl 0 rfl) ?_
        refine va_get (D := D) (ci := 5) (v := .ref (aM 0)) (C := RX5) (T := TX5) (N := 5) hx hb hts hiX5 hown hK hP 0 rfl rfl 1 (by decide) hf25 (fun _ z => z) rfl dX5_kindsThatDid_13 ?_
        refine lv_aload_n hx hb dX5_kindsThatDid_16 rfl (lv_at hl 0 rfl) ?_
        refine va_get (D := D) (ci := 5) (v := .ref (aN 0)) (C := RX5) (T := TX5) (N := 5) hx hb hts hiX5 hown hK hP 0 rfl rfl 0 (by decide) hf21 (fun _ z => z) rfl dX5_kindsThatDid_17 ?_
        obtain ⟨r20, g20, h⟩ := k_bind h
        refine k_callV (As := [.ref (aN 0)]) (rest := []) (st1 := []) (ws2 := (Wd20 cI cM aD aN aW aM aK nS.1 nS.2.1 nS.2.2.1 nS.2.2.2.1 nS.2.2.2.2.1 nS.2.2.2.2.2.1 nS.2.2.2.2.2.2.1 nS.2.2.2.2.2.2.2.1 nS.2.2.2.2.2.2.2.2.1 nS.2.2.2.2.2.2.2.2.2.1 r20.1 r20.2.1 r20.2.2.1 r20.2.2.2.1 r20.2.2.2.2.1 r20.2.2.2.2.2.1 mS.2.2.2.2.2.2.1 r20.2.2.2.2.2.2.1 r20.2.2.2.2.2.2.2.1 r20.2.2.2.2.2.2.2.2 d_kind d_figure d_sort d_size d_held d_el)) hx hb hml hown hts hK hN hA hP hD hS hl (c_City_becomes l D cI cM cS cJ aM aN aK H.size mS.1 mS.2.1 mS.2.2.1 mS.2.2.2.1 mS.2.2.2.2.1 mS.2.2.2.2.2.1 mS.2.2.2.2.2.2.1 mS.2.2.2.2.2.2.2.1 mS.2.2.2.2.2.2.2.2.1 mS.2.2.2.2.2.2.2.2.2.1 nS.1 nS.2.1 nS.2.2.1 nS.2.2.2.1 nS.2.2.2.2.1 nS.2.2.2.2.2.1 nS.2.2.2.2.2.2.1 nS.2.2.2.2.2.2.2.1 nS.2.2.2.2.2.2.2.2.1 nS.2.2.2.2.2.2.2.2.2.1 g20) gX5_kindsThatDid_X2_becomes rfl kdV_X2_becomes 0 2 rfl rfl rfl [5, 6, 7, 8, 1, 2, 3, 4] ⟨rfl, rfl⟩ ⟨Nat.le_of_ble_eq_true rfl, Nat.le_of_ble_eq_true rfl⟩ ⟨Nat.zero_le _, Nat.zero_le _⟩ rfl rfl (by decide +kernel) rfl rfl rfl (Nat.le_of_ble_eq_true rfl) dX5_kindsThatDid_20 rfl (fun H locs hP hD hS => ?_)
        refine lv_aload_n hx hb dX5_kindsThatDid_23 rfl (lv_at hl 0 rfl) ?_
        refine va_get (D := D) (ci := 5) (v := .ref (aM 0)) (C := RX5) (T := TX5) (N := 5) hx hb hts hiX5 hown hK hP 0 rfl rfl 1 (by decide) hf25 (fun _ z => z) rfl dX5_kindsThatDid_24 ?_
        refine va_get (D := D) (ci := 2) (v := .ref (aM 1)) (C := RX2) (T := TX2) (N := 12) hx hb hts hiX2 hown hK hP 5 rfl rfl 0 (by decide) hf85 (fun _ z => z) rfl dX5_kindsThatDid_27 ?_
        refine lv_iload_n hx hb dX5_kindsThatDid_30 rfl (lv_at hl 1 rfl) ?_
        refine lv_iload hx hb dX5_kindsThatDid_31 (lv_at hl 4 rfl) ?_
        obtain ⟨g33, h⟩ := k_guard h
        refine va_iast hx hb hK hP hD hS 6 0 rfl rfl g33 dX5_kindsThatDid_33 (fun H locs hP hD hS => ?_)
        replace hP : va_P D vwCl (Wd20 cI cM aD aN aW aM aK nS.1 nS.2.1 nS.2.2.1 nS.2.2.2.1 nS.2.2.2.2.1 nS.2.2.2.2.2.1 nS.2.2.2.2.2.2.1 nS.2.2.2.2.2.2.2.1 nS.2.2.2.2.2.2.2.2.1 nS.2.2.2.2.2.2.2.2.2.1 r20.1 r20.2.1 r20.2.2.1 r20.2.2.2.1 r20.2.2.2.2.1 r20.2.2.2.2.2.1 mS.2.2.2.2.2.2.1 (upd r20.2.2.2.2.2.2.1 x1.toNatClampNeg y4) r20.2.2.2.2.2.2.2.1 r20.2.2.2.2.2.2.2.2 d_kind d_figure d_sort d_size d_held d_el) H := hP
        replace hD : va_D A (Wd20 cI cM aD aN aW aM aK nS.1 nS.2.1 nS.2.2.1 nS.2.2.2.1 nS.2.2.2.2.1 nS.2.2.2.2.2.1 nS.2.2.2.2.2.2.1 nS.2.2.2.2.2.2.2.1 nS.2.2.2.2.2.2.2.2.1 nS.2.2.2.2.2.2.2.2.2.1 r20.1 r20.2.1 r20.2.2.1 r20.2.2.2.1 r20.2.2.2.2.1 r20.2.2.2.2.2.1 mS.2.2.2.2.2.2.1 (upd r20.2.2.2.2.2.2.1 x1.toNatClampNeg y4) r20.2.2.2.2.2.2.2.1 r20.2.2.2.2.2.2.2.2 d_kind d_figure d_sort d_size d_held d_el) := hD
        refine lv_aload_n hx hb dX5_kindsThatDid_34 rfl (lv_at hl 0 rfl) ?_
        refine lv_iload_n hx hb dX5_kindsThatDid_35 rfl (lv_at hl 1 rfl) ?_
        refine lv_aload_n hx hb dX5_kindsThatDid_36 rfl (lv_at hl 2 rfl) ?_
        obtain ⟨r37, g37, h⟩ := k_bind h
        refine k_callV (As := [.int x1, .ref (aD 0)]) (rest := []) (st1 := [.int r37.1]) (ws2 := (Wd20 cI cM aD aN aW aM aK nS.1 nS.2.1 nS.2.2.1 nS.2.2.2.1 nS.2.2.2.2.1 nS.2.2.2.2.2.1 nS.2.2.2.2.2.2.1 nS.2.2.2.2.2.2.2.1 nS.2.2.2.2.2.2.2.2.1 nS.2.2.2.2.2.2.2.2.2.1 r37.2.1 r37.2.2.1 r37.2.2.2.1 r37.2.2.2.2.1 r37.2.2.2.2.2.1 r37.2.2.2.2.2.2.1 r37.2.2.2.2.2.2.2.1 r37.2.2.2.2.2.2.2.2.1 r37.2.2.2.2.2.2.2.2.2.1 r37.2.2.2.2.2.2.2.2.2.2.1 d_kind d_figure d_sort d_size d_held d_el)) hx hb hml hown hts hK hN hA hP hD hS hl (c_Mind_leansAsTold l D cI cM cS cJ aD aN aW aM aK H.size x1 (r20.1, r20.2.1, r20.2.2.1, r20.2.2.2.1, r20.2.2.2.2.1, r20.2.2.2.2.2.1, mS.2.2.2.2.2.2.1, (upd r20.2.2.2.2.2.2.1 x1.toNatClampNeg y4), r20.2.2.2.2.2.2.2.1, r20.2.2.2.2.2.2.2.2, mS.2.2.2.2.2.2.2.2.2.2) d_kind d_figure d_sort d_size d_held d_el g37) gX5_kindsThatDid_X5_leansAsTold rfl kdV_X5_leansAsTold 0 5 rfl rfl rfl [0, 5, 6, 7, 8, 9, 10, 11, 12, 13, 14, 15, 16, 17, 18, 19] ⟨rfl, rfl⟩ ⟨Nat.le_of_ble_eq_true rfl, Nat.le_of_ble_eq_true rfl⟩ ⟨Nat.zero_le _, Nat.zero_le _⟩ rfl rfl (by decide +kernel) rfl rfl rfl (Nat.le_of_ble_eq_true rfl) dX5_kindsThatDid_37 rfl (fun H locs hP hD hS => ?_)
        refine lv_if_eq (tgt := 50) hx hb dX5_kindsThatDid_40 (by decide) (fun c40 => ?_) (fun c40 => ?_)
        · have h := k_pos c40 h
          refine lv_iinc (v := (y4 + 1)) (lv' := [(4, .int (y4 + 1)), (0, .ref (aW 0)), (1, .int x1), (2, .ref (aD 0)), (3, .int y3)]) hx hb dX5_kindsThatDid_50 hl (k := 4) rfl (by first | rfl | decide) (by decide) rfl (fun ls hl => ?_)
          refine lv_goto (tgt := 5) hx hb dX5_kindsThatDid_53 (by decide) ?_
          exact ih5 y3 (y4 + 1) r37.2 H locs ls hP hD hS (lv_sub hl [1, 2, 3, 4, 0] rfl) h
        · have h := k_neg c40 h
          refine lv_iload_n hx hb dX5_kindsThatDid_43 rfl (lv_at hl 3 rfl) ?_
          refine lv_iconst (v := 1) hx hb dX5_kindsThatDid_44 (by decide) ?_
          refine lv_iload hx hb dX5_kindsThatDid_45 (lv_at hl 4 rfl) ?_
          refine lv_ishl hx hb dX5_kindsThatDid_47 ?_
          refine lv_ior hx hb dX5_kindsThatDid_48 ?_
          refine lv_istore_n (lv' := [(3, .int (y3 ||| ((1 : Int32) <<< (y4 &&& 31)))), (0, .ref (aW 0)), (1, .int x1), (2, .ref (aD 0)), (4, .int y4)]) hx hb dX5_kindsThatDid_49 rfl hl (by decide) rfl (fun ls hl => ?_)
          refine lv_iinc (v := (y4 + 1)) (lv' := [(4, .int (y4 + 1)), (3, .int (y3 ||| ((1 : Int32) <<< (y4 &&& 31)))), (0, .ref (aW 0)), (1, .int x1), (2, .ref (aD 0))]) hx hb dX5_kindsThatDid_50 hl (k := 4) rfl (by first | rfl | decide) (by decide) rfl (fun ls hl => ?_)
          refine lv_goto (tgt := 5) hx hb dX5_kindsThatDid_53 (by decide) ?_
          exact ih5 (y3 ||| ((1 : Int32) <<< (y4 &&& 31))) (y4 + 1) r37.2 H locs ls hP hD hS (lv_sub hl [2, 3, 4, 1, 0] rfl) h
  refine lv_istore (lv' := [(4, .int 0), (3, .int 0), (0, .ref (aW 0)), (1, .int x1), (2, .ref (aD 0))]) hx hb dX5_kindsThatDid_3 hl (by decide) rfl (fun ls hl => ?_)
  exact B5 lfu 0 0 mS s.heap [] ls hP hD hS (lv_sub hl [2, 3, 4, 1, 0] rfl) h
abbrev rm_X5_figuresThatDid : Room := { frames := 5, cells := 0, slots := 0, locals := 128 }
set_option maxHeartbeats 4000000 in
set_option maxRecDepth 100000 in
theorem c_Mind_figuresThatDid (l : Launch) (D : va_G) (cI cM cS cJ : ClassId) (aD : Nat → Nat) (aN : Nat → Nat) (aW : Nat → Nat) (aM : Nat → Nat) (aK : Nat → Nat) (sz : Nat) (x1 : Int32) (nS : CS) (mS : CS) (d_kind : Int32) (d_figure : Int32) (d_sort : Int32) (d_size : Int32) (d_held : Int32) (d_el : Nat → Int32) {o : (Int32) × (CS)} (hsem : S_Mind_figuresThatDid x1 nS mS d_sort d_size d_el = some o) : kMet l yX5_figuresThatDid wsX5_figuresThatDid rm_X5_figuresThatDid [.ref (aW 0), .int x1, .ref (aD 0)] D (kT cI cM cS cJ) (Wd20 cI cM aD aN aW aM aK nS.1 nS.2.1 nS.2.2.1 nS.2.2.2.1 nS.2.2.2.2.1 nS.2.2.2.2.2.1 nS.2.2.2.2.2.2.1 nS.2.2.2.2.2.2.2.1 nS.2.2.2.2.2.2.2.2.1 nS.2.2.2.2.2.2.2.2.2.1 mS.1 mS.2.1 mS.2.2.1 mS.2.2.2.1 mS.2.2.2.2.1 mS.2.2.2.2.2.1 mS.2.2.2.2.2.2.1 mS.2.2.2.2.2.2.2.1 mS.2.2.2.2.2.2.2.2.1 mS.2.2.2.2.2.2.2.2.2.1 d_kind d_figure d_sort d_size d_held d_el) sz (some (.int o.1)) (Wd20 cI cM aD aN aW aM aK nS.1 nS.2.1 nS.2.2.1 nS.2.2.2.1 nS.2.2.2.2.1 nS.2.2.2.2.2.1 nS.2.2.2.2.2.2.1 nS.2.2.2.2.2.2.2.1 nS.2.2.2.2.2.2.2.2.1 nS.2.2.2.2.2.2.2.2.2.1 o.2.1 o.2.2.1 o.2.2.2.1 o.2.2.2.2.1 o.2.2.2.2.2.1 o.2.2.2.2.2.2.1 o.2.2.2.2.2.2.2.1 o.2.2.2.2.2.2.2.2.1 o.2.2.2.2.2.2.2.2.2.1 o.2.2.2.2.2.2.2.2.2.2.1 d_kind d_figure d_sort d_size d_held d_el) := by
  refine k_metI (by decide) rfl rfl (Nat.le_of_ble_eq_true rfl) ?_
  intro p e s m below meth c ls Q A hx hb hml hts hown hK hN hA hP hD hS hl hsz hnm hret
  have hown : s.vm.findClass RX5 = some m.cls := hown
  have hf25 := hts (.fieldLink RX5 25 "PlumbLine$Mind" "then" "LPlumbLine$City;") (List.mem_of_getElem? (i := 1) rfl)
  have hf21 := hts (.fieldLink RX5 21 "PlumbLine$Mind" "now" "LPlumbLine$City;") (List.mem_of_getElem? (i := 2) rfl)
  have hf92 := hts (.fieldLink RX5 92 "PlumbLine$City" "figure" "[I") (List.mem_of_getElem? (i := 3) rfl)
  have hiX2 : ∀ w ∈ u_ws RX2 TX2 12, w ∈ wsX5_figuresThatDid := fun w h => List.mem_cons_of_mem _ (List.mem_append_left _ (List.mem_append_right _ h))
  have hiX5 : ∀ w ∈ u_ws RX5 TX5 5, w ∈ wsX5_figuresThatDid := fun w h => List.mem_cons_of_mem _ (List.mem_append_left _ (List.mem_append_left _ (List.mem_append_right _ h)))
  replace hl : lv_has ls 5 [(0, .ref (aW 0)), (1, .int x1), (2, .ref (aD 0))] := hl
  have h := hsem
  clear hsem
  rw [S_Mind_figuresThatDid] at h
  refine lv_iconst (v := 0) hx hb dX5_figuresThatDid_0 (by decide) ?_
  refine lv_istore_n (lv' := [(3, .int 0), (0, .ref (aW 0)), (1, .int x1), (2, .ref (aD 0))]) hx hb dX5_figuresThatDid_1 rfl hl (by decide) rfl (fun ls hl => ?_)
  refine lv_iconst (v := 0) hx hb dX5_figuresThatDid_2 (by decide) ?_
  have B5 : ∀ (n5 : Nat) (y3 : Int32) (y4 : Int32) (mS : CS) (H : Heap) (locs : List Loc) (ls : Array Slot), va_P D vwCl (Wd20 cI cM aD aN aW aM aK nS.1 nS.2.1 nS.2.2.1 nS.2.2.2.1 nS.2.2.2.2.1 nS.2.2.2.2.2.1 nS.2.2.2.2.2.2.1 nS.2.2.2.2.2.2.2.1 nS.2.2.2.2.2.2.2.2.1 nS.2.2.2.2.2.2.2.2.2.1 mS.1 mS.2.1 mS.2.2.1 mS.2.2.2.1 mS.2.2.2.2.1 mS.2.2.2.2.2.1 mS.2.2.2.2.2.2.1 mS.2.2.2.2.2.2.2.1 mS.2.2.2.2.2.2.2.2.1 mS.2.2.2.2.2.2.2.2.2.1 d_kind d_figure d_sort d_size d_held d_el) H → va_D A (Wd20 cI cM aD aN aW aM aK nS.1 nS.2.1 nS.2.2.1 nS.2.2.2.1 nS.2.2.2.2.1 nS.2.2.2.2.2.1 nS.2.2.2.2.2.2.1 nS.2.2.2.2.2.2.2.1 nS.2.2.2.2.2.2.2.2.1 nS.2.2.2.2.2.2.2.2.2.1 mS.1 mS.2.1 mS.2.2.1 mS.2.2.2.1 mS.2.2.2.2.1 mS.2.2.2.2.2.1 mS.2.2.2.2.2.2.1 mS.2.2.2.2.2.2.2.1 mS.2.2.2.2.2.2.2.2.1 mS.2.2.2.2.2.2.2.2.2.1 d_kind d_figure d_sort d_size d_held d_el) → va_S A s.heap H locs → lv_has ls 5 [(0, .ref (aW 0)), (1, .int x1), (2, .ref (aD 0)), (3, .int y3), (4, .int y4)] → S_Mind_figuresThatDid_L5 x1 nS d_sort d_size d_el n5 y3 y4 mS = some o → W p l e rm_X5_figuresThatDid s m ([.ref (aW 0), .int x1, .ref (aD 0)] : List Value).toArray below meth c H locs 0 0 Q (F0 m 5 ls []) := by
    intro n5
    induction n5 with
    | zero => intro y3 y4 mS H locs ls hP hD hS hl h; exact absurd h (by simp [S_Mind_figuresThatDid_L5])
    | succ n5 ih5 =>
      intro y3 y4 mS H locs ls hP hD hS hl h
      rw [S_Mind_figuresThatDid_L5] at h
      refine lv_iload hx hb dX5_figuresThatDid_5 (lv_at hl 4 rfl) ?_
      refine lv_bipush (v := 10) hx hb dX5_figuresThatDid_7 (by decide) ?_
      refine lv_icmp_ge (tgt := 56) hx hb dX5_figuresThatDid_9 (by decide) (fun c9 => ?_) (fun c9 => ?_)
      · have h := k_pos c9 h
        refine lv_iload_n hx hb dX5_figuresThatDid_56 rfl (lv_at hl 3 rfl) ?_
        cases h
        exact hret _ _ _ _ hP hS dX5_figuresThatDid_57
      · have h := k_neg c9 h
        refine lv_aload_n hx hb dX5_figuresThatDid_12 rfl (lv_at hl 0 rfl) ?_
        refine va_get (D := D) (ci := 5) (v := .ref (aM 0)) (C := RX5) (T := TX5) (N := 5) hx hb hts hiX5 hown hK hP 0 rfl rfl 1 (by decide) hf25 (fun _ z => z) rfl dX5_figuresThatDid_13 ?_
        refine lv_aload_n hx hb dX5_figuresThatDid_16 rfl (lv_at hl 0 rfl) ?_
        refine va_get (D := D) (ci := 5) (v := .ref (aN 0)) (C := RX5) (T := TX5) (N := 5) hx hb hts hiX5 hown hK hP 0 rfl rfl 0 (by decide) hf21 (fun _ z => z) rfl dX5_figuresThatDid_17 ?_
        obtain ⟨r20, g20, h⟩ := k_bind h
        refine k_callV (As := [.ref (aN 0)]) (rest := []) (st1 := []) (ws2 := (Wd20 cI cM aD aN aW aM aK nS.1 nS.2.1 nS.2.2.1 nS.2.2.2.1 nS.2.2.2.2.1 nS.2.2.2.2.2.1 nS.2.2.2.2.2.2.1 nS.2.2.2.2.2.2.2.1 nS.2.2.2.2.2.2.2.2.1 nS.2.2.2.2.2.2.2.2.2.1 r20.1 r20.2.1 r20.2.2.1 r20.2.2.2.1 r20.2.2.2.2.1 r20.2.2.2.2.2.1 mS.2.2.2.2.2.2.1 r20.2.2.2.2.2.2.1 r20.2.2.2.2.2.2.2.1 r20.2.2.2.2.2.2.2.2 d_kind d_figure d_sort d_size d_held d_el)) hx hb hml hown hts hK hN hA hP hD hS hl (c_City_becomes l D cI cM cS cJ aM aN aK H.size mS.1 mS.2.1 mS.2.2.1 mS.2.2.2.1 mS.2.2.2.2.1 mS.2.2.2.2.2.1 mS.2.2.2.2.2.2.1 mS.2.2.2.2.2.2.2.1 mS.2.2.2.2.2.2.2.2.1 mS.2.2.2.2.2.2.2.2.2.1 nS.1 nS.2.1 nS.2.2.1 nS.2.2.2.1 nS.2.2.2.2.1 nS.2.2.2.2.2.1 nS.2.2.2.2.2.2.1 nS.2.2.2.2.2.2.2.1 nS.2.2.2.2.2.2.2.2.1 nS.2.2.2.2.2.2.2.2.2.1 g20) gX5_figuresThatDid_X2_becomes rfl kdV_X2_becomes 0 2 rfl rfl rfl [5, 6, 7, 8, 1, 2, 3, 4] ⟨rfl, rfl⟩ ⟨Nat.le_of_ble_eq_true rfl, Nat.le_of_ble_eq_true rfl⟩ ⟨Nat.zero_le _, Nat.zero_le _⟩ rfl rfl (by decide +kernel) rfl rfl rfl (Nat.le_of_ble_eq_true rfl) dX5_figuresThatDid_20 rfl (fun H locs hP hD hS => ?_)
        refine lv_aload_n hx hb dX5_figuresThatDid_23 rfl (lv_at hl 0 rfl) ?_
        refine va_get (D := D) (ci := 5) (v := .ref (aM 0)) (C := RX5) (T := TX5) (N := 5) hx hb hts hiX5 hown hK hP 0 rfl rfl 1 (by decide) hf25 (fun _ z => z) rfl dX5_figuresThatDid_24 ?_
        refine va_get (D := D) (ci := 2) (v := .ref (aM 2)) (C := RX2) (T := TX2) (N := 12) hx hb hts hiX2 hown hK hP 5 rfl rfl 1 (by decide) hf92 (fun _ z => z) rfl dX5_figuresThatDid_27 ?_
        refine lv_iload_n hx hb dX5_figuresThatDid_30 rfl (lv_at hl 1 rfl) ?_
        refine lv_iload hx hb dX5_figuresThatDid_31 (lv_at hl 4 rfl) ?_
        obtain ⟨g33, h⟩ := k_guard h
        refine va_iast hx hb hK hP hD hS 7 0 rfl rfl g33 dX5_figuresThatDid_33 (fun H locs hP hD hS => ?_)
        replace hP : va_P D vwCl (Wd20 cI cM aD aN aW aM aK nS.1 nS.2.1 nS.2.2.1 nS.2.2.2.1 nS.2.2.2.2.1 nS.2.2.2.2.2.1 nS.2.2.2.2.2.2.1 nS.2.2.2.2.2.2.2.1 nS.2.2.2.2.2.2.2.2.1 nS.2.2.2.2.2.2.2.2.2.1 r20.1 r20.2.1 r20.2.2.1 r20.2.2.2.1 r20.2.2.2.2.1 r20.2.2.2.2.2.1 mS.2.2.2.2.2.2.1 r20.2.2.2.2.2.2.1 (upd r20.2.2.2.2.2.2.2.1 x1.toNatClampNeg y4) r20.2.2.2.2.2.2.2.2 d_kind d_figure d_sort d_size d_held d_el) H := hP
        replace hD : va_D A (Wd20 cI cM aD aN aW aM aK nS.1 nS.2.1 nS.2.2.1 nS.2.2.2.1 nS.2.2.2.2.1 nS.2.2.2.2.2.1 nS.2.2.2.2.2.2.1 nS.2.2.2.2.2.2.2.1 nS.2.2.2.2.2.2.2.2.1 nS.2.2.2.2.2.2.2.2.2.1 r20.1 r20.2.1 r20.2.2.1 r20.2.2.2.1 r20.2.2.2.2.1 r20.2.2.2.2.2.1 mS.2.2.2.2.2.2.1 r20.2.2.2.2.2.2.1 (upd r20.2.2.2.2.2.2.2.1 x1.toNatClampNeg y4) r20.2.2.2.2.2.2.2.2 d_kind d_figure d_sort d_size d_held d_el) := hD
        refine lv_aload_n hx hb dX5_figuresThatDid_34 rfl (lv_at hl 0 rfl) ?_
        refine lv_iload_n hx hb dX5_figuresThatDid_35 rfl (lv_at hl 1 rfl) ?_
        refine lv_aload_n hx hb dX5_figuresThatDid_36 rfl (lv_at hl 2 rfl) ?_
        obtain ⟨r37, g37, h⟩ := k_bind h
        refine k_callV (As := [.int x1, .ref (aD 0)]) (rest := []) (st1 := [.int r37.1]) (ws2 := (Wd20 cI cM aD aN aW aM aK nS.1 nS.2.1 nS.2.2.1 nS.2.2.2.1 nS.2.2.2.2.1 nS.2.2.2.2.2.1 nS.2.2.2.2.2.2.1 nS.2.2.2.2.2.2.2.1 nS.2.2.2.2.2.2.2.2.1 nS.2.2.2.2.2.2.2.2.2.1 r37.2.1 r37.2.2.1 r37.2.2.2.1 r37.2.2.2.2.1 r37.2.2.2.2.2.1 r37.2.2.2.2.2.2.1 r37.2.2.2.2.2.2.2.1 r37.2.2.2.2.2.2.2.2.1 r37.2.2.2.2.2.2.2.2.2.1 r37.2.2.2.2.2.2.2.2.2.2.1 d_kind d_figure d_sort d_size d_held d_el)) hx hb hml hown hts hK hN hA hP hD hS hl (c_Mind_leansAsTold l D cI cM cS cJ aD aN aW aM aK H.size x1 (r20.1, r20.2.1, r20.2.2.1, r20.2.2.2.1, r20.2.2.2.2.1, r20.2.2.2.2.2.1, mS.2.2.2.2.2.2.1, r20.2.2.2.2.2.2.1, (upd r20.2.2.2.2.2.2.2.1 x1.toNatClampNeg y4), r20.2.2.2.2.2.2.2.2, mS.2.2.2.2.2.2.2.2.2.2) d_kind d_figure d_sort d_size d_held d_el g37) gX5_figuresThatDid_X5_leansAsTold rfl kdV_X5_leansAsTold 0 5 rfl rfl rfl [0, 5, 6, 7, 8, 9, 10, 11, 12, 13, 14, 15, 16, 17, 18, 19] ⟨rfl, rfl⟩ ⟨Nat.le_of_ble_eq_true rfl, Nat.le_of_ble_eq_true rfl⟩ ⟨Nat.zero_le _, Nat.zero_le _⟩ rfl rfl (by decide +kernel) rfl rfl rfl (Nat.le_of_ble_eq_true rfl) dX5_figuresThatDid_37 rfl (fun H locs hP hD hS => ?_)
        refine lv_if_eq (tgt := 50) hx hb dX5_figuresThatDid_40 (by decide) (fun c40 => ?_) (fun c40 => ?_)
        · have h := k_pos c40 h
          refine lv_iinc (v := (y4 + 1)) (lv' := [(4, .int (y4 + 1)), (0, .ref (aW 0)), (1, .int x1), (2, .ref (aD 0)), (3, .int y3)]) hx hb dX5_figuresThatDid_50 hl (k := 4) rfl (by first | rfl | decide) (by decide) rfl (fun ls hl => ?_)
          refine lv_goto (tgt := 5) hx hb dX5_figuresThatDid_53 (by decide) ?_
          exact ih5 y3 (y4 + 1) r37.2 H locs ls hP hD hS (lv_sub hl [1, 2, 3, 4, 0] rfl) h
        · have h := k_neg c40 h
          refine lv_iload_n hx hb dX5_figuresThatDid_43 rfl (lv_at hl 3 rfl) ?_
          refine lv_iconst (v := 1) hx hb dX5_figuresThatDid_44 (by decide) ?_
          refine lv_iload hx hb dX5_figuresThatDid_45 (lv_at hl 4 rfl) ?_
          refine lv_ishl hx hb dX5_figuresThatDid_47 ?_
          refine lv_ior hx hb dX5_figuresThatDid_48 ?_
          refine lv_istore_n (lv' := [(3, .int (y3 ||| ((1 : Int32) <<< (y4 &&& 31)))), (0, .ref (aW 0)), (1, .int x1), (2, .ref (aD 0)), (4, .int y4)]) hx hb dX5_figuresThatDid_49 rfl hl (by decide) rfl (fun ls hl => ?_)
          refine lv_iinc (v := (y4 + 1)) (lv' := [(4, .int (y4 + 1)), (3, .int (y3 ||| ((1 : Int32) <<< (y4 &&& 31)))), (0, .ref (aW 0)), (1, .int x1), (2, .ref (aD 0))]) hx hb dX5_figuresThatDid_50 hl (k := 4) rfl (by first | rfl | decide) (by decide) rfl (fun ls hl => ?_)
          refine lv_goto (tgt := 5) hx hb dX5_figuresThatDid_53 (by decide) ?_
          exact ih5 (y3 ||| ((1 : Int32) <<< (y4 &&& 31))) (y4 + 1) r37.2 H locs ls hP hD hS (lv_sub hl [2, 3, 4, 1, 0] rfl) h
  refine lv_istore (lv' := [(4, .int 0), (3, .int 0), (0, .ref (aW 0)), (1, .int x1), (2, .ref (aD 0))]) hx hb dX5_figuresThatDid_3 hl (by decide) rfl (fun ls hl => ?_)
  exact B5 lfu 0 0 mS s.heap [] ls hP hD hS (lv_sub hl [2, 3, 4, 1, 0] rfl) h
abbrev rm_X5_hangsAsTold : Room := { frames := 4, cells := 0, slots := 0, locals := 105 }
set_option maxHeartbeats 4000000 in
set_option maxRecDepth 100000 in
theorem c_Mind_hangsAsTold (l : Launch) (D : va_G) (cI cM cS cJ : ClassId) (aD : Nat → Nat) (aN : Nat → Nat) (aW : Nat → Nat) (aM : Nat → Nat) (aK : Nat → Nat) (sz : Nat) (x1 : Int32) (x2 : Int32) (nS : CS) (mS : CS) (d_kind : Int32) (d_figure : Int32) (d_sort : Int32) (d_size : Int32) (d_held : Int32) (d_el : Nat → Int32) {o : (Int32) × (CS)} (hsem : S_Mind_hangsAsTold x1 x2 nS mS d_sort d_size d_el = some o) : kMet l yX5_hangsAsTold wsX5_hangsAsTold rm_X5_hangsAsTold [.ref (aW 0), .int x1, .int x2, .ref (aD 0)] D (kT cI cM cS cJ) (Wd20 cI cM aD aN aW aM aK nS.1 nS.2.1 nS.2.2.1 nS.2.2.2.1 nS.2.2.2.2.1 nS.2.2.2.2.2.1 nS.2.2.2.2.2.2.1 nS.2.2.2.2.2.2.2.1 nS.2.2.2.2.2.2.2.2.1 nS.2.2.2.2.2.2.2.2.2.1 mS.1 mS.2.1 mS.2.2.1 mS.2.2.2.1 mS.2.2.2.2.1 mS.2.2.2.2.2.1 mS.2.2.2.2.2.2.1 mS.2.2.2.2.2.2.2.1 mS.2.2.2.2.2.2.2.2.1 mS.2.2.2.2.2.2.2.2.2.1 d_kind d_figure d_sort d_size d_held d_el) sz (some (.int o.1)) (Wd20 cI cM aD aN aW aM aK nS.1 nS.2.1 nS.2.2.1 nS.2.2.2.1 nS.2.2.2.2.1 nS.2.2.2.2.2.1 nS.2.2.2.2.2.2.1 nS.2.2.2.2.2.2.2.1 nS.2.2.2.2.2.2.2.2.1 nS.2.2.2.2.2.2.2.2.2.1 o.2.1 o.2.2.1 o.2.2.2.1 o.2.2.2.2.1 o.2.2.2.2.2.1 o.2.2.2.2.2.2.1 o.2.2.2.2.2.2.2.1 o.2.2.2.2.2.2.2.2.1 o.2.2.2.2.2.2.2.2.2.1 o.2.2.2.2.2.2.2.2.2.2.1 d_kind d_figure d_sort d_size d_held d_el) := by
  refine k_metZ (by decide) rfl rfl (Nat.le_of_ble_eq_true rfl) ?_
  intro p e s m below meth c ls Q A hx hb hml hts hown hK hN hA hP hD hS hl hsz hnm hret
  have hown : s.vm.findClass RX5 = some m.cls := hown
  have hf25 := hts (.fieldLink RX5 25 "PlumbLine$Mind" "then" "LPlumbLine$City;") (List.mem_of_getElem? (i := 1) rfl)
  have hf21 := hts (.fieldLink RX5 21 "PlumbLine$Mind" "now" "LPlumbLine$City;") (List.mem_of_getElem? (i := 2) rfl)
  have hf107 := hts (.fieldLink RX5 107 "PlumbLine$City" "swings" "I") (List.mem_of_getElem? (i := 3) rfl)
  have hf48 := hts (.fieldLink RX5 48 "PlumbLine$City" "place" "I") (List.mem_of_getElem? (i := 4) rfl)
  have hf95 := hts (.fieldLink RX5 95 "PlumbLine$Shelf" "size" "I") (List.mem_of_getElem? (i := 5) rfl)
  have hiX2 : ∀ w ∈ u_ws RX2 TX2 12, w ∈ wsX5_hangsAsTold := fun w h => List.mem_cons_of_mem _ (List.mem_append_left _ (List.mem_append_right _ h))
  have hiX5 : ∀ w ∈ u_ws RX5 TX5 5, w ∈ wsX5_hangsAsTold := fun w h => List.mem_cons_of_mem _ (List.mem_append_left _ (List.mem_append_left _ (List.mem_append_right _ h)))
  have hiX9 : ∀ w ∈ u_ws RX9 TX9 7, w ∈ wsX5_hangsAsTold := fun w h => List.mem_cons_of_mem _ (List.mem_append_right _ h)
  replace hl : lv_has ls 5 [(0, .ref (aW 0)), (1, .int x1), (2, .int x2), (3, .ref (aD 0))] := hl
  have h := hsem
  clear hsem
  rw [S_Mind_hangsAsTold] at h
  refine lv_aload_n hx hb dX5_hangsAsTold_0 rfl (lv_at hl 0 rfl) ?_
  refine va_get (D := D) (ci := 5) (v := .ref (aM 0)) (C := RX5) (T := TX5) (N := 5) hx hb hts hiX5 hown hK hP 0 rfl rfl 1 (by decide) hf25 (fun _ z => z) rfl dX5_hangsAsTold_1 ?_
  refine lv_aload_n hx hb dX5_hangsAsTold_4 rfl (lv_at hl 0 rfl) ?_
  refine va_get (D := D) (ci := 5) (v := .ref (aN 0)) (C := RX5) (T := TX5) (N := 5) hx hb hts hiX5 hown hK hP 0 rfl rfl 0 (by decide) hf21 (fun _ z => z) rfl dX5_hangsAsTold_5 ?_
  obtain ⟨r8, g8, h⟩ := k_bind h
  refine k_callV (As := [.ref (aN 0)]) (rest := []) (st1 := []) (ws2 := (Wd20 cI cM aD aN aW aM aK nS.1 nS.2.1 nS.2.2.1 nS.2.2.2.1 nS.2.2.2.2.1 nS.2.2.2.2.2.1 nS.2.2.2.2.2.2.1 nS.2.2.2.2.2.2.2.1 nS.2.2.2.2.2.2.2.2.1 nS.2.2.2.2.2.2.2.2.2.1 r8.1 r8.2.1 r8.2.2.1 r8.2.2.2.1 r8.2.2.2.2.1 r8.2.2.2.2.2.1 mS.2.2.2.2.2.2.1 r8.2.2.2.2.2.2.1 r8.2.2.2.2.2.2.2.1 r8.2.2.2.2.2.2.2.2 d_kind d_figure d_sort d_size d_held d_el)) hx hb hml hown hts hK hN hA hP hD hS hl (c_City_becomes l D cI cM cS cJ aM aN aK s.heap.size mS.1 mS.2.1 mS.2.2.1 mS.2.2.2.1 mS.2.2.2.2.1 mS.2.2.2.2.2.1 mS.2.2.2.2.2.2.1 mS.2.2.2.2.2.2.2.1 mS.2.2.2.2.2.2.2.2.1 mS.2.2.2.2.2.2.2.2.2.1 nS.1 nS.2.1 nS.2.2.1 nS.2.2.2.1 nS.2.2.2.2.1 nS.2.2.2.2.2.1 nS.2.2.2.2.2.2.1 nS.2.2.2.2.2.2.2.1 nS.2.2.2.2.2.2.2.2.1 nS.2.2.2.2.2.2.2.2.2.1 g8) gX5_hangsAsTold_X2_becomes rfl kdV_X2_becomes 0 2 rfl rfl rfl [5, 6, 7, 8, 1, 2, 3, 4] ⟨rfl, rfl⟩ ⟨Nat.le_of_ble_eq_true rfl, Nat.le_of_ble_eq_true rfl⟩ ⟨Nat.zero_le _, Nat.zero_le _⟩ rfl rfl (by decide +kernel) rfl rfl rfl (Nat.le_of_ble_eq_true rfl) dX5_hangsAsTold_8 rfl (fun H locs hP hD hS => ?_)
  refine lv_aload_n hx hb dX5_hangsAsTold_11 rfl (lv_at hl 0 rfl) ?_
  refine va_get (D := D) (ci := 5) (v := .ref (aM 0)) (C := RX5) (T := TX5) (N := 5) hx hb hts hiX5 hown hK hP 0 rfl rfl 1 (by decide) hf25 (fun _ z => z) rfl dX5_hangsAsTold_12 ?_
  refine lv_iload_n hx hb dX5_hangsAsTold_15 rfl (lv_at hl 1 rfl) ?_
  refine va_put (D := D) (ci := 2) (v := .int x1) (ty := .int) (C := RX2) (T := TX2) (N := 12) hx hb hts hiX2 tyX2 tyX2_ok nmX2 hown hK hP hD hS 5 rfl rfl 6 (by decide) hf107 (fun _ z => z) rfl (by decide +kernel) rfl rfl (Nat.le_of_ble_eq_true rfl) dX5_hangsAsTold_16 (fun H locs hP hD hS => ?_)
  replace hP : va_P D vwCl (Wd20 cI cM aD aN aW aM aK nS.1 nS.2.1 nS.2.2.1 nS.2.2.2.1 nS.2.2.2.2.1 nS.2.2.2.2.2.1 nS.2.2.2.2.2.2.1 nS.2.2.2.2.2.2.2.1 nS.2.2.2.2.2.2.2.2.1 nS.2.2.2.2.2.2.2.2.2.1 r8.1 r8.2.1 r8.2.2.1 x1 r8.2.2.2.2.1 r8.2.2.2.2.2.1 mS.2.2.2.2.2.2.1 r8.2.2.2.2.2.2.1 r8.2.2.2.2.2.2.2.1 r8.2.2.2.2.2.2.2.2 d_kind d_figure d_sort d_size d_held d_el) H := hP
  replace hD : va_D A (Wd20 cI cM aD aN aW aM aK nS.1 nS.2.1 nS.2.2.1 nS.2.2.2.1 nS.2.2.2.2.1 nS.2.2.2.2.2.1 nS.2.2.2.2.2.2.1 nS.2.2.2.2.2.2.2.1 nS.2.2.2.2.2.2.2.2.1 nS.2.2.2.2.2.2.2.2.2.1 r8.1 r8.2.1 r8.2.2.1 x1 r8.2.2.2.2.1 r8.2.2.2.2.2.1 mS.2.2.2.2.2.2.1 r8.2.2.2.2.2.2.1 r8.2.2.2.2.2.2.2.1 r8.2.2.2.2.2.2.2.2 d_kind d_figure d_sort d_size d_held d_el) := hD
  refine lv_aload_n hx hb dX5_hangsAsTold_19 rfl (lv_at hl 0 rfl) ?_
  refine va_get (D := D) (ci := 5) (v := .ref (aM 0)) (C := RX5) (T := TX5) (N := 5) hx hb hts hiX5 hown hK hP 0 rfl rfl 1 (by decide) hf25 (fun _ z => z) rfl dX5_hangsAsTold_20 ?_
  refine lv_iload_n hx hb dX5_hangsAsTold_23 rfl (lv_at hl 2 rfl) ?_
  refine va_put (D := D) (ci := 2) (v := .int x2) (ty := .int) (C := RX2) (T := TX2) (N := 12) hx hb hts hiX2 tyX2 tyX2_ok nmX2 hown hK hP hD hS 5 rfl rfl 5 (by decide) hf48 (fun _ z => z) rfl (by decide +kernel) rfl rfl (Nat.le_of_ble_eq_true rfl) dX5_hangsAsTold_24 (fun H locs hP hD hS => ?_)
  replace hP : va_P D vwCl (Wd20 cI cM aD aN aW aM aK nS.1 nS.2.1 nS.2.2.1 nS.2.2.2.1 nS.2.2.2.2.1 nS.2.2.2.2.2.1 nS.2.2.2.2.2.2.1 nS.2.2.2.2.2.2.2.1 nS.2.2.2.2.2.2.2.2.1 nS.2.2.2.2.2.2.2.2.2.1 r8.1 r8.2.1 x2 x1 r8.2.2.2.2.1 r8.2.2.2.2.2.1 mS.2.2.2.2.2.2.1 r8.2.2.2.2.2.2.1 r8.2.2.2.2.2.2.2.1 r8.2.2.2.2.2.2.2.2 d_kind d_figure d_sort d_size d_held d_el) H := hP
  replace hD : va_D A (Wd20 cI cM aD aN aW aM aK nS.1 nS.2.1 nS.2.2.1 nS.2.2.2.1 nS.2.2.2.2.1 nS.2.2.2.2.2.1 nS.2.2.2.2.2.2.1 nS.2.2.2.2.2.2.2.1 nS.2.2.2.2.2.2.2.2.1 nS.2.2.2.2.2.2.2.2.2.1 r8.1 r8.2.1 x2 x1 r8.2.2.2.2.1 r8.2.2.2.2.2.1 mS.2.2.2.2.2.2.1 r8.2.2.2.2.2.2.1 r8.2.2.2.2.2.2.2.1 r8.2.2.2.2.2.2.2.2 d_kind d_figure d_sort d_size d_held d_el) := hD
  refine lv_iconst (v := 0) hx hb dX5_hangsAsTold_27 (by decide) ?_
  have B30 : ∀ (n30 : Nat) (y4 : Int32) (mS : CS) (H : Heap) (locs : List Loc) (ls : Array Slot), va_P D vwCl (Wd20 cI cM aD aN aW aM aK nS.1 nS.2.1 nS.2.2.1 nS.2.2.2.1 nS.2.2.2.2.1 nS.2.2.2.2.2.1 nS.2.2.2.2.2.2.1 nS.2.2.2.2.2.2.2.1 nS.2.2.2.2.2.2.2.2.1 nS.2.2.2.2.2.2.2.2.2.1 mS.1 mS.2.1 mS.2.2.1 mS.2.2.2.1 mS.2.2.2.2.1 mS.2.2.2.2.2.1 mS.2.2.2.2.2.2.1 mS.2.2.2.2.2.2.2.1 mS.2.2.2.2.2.2.2.2.1 mS.2.2.2.2.2.2.2.2.2.1 d_kind d_figure d_sort d_size d_held d_el) H → va_D A (Wd20 cI cM aD aN aW aM aK nS.1 nS.2.1 nS.2.2.1 nS.2.2.2.1 nS.2.2.2.2.1 nS.2.2.2.2.2.1 nS.2.2.2.2.2.2.1 nS.2.2.2.2.2.2.2.1 nS.2.2.2.2.2.2.2.2.1 nS.2.2.2.2.2.2.2.2.2.1 mS.1 mS.2.1 mS.2.2.1 mS.2.2.2.1 mS.2.2.2.2.1 mS.2.2.2.2.2.1 mS.2.2.2.2.2.2.1 mS.2.2.2.2.2.2.2.1 mS.2.2.2.2.2.2.2.2.1 mS.2.2.2.2.2.2.2.2.2.1 d_kind d_figure d_sort d_size d_held d_el) → va_S A s.heap H locs → lv_has ls 5 [(0, .ref (aW 0)), (3, .ref (aD 0)), (4, .int y4)] → S_Mind_hangsAsTold_L30 d_sort d_size d_el n30 y4 mS = some o → W p l e rm_X5_hangsAsTold s m ([.ref (aW 0), .int x1, .int x2, .ref (aD 0)] : List Value).toArray below meth c H locs 0 0 Q (F0 m 30 ls []) := by
    intro n30
    induction n30 with
    | zero => intro y4 mS H locs ls hP hD hS hl h; exact absurd h (by simp [S_Mind_hangsAsTold_L30])
    | succ n30 ih30 =>
      intro y4 mS H locs ls hP hD hS hl h
      rw [S_Mind_hangsAsTold_L30] at h
      refine lv_iload hx hb dX5_hangsAsTold_30 (lv_at hl 2 rfl) ?_
      refine lv_aload_n hx hb dX5_hangsAsTold_32 rfl (lv_at hl 1 rfl) ?_
      refine va_get (D := D) (ci := 9) (v := .int d_size) (C := RX9) (T := TX9) (N := 7) hx hb hts hiX9 hown hK hP 9 rfl rfl 4 (by decide) hf95 (fun _ z => z) rfl dX5_hangsAsTold_33 ?_
      refine lv_icmp_ge (tgt := 70) hx hb dX5_hangsAsTold_36 (by decide) (fun c36 => ?_) (fun c36 => ?_)
      · have h := k_pos c36 h
        refine lv_iconst (v := 1) hx hb dX5_hangsAsTold_70 (by decide) ?_
        cases h
        exact hret _ _ _ _ rfl hP hS dX5_hangsAsTold_71
      · have h := k_neg c36 h
        refine lv_aload_n hx hb dX5_hangsAsTold_39 rfl (lv_at hl 1 rfl) ?_
        refine lv_iload hx hb dX5_hangsAsTold_40 (lv_at hl 2 rfl) ?_
        refine lv_aload_n hx hb dX5_hangsAsTold_42 rfl (lv_at hl 0 rfl) ?_
        refine va_get (D := D) (ci := 5) (v := .ref (aM 0)) (C := RX5) (T := TX5) (N := 5) hx hb hts hiX5 hown hK hP 0 rfl rfl 1 (by decide) hf25 (fun _ z => z) rfl dX5_hangsAsTold_43 ?_
        refine va_get (D := D) (ci := 2) (v := .int mS.2.2.1) (C := RX2) (T := TX2) (N := 12) hx hb hts hiX2 hown hK hP 5 rfl rfl 5 (by decide) hf48 (fun _ z => z) rfl dX5_hangsAsTold_46 ?_
        obtain ⟨r49, g49, h⟩ := k_bind h
        refine k_callV (As := [.int y4, .int mS.2.2.1]) (rest := []) (st1 := [.int r49]) (ws2 := (Wd20 cI cM aD aN aW aM aK nS.1 nS.2.1 nS.2.2.1 nS.2.2.2.1 nS.2.2.2.2.1 nS.2.2.2.2.2.1 nS.2.2.2.2.2.2.1 nS.2.2.2.2.2.2.2.1 nS.2.2.2.2.2.2.2.2.1 nS.2.2.2.2.2.2.2.2.2.1 mS.1 mS.2.1 mS.2.2.1 mS.2.2.2.1 mS.2.2.2.2.1 mS.2.2.2.2.2.1 mS.2.2.2.2.2.2.1 mS.2.2.2.2.2.2.2.1 mS.2.2.2.2.2.2.2.2.1 mS.2.2.2.2.2.2.2.2.2.1 d_kind d_figure d_sort d_size d_held d_el)) hx hb hml hown hts hK hN hA hP hD hS hl (c_Shelf_agrees l D cI cM cS cJ aD aK H.size y4 mS.2.2.1 d_kind d_figure d_sort d_size d_held d_el g49) gX5_hangsAsTold_X9_agrees rfl kdV_X9_agrees 0 9 rfl rfl rfl [9, 10] ⟨rfl, rfl⟩ ⟨Nat.le_of_ble_eq_true rfl, Nat.le_of_ble_eq_true rfl⟩ ⟨Nat.zero_le _, Nat.zero_le _⟩ rfl rfl (by decide +kernel) rfl rfl rfl (Nat.le_of_ble_eq_true rfl) dX5_hangsAsTold_49 rfl (fun H locs hP hD hS => ?_)
        refine lv_if_ne (tgt := 57) hx hb dX5_hangsAsTold_52 (by decide) (fun c52 => ?_) (fun c52 => ?_)
        · have h := k_neg c52 h
          refine lv_aload_n hx hb dX5_hangsAsTold_57 rfl (lv_at hl 0 rfl) ?_
          refine va_get (D := D) (ci := 5) (v := .ref (aM 0)) (C := RX5) (T := TX5) (N := 5) hx hb hts hiX5 hown hK hP 0 rfl rfl 1 (by decide) hf25 (fun _ z => z) rfl dX5_hangsAsTold_58 ?_
          obtain ⟨r61, g61, h⟩ := k_bind h
          refine k_callV (As := []) (rest := []) (st1 := []) (ws2 := (Wd20 cI cM aD aN aW aM aK nS.1 nS.2.1 nS.2.2.1 nS.2.2.2.1 nS.2.2.2.2.1 nS.2.2.2.2.2.1 nS.2.2.2.2.2.2.1 nS.2.2.2.2.2.2.2.1 nS.2.2.2.2.2.2.2.2.1 nS.2.2.2.2.2.2.2.2.2.1 mS.1 mS.2.1 r61.1 r61.2.1 r61.2.2.1 r61.2.2.2.1 r61.2.2.2.2.1 mS.2.2.2.2.2.2.2.1 mS.2.2.2.2.2.2.2.2.1 r61.2.2.2.2.2 d_kind d_figure d_sort d_size d_held d_el)) hx hb hml hown hts hK hN hA hP hD hS hl (c_City_passDay l D cI cM cS cJ aM aK H.size mS.1 mS.2.1 mS.2.2.1 mS.2.2.2.1 mS.2.2.2.2.1 mS.2.2.2.2.2.1 mS.2.2.2.2.2.2.1 mS.2.2.2.2.2.2.2.1 mS.2.2.2.2.2.2.2.2.1 mS.2.2.2.2.2.2.2.2.2.1 g61) gX5_hangsAsTold_X2_passDay rfl kdV_X2_passDay 0 2 rfl rfl rfl [5, 6, 7, 8, 11, 12, 13, 14, 15, 16, 17, 18, 19] ⟨rfl, rfl⟩ ⟨Nat.le_of_ble_eq_true rfl, Nat.le_of_ble_eq_true rfl⟩ ⟨Nat.zero_le _, Nat.zero_le _⟩ rfl rfl (by decide +kernel) rfl rfl rfl (Nat.le_of_ble_eq_true rfl) dX5_hangsAsTold_61 rfl (fun H locs hP hD hS => ?_)
          refine lv_iinc (v := (y4 + 1)) (lv' := [(4, .int (y4 + 1)), (0, .ref (aW 0)), (3, .ref (aD 0))]) hx hb dX5_hangsAsTold_64 hl (k := 2) rfl (by first | rfl | decide) (by decide) rfl (fun ls hl => ?_)
          refine lv_goto (tgt := 30) hx hb dX5_hangsAsTold_67 (by decide) ?_
          exact ih30 (y4 + 1) (mS.1, mS.2.1, r61.1, r61.2.1, r61.2.2.1, r61.2.2.2.1, r61.2.2.2.2.1, mS.2.2.2.2.2.2.2.1, mS.2.2.2.2.2.2.2.2.1, r61.2.2.2.2.2, mS.2.2.2.2.2.2.2.2.2.2) H locs ls hP hD hS (lv_sub hl [1, 2, 0] rfl) h
        · have h := k_pos c52 h
          refine lv_iconst (v := 0) hx hb dX5_hangsAsTold_55 (by decide) ?_
          cases h
          exact hret _ _ _ _ rfl hP hS dX5_hangsAsTold_56
  refine lv_istore (lv' := [(4, .int 0), (0, .ref (aW 0)), (1, .int x1), (2, .int x2), (3, .ref (aD 0))]) hx hb dX5_hangsAsTold_28 hl (by decide) rfl (fun ls hl => ?_)
  exact B30 lfu 0 (r8.1, r8.2.1, x2, x1, r8.2.2.2.2.1, r8.2.2.2.2.2.1, mS.2.2.2.2.2.2.1, r8.2.2.2.2.2.2.1, r8.2.2.2.2.2.2.2.1, r8.2.2.2.2.2.2.2.2, mS.2.2.2.2.2.2.2.2.2.2) H locs ls hP hD hS (lv_sub hl [1, 4, 0] rfl) h
theorem kdV_X5_hangsAsTold : yX5_hangsAsTold.cls = RX5 ∧ yX5_hangsAsTold.cls ≠ "java/lang/invoke/MethodHandle" ∧ yX5_hangsAsTold.cls ≠ "java/lang/invoke/VarHandle" ∧ (parseMethodDescriptor yX5_hangsAsTold.desc).map (fun d => d.parameters.length) = some 3 := by decide +kernel
abbrev rm_X5_hangings : Room := { frames := 5, cells := 0, slots := 0, locals := 129 }
set_option maxHeartbeats 4000000 in
set_option maxRecDepth 100000 in
theorem c_Mind_hangings (l : Launch) (D : va_G) (cI cM cS cJ : ClassId) (aD : Nat → Nat) (aN : Nat → Nat) (aW : Nat → Nat) (aM : Nat → Nat) (aK : Nat → Nat) (sz : Nat) (x2 : Int32) (nS : CS) (mS : CS) (d_kind : Int32) (d_figure : Int32) (d_sort : Int32) (d_size : Int32) (d_held : Int32) (d_el : Nat → Int32) {o : (Int32) × (CS)} (hsem : S_Mind_hangings x2 nS mS d_sort d_size d_el = some o) : kMet l yX5_hangings wsX5_hangings rm_X5_hangings [.ref (aW 0), .ref (aD 0), .int x2] D (kT cI cM cS cJ) (Wd20 cI cM aD aN aW aM aK nS.1 nS.2.1 nS.2.2.1 nS.2.2.2.1 nS.2.2.2.2.1 nS.2.2.2.2.2.1 nS.2.2.2.2.2.2.1 nS.2.2.2.2.2.2.2.1 nS.2.2.2.2.2.2.2.2.1 nS.2.2.2.2.2.2.2.2.2.1 mS.1 mS.2.1 mS.2.2.1 mS.2.2.2.1 mS.2.2.2.2.1 mS.2.2.2.2.2.1 mS.2.2.2.2.2.2.1 mS.2.2.2.2.2.2.2.1 mS.2.2.2.2.2.2.2.2.1 mS.2.2.2.2.2.2.2.2.2.1 d_kind d_figure d_sort d_size d_held d_el) sz (some (.int o.1)) (Wd20 cI cM aD aN aW aM aK nS.1 nS.2.1 nS.2.2.1 nS.2.2.2.1 nS.2.2.2.2.1 nS.2.2.2.2.2.1 nS.2.2.2.2.2.2.1 nS.2.2.2.2.2.2.2.1 nS.2.2.2.2.2.2.2.2.1 nS.2.2.2.2.2.2.2.2.2.1 o.2.1 o.2.2.1 o.2.2.2.1 o.2.2.2.2.1 o.2.2.2.2.2.1 o.2.2.2.2.2.2.1 o.2.2.2.2.2.2.2.1 o.2.2.2.2.2.2.2.2.1 o.2.2.2.2.2.2.2.2.2.1 o.2.2.2.2.2.2.2.2.2.2.1 d_kind d_figure d_sort d_size d_held d_el) := by
  refine k_metI (by decide) rfl rfl (Nat.le_of_ble_eq_true rfl) ?_
  intro p e s m below meth c ls Q A hx hb hml hts hown hK hN hA hP hD hS hl hsz hnm hret
  have hown : s.vm.findClass RX5 = some m.cls := hown
  replace hl : lv_has ls 8 [(0, .ref (aW 0)), (1, .ref (aD 0)), (2, .int x2)] := hl
  have h := hsem
  clear hsem
  rw [S_Mind_hangings] at h
  refine lv_iconst (v := 0) hx hb dX5_hangings_0 (by decide) ?_
  refine lv_istore_n (lv' := [(3, .int 0), (0, .ref (aW 0)), (1, .ref (aD 0)), (2, .int x2)]) hx hb dX5_hangings_1 rfl hl (by decide) rfl (fun ls hl => ?_)
  refine lv_bipush (v := (-4)) hx hb dX5_hangings_2 (by decide) ?_
  refine lv_istore (lv' := [(4, .int (-4)), (3, .int 0), (0, .ref (aW 0)), (1, .ref (aD 0)), (2, .int x2)]) hx hb dX5_hangings_4 hl (by decide) rfl (fun ls hl => ?_)
  refine lv_bipush (v := (-4)) hx hb dX5_hangings_6 (by decide) ?_
  refine lv_istore (lv' := [(5, .int (-4)), (4, .int (-4)), (3, .int 0), (0, .ref (aW 0)), (1, .ref (aD 0)), (2, .int x2)]) hx hb dX5_hangings_8 hl (by decide) rfl (fun ls hl => ?_)
  refine lv_iconst (v := 0) hx hb dX5_hangings_10 (by decide) ?_
  have B13 : ∀ (n13 : Nat) (y3 : Int32) (y4 : Int32) (y5 : Int32) (y6 : Int32) (mS : CS) (H : Heap) (locs : List Loc) (ls : Array Slot), va_P D vwCl (Wd20 cI cM aD aN aW aM aK nS.1 nS.2.1 nS.2.2.1 nS.2.2.2.1 nS.2.2.2.2.1 nS.2.2.2.2.2.1 nS.2.2.2.2.2.2.1 nS.2.2.2.2.2.2.2.1 nS.2.2.2.2.2.2.2.2.1 nS.2.2.2.2.2.2.2.2.2.1 mS.1 mS.2.1 mS.2.2.1 mS.2.2.2.1 mS.2.2.2.2.1 mS.2.2.2.2.2.1 mS.2.2.2.2.2.2.1 mS.2.2.2.2.2.2.2.1 mS.2.2.2.2.2.2.2.2.1 mS.2.2.2.2.2.2.2.2.2.1 d_kind d_figure d_sort d_size d_held d_el) H → va_D A (Wd20 cI cM aD aN aW aM aK nS.1 nS.2.1 nS.2.2.1 nS.2.2.2.1 nS.2.2.2.2.1 nS.2.2.2.2.2.1 nS.2.2.2.2.2.2.1 nS.2.2.2.2.2.2.2.1 nS.2.2.2.2.2.2.2.2.1 nS.2.2.2.2.2.2.2.2.2.1 mS.1 mS.2.1 mS.2.2.1 mS.2.2.2.1 mS.2.2.2.2.1 mS.2.2.2.2.2.1 mS.2.2.2.2.2.2.1 mS.2.2.2.2.2.2.2.1 mS.2.2.2.2.2.2.2.2.1 mS.2.2.2.2.2.2.2.2.2.1 d_kind d_figure d_sort d_size d_held d_el) → va_S A s.heap H locs → lv_has ls 8 [(0, .ref (aW 0)), (1, .ref (aD 0)), (2, .int x2), (3, .int y3), (4, .int y4), (5, .int y5), (6, .int y6)] → S_Mind_hangings_L13 x2 nS d_sort d_size d_el n13 y3 y4 y5 y6 mS = some o → W p l e rm_X5_hangings s m ([.ref (aW 0), .ref (aD 0), .int x2] : List Value).toArray below meth c H locs 0 0 Q (F0 m 13 ls []) := by
    intro n13
    induction n13 with
    | zero => intro y3 y4 y5 y6 mS H locs ls hP hD hS hl h; exact absurd h (by simp [S_Mind_hangings_L13])
    | succ n13 ih13 =>
      intro y3 y4 y5 y6 mS H locs ls hP hD hS hl h
      rw [S_Mind_hangings_L13] at h
      refine lv_iload hx hb dX5_hangings_13 (lv_at hl 6 rfl) ?_
      refine lv_bipush (v := 9) hx hb dX5_hangings_15 (by decide) ?_
      refine lv_icmp_gt (tgt := 83) hx hb dX5_hangings_17 (by decide) (fun c17 => ?_) (fun c17 => ?_)
      · have h := k_pos c17 h
        refine lv_iload_n hx hb dX5_hangings_83 rfl (lv_at hl 2 rfl) ?_
        refine lv_if_ne (tgt := 89) hx hb dX5_hangings_84 (by decide) (fun c84 => ?_) (fun c84 => ?_)
        · have h := k_neg c84 h
          refine lv_iload_n hx hb dX5_hangings_89 rfl (lv_at hl 2 rfl) ?_
          refine lv_iconst (v := 1) hx hb dX5_hangings_90 (by decide) ?_
          refine lv_icmp_ne (tgt := 99) hx hb dX5_hangings_91 (by decide) (fun c91 => ?_) (fun c91 => ?_)
          · have h := k_neg c91 h
            refine lv_iload hx hb dX5_hangings_99 (lv_at hl 5 rfl) ?_
            cases h
            exact hret _ _ _ _ hP hS dX5_hangings_101
          · have h := k_pos c91 h
            refine lv_iload hx hb dX5_hangings_94 (lv_at hl 4 rfl) ?_
            refine lv_goto (tgt := 101) hx hb dX5_hangings_96 (by decide) ?_
            cases h
            exact hret _ _ _ _ hP hS dX5_hangings_101
        · have h := k_pos c84 h
          refine lv_iload_n hx hb dX5_hangings_87 rfl (lv_at hl 3 rfl) ?_
          cases h
          exact hret _ _ _ _ hP hS dX5_hangings_88
      · have h := k_neg c17 h
        refine lv_iconst (v := 0) hx hb dX5_hangings_20 (by decide) ?_
        have B23 : ∀ (y6 : Int32) (n23 : Nat) (y3 : Int32) (y4 : Int32) (y5 : Int32) (y7 : Int32) (mS : CS) (H : Heap) (locs : List Loc) (ls : Array Slot), va_P D vwCl (Wd20 cI cM aD aN aW aM aK nS.1 nS.2.1 nS.2.2.1 nS.2.2.2.1 nS.2.2.2.2.1 nS.2.2.2.2.2.1 nS.2.2.2.2.2.2.1 nS.2.2.2.2.2.2.2.1 nS.2.2.2.2.2.2.2.2.1 nS.2.2.2.2.2.2.2.2.2.1 mS.1 mS.2.1 mS.2.2.1 mS.2.2.2.1 mS.2.2.2.2.1 mS.2.2.2.2.2.1 mS.2.2.2.2.2.2.1 mS.2.2.2.2.2.2.2.1 mS.2.2.2.2.2.2.2.2.1 mS.2.2.2.2.2.2.2.2.2.1 d_kind d_figure d_sort d_size d_held d_el) H → va_D A (Wd20 cI cM aD aN aW aM aK nS.1 nS.2.1 nS.2.2.1 nS.2.2.2.1 nS.2.2.2.2.1 nS.2.2.2.2.2.1 nS.2.2.2.2.2.2.1 nS.2.2.2.2.2.2.2.1 nS.2.2.2.2.2.2.2.2.1 nS.2.2.2.2.2.2.2.2.2.1 mS.1 mS.2.1 mS.2.2.1 mS.2.2.2.1 mS.2.2.2.2.1 mS.2.2.2.2.2.1 mS.2.2.2.2.2.2.1 mS.2.2.2.2.2.2.2.1 mS.2.2.2.2.2.2.2.2.1 mS.2.2.2.2.2.2.2.2.2.1 d_kind d_figure d_sort d_size d_held d_el) → va_S A s.heap H locs → lv_has ls 8 [(0, .ref (aW 0)), (1, .ref (aD 0)), (2, .int x2), (3, .int y3), (4, .int y4), (5, .int y5), (6, .int y6), (7, .int y7)] → S_Mind_hangings_L23 (S_Mind_hangings_L13 x2 nS d_sort d_size d_el n13) y6 nS d_sort d_size d_el n23 y3 y4 y5 y7 mS = some o → W p l e rm_X5_hangings s m ([.ref (aW 0), .ref (aD 0), .int x2] : List Value).toArray below meth c H locs 0 0 Q (F0 m 23 ls []) := by
          intro y6
          intro n23
          induction n23 with
          | zero => intro y3 y4 y5 y7 mS H locs ls hP hD hS hl h; exact absurd h (by simp [S_Mind_hangings_L23])
          | succ n23 ih23 =>
            intro y3 y4 y5 y7 mS H locs ls hP hD hS hl h
            rw [S_Mind_hangings_L23] at h
            refine lv_iload hx hb dX5_hangings_23 (lv_at hl 7 rfl) ?_
            refine lv_bipush (v := 8) hx hb dX5_hangings_25 (by decide) ?_
            refine lv_icmp_ge (tgt := 77) hx hb dX5_hangings_27 (by decide) (fun c27 => ?_) (fun c27 => ?_)
            · have h := k_pos c27 h
              refine lv_iinc (v := (y6 + 1)) (lv' := [(6, .int (y6 + 1)), (0, .ref (aW 0)), (1, .ref (aD 0)), (2, .int x2), (3, .int y3), (4, .int y4), (5, .int y5), (7, .int y7)]) hx hb dX5_hangings_77 hl (k := 6) rfl (by first | rfl | decide) (by decide) rfl (fun ls hl => ?_)
              refine lv_goto (tgt := 13) hx hb dX5_hangings_80 (by decide) ?_
              exact ih13 y3 y4 y5 (y6 + 1) mS H locs ls hP hD hS (lv_sub hl [1, 2, 3, 4, 5, 6, 0] rfl) h
            · have h := k_neg c27 h
              refine lv_aload_n hx hb dX5_hangings_30 rfl (lv_at hl 0 rfl) ?_
              refine lv_iload hx hb dX5_hangings_31 (lv_at hl 6 rfl) ?_
              refine lv_iload hx hb dX5_hangings_33 (lv_at hl 7 rfl) ?_
              refine lv_aload_n hx hb dX5_hangings_35 rfl (lv_at hl 1 rfl) ?_
              obtain ⟨r36, g36, h⟩ := k_bind h
              refine k_callV (As := [.int y6, .int y7, .ref (aD 0)]) (rest := []) (st1 := [.int r36.1]) (ws2 := (Wd20 cI cM aD aN aW aM aK nS.1 nS.2.1 nS.2.2.1 nS.2.2.2.1 nS.2.2.2.2.1 nS.2.2.2.2.2.1 nS.2.2.2.2.2.2.1 nS.2.2.2.2.2.2.2.1 nS.2.2.2.2.2.2.2.2.1 nS.2.2.2.2.2.2.2.2.2.1 r36.2.1 r36.2.2.1 r36.2.2.2.1 r36.2.2.2.2.1 r36.2.2.2.2.2.1 r36.2.2.2.2.2.2.1 r36.2.2.2.2.2.2.2.1 r36.2.2.2.2.2.2.2.2.1 r36.2.2.2.2.2.2.2.2.2.1 r36.2.2.2.2.2.2.2.2.2.2.1 d_kind d_figure d_sort d_size d_held d_el)) hx hb hml hown hts hK hN hA hP hD hS hl (c_Mind_hangsAsTold l D cI cM cS cJ aD aN aW aM aK H.size y6 y7 nS mS d_kind d_figure d_sort d_size d_held d_el g36) gX5_hangings_X5_hangsAsTold rfl kdV_X5_hangsAsTold 0 5 rfl rfl rfl [0, 1, 2, 3, 4, 5, 6, 7, 8, 9, 10, 11, 12, 13, 14, 15, 16, 17, 18, 19] ⟨rfl, rfl⟩ ⟨Nat.le_of_ble_eq_true rfl, Nat.le_of_ble_eq_true rfl⟩ ⟨Nat.zero_le _, Nat.zero_le _⟩ rfl rfl (by decide +kernel) rfl rfl rfl (Nat.le_of_ble_eq_true rfl) dX5_hangings_36 rfl (fun H locs hP hD hS => ?_)
              refine lv_if_eq (tgt := 71) hx hb dX5_hangings_39 (by decide) (fun c39 => ?_) (fun c39 => ?_)
              · have h := k_pos c39 h
                refine lv_iinc (v := (y7 + 1)) (lv' := [(7, .int (y7 + 1)), (0, .ref (aW 0)), (1, .ref (aD 0)), (2, .int x2), (3, .int y3), (4, .int y4), (5, .int y5), (6, .int y6)]) hx hb dX5_hangings_71 hl (k := 7) rfl (by first | rfl | decide) (by decide) rfl (fun ls hl => ?_)
                refine lv_goto (tgt := 23) hx hb dX5_hangings_74 (by decide) ?_
                exact ih23 y3 y4 y5 (y7 + 1) r36.2 H locs ls hP hD hS (lv_sub hl [1, 2, 3, 4, 5, 6, 7, 0] rfl) h
              · have h := k_neg c39 h
                refine lv_iinc (v := (y3 + 1)) (lv' := [(3, .int (y3 + 1)), (0, .ref (aW 0)), (1, .ref (aD 0)), (2, .int x2), (4, .int y4), (5, .int y5), (6, .int y6), (7, .int y7)]) hx hb dX5_hangings_42 hl (k := 3) rfl (by first | rfl | decide) (by decide) rfl (fun ls hl => ?_)
                refine lv_bipush (v := 10) hx hb dX5_hangings_45 (by decide) ?_
                refine lv_iload hx hb dX5_hangings_47 (lv_at hl 6 rfl) ?_
                refine lv_imul hx hb dX5_hangings_49 ?_
                refine lv_iload hx hb dX5_hangings_50 (lv_at hl 7 rfl) ?_
                refine lv_iadd hx hb dX5_hangings_52 ?_
                refine lv_istore (lv' := [(5, .int (((10 : Int32) * y6) + y7)), (3, .int (y3 + 1)), (0, .ref (aW 0)), (1, .ref (aD 0)), (2, .int x2), (4, .int y4), (6, .int y6), (7, .int y7)]) hx hb dX5_hangings_53 hl (by decide) rfl (fun ls hl => ?_)
                refine lv_iload hx hb dX5_hangings_55 (lv_at hl 5 rfl) ?_
                refine lv_bipush (v := (-4)) hx hb dX5_hangings_57 (by decide) ?_
                refine lv_icmp_ne (tgt := 67) hx hb dX5_hangings_59 (by decide) (fun c59 => ?_) (fun c59 => ?_)
                · have h := k_neg c59 h
                  refine lv_iload hx hb dX5_hangings_67 (lv_at hl 5 rfl) ?_
                  refine lv_istore (lv' := [(4, .int y4), (5, .int (((10 : Int32) * y6) + y7)), (3, .int (y3 + 1)), (0, .ref (aW 0)), (1, .ref (aD 0)), (2, .int x2), (6, .int y6), (7, .int y7)]) hx hb dX5_hangings_69 hl (by decide) rfl (fun ls hl => ?_)
                  refine lv_iinc (v := (y7 + 1)) (lv' := [(7, .int (y7 + 1)), (4, .int y4), (5, .int (((10 : Int32) * y6) + y7)), (3, .int (y3 + 1)), (0, .ref (aW 0)), (1, .ref (aD 0)), (2, .int x2), (6, .int y6)]) hx hb dX5_hangings_71 hl (k := 7) rfl (by first | rfl | decide) (by decide) rfl (fun ls hl => ?_)
                  refine lv_goto (tgt := 23) hx hb dX5_hangings_74 (by decide) ?_
                  exact ih23 (y3 + 1) y4 (((10 : Int32) * y6) + y7) (y7 + 1) r36.2 H locs ls hP hD hS (lv_sub hl [4, 5, 6, 3, 1, 2, 7, 0] rfl) h
                · have h := k_pos c59 h
                  refine lv_iload hx hb dX5_hangings_62 (lv_at hl 0 rfl) ?_
                  refine lv_goto (tgt := 69) hx hb dX5_hangings_64 (by decide) ?_
                  refine lv_istore (lv' := [(4, .int (((10 : Int32) * y6) + y7)), (5, .int (((10 : Int32) * y6) + y7)), (3, .int (y3 + 1)), (0, .ref (aW 0)), (1, .ref (aD 0)), (2, .int x2), (6, .int y6), (7, .int y7)]) hx hb dX5_hangings_69 hl (by decide) rfl (fun ls hl => ?_)
                  refine lv_iinc (v := (y7 + 1)) (lv' := [(7, .int (y7 + 1)), (4, .int (((10 : Int32) * y6) + y7)), (5, .int (((10 : Int32) * y6) + y7)), (3, .int (y3 + 1)), (0, .ref (aW 0)), (1, .ref (aD 0)), (2, .int x2), (6, .int y6)]) hx hb dX5_hangings_71 hl (k := 7) rfl (by first | rfl | decide) (by decide) rfl (fun ls hl => ?_)
                  refine lv_goto (tgt := 23) hx hb dX5_hangings_74 (by decide) ?_
                  exact ih23 (y3 + 1) (((10 : Int32) * y6) + y7) (((10 : Int32) * y6) + y7) (y7 + 1) r36.2 H locs ls hP hD hS (lv_sub hl [4, 5, 6, 3, 1, 2, 7, 0] rfl) h
        refine lv_istore (lv' := [(7, .int 0), (0, .ref (aW 0)), (1, .ref (aD 0)), (2, .int x2), (3, .int y3), (4, .int y4), (5, .int y5), (6, .int y6)]) hx hb dX5_hangings_21 hl (by decide) rfl (fun ls hl => ?_)
        exact B23 y6 lfu y3 y4 y5 0 mS H locs ls hP hD hS (lv_sub hl [1, 2, 3, 4, 5, 6, 7, 0] rfl) h
  refine lv_istore (lv' := [(6, .int 0), (5, .int (-4)), (4, .int (-4)), (3, .int 0), (0, .ref (aW 0)), (1, .ref (aD 0)), (2, .int x2)]) hx hb dX5_hangings_11 hl (by decide) rfl (fun ls hl => ?_)
  exact B13 lfu 0 (-4) (-4) 0 mS s.heap [] ls hP hD hS (lv_sub hl [4, 5, 6, 3, 2, 1, 0] rfl) h
abbrev rm_X5_firstMisjudged : Room := { frames := 4, cells := 0, slots := 0, locals := 105 }
set_option maxHeartbeats 4000000 in
set_option maxRecDepth 100000 in
theorem c_Mind_firstMisjudged (l : Launch) (D : va_G) (cI cM cS cJ : ClassId) (aD : Nat → Nat) (aN : Nat → Nat) (aW : Nat → Nat) (aM : Nat → Nat) (aK : Nat → Nat) (sz : Nat) (nS : CS) (mS : CS) (d_kind : Int32) (d_figure : Int32) (d_sort : Int32) (d_size : Int32) (d_held : Int32) (d_el : Nat → Int32) {o : (Int32) × (CS)} (hsem : S_Mind_firstMisjudged nS mS d_sort d_size d_el = some o) : kMet l yX5_firstMisjudged wsX5_firstMisjudged rm_X5_firstMisjudged [.ref (aW 0), .ref (aD 0)] D (kT cI cM cS cJ) (Wd20 cI cM aD aN aW aM aK nS.1 nS.2.1 nS.2.2.1 nS.2.2.2.1 nS.2.2.2.2.1 nS.2.2.2.2.2.1 nS.2.2.2.2.2.2.1 nS.2.2.2.2.2.2.2.1 nS.2.2.2.2.2.2.2.2.1 nS.2.2.2.2.2.2.2.2.2.1 mS.1 mS.2.1 mS.2.2.1 mS.2.2.2.1 mS.2.2.2.2.1 mS.2.2.2.2.2.1 mS.2.2.2.2.2.2.1 mS.2.2.2.2.2.2.2.1 mS.2.2.2.2.2.2.2.2.1 mS.2.2.2.2.2.2.2.2.2.1 d_kind d_figure d_sort d_size d_held d_el) sz (some (.int o.1)) (Wd20 cI cM aD aN aW aM aK nS.1 nS.2.1 nS.2.2.1 nS.2.2.2.1 nS.2.2.2.2.1 nS.2.2.2.2.2.1 nS.2.2.2.2.2.2.1 nS.2.2.2.2.2.2.2.1 nS.2.2.2.2.2.2.2.2.1 nS.2.2.2.2.2.2.2.2.2.1 o.2.1 o.2.2.1 o.2.2.2.1 o.2.2.2.2.1 o.2.2.2.2.2.1 o.2.2.2.2.2.2.1 o.2.2.2.2.2.2.2.1 o.2.2.2.2.2.2.2.2.1 o.2.2.2.2.2.2.2.2.2.1 o.2.2.2.2.2.2.2.2.2.2.1 d_kind d_figure d_sort d_size d_held d_el) := by
  refine k_metI (by decide) rfl rfl (Nat.le_of_ble_eq_true rfl) ?_
  intro p e s m below meth c ls Q A hx hb hml hts hown hK hN hA hP hD hS hl hsz hnm hret
  have hown : s.vm.findClass RX5 = some m.cls := hown
  have hf25 := hts (.fieldLink RX5 25 "PlumbLine$Mind" "then" "LPlumbLine$City;") (List.mem_of_getElem? (i := 1) rfl)
  have hf21 := hts (.fieldLink RX5 21 "PlumbLine$Mind" "now" "LPlumbLine$City;") (List.mem_of_getElem? (i := 2) rfl)
  have hf95 := hts (.fieldLink RX5 95 "PlumbLine$Shelf" "size" "I") (List.mem_of_getElem? (i := 3) rfl)
  have hiX5 : ∀ w ∈ u_ws RX5 TX5 5, w ∈ wsX5_firstMisjudged := fun w h => List.mem_cons_of_mem _ (List.mem_append_left _ (List.mem_append_left _ (List.mem_append_right _ h)))
  have hiX9 : ∀ w ∈ u_ws RX9 TX9 7, w ∈ wsX5_firstMisjudged := fun w h => List.mem_cons_of_mem _ (List.mem_append_left _ (List.mem_append_right _ h))
  replace hl : lv_has ls 3 [(0, .ref (aW 0)), (1, .ref (aD 0))] := hl
  have h := hsem
  clear hsem
  rw [S_Mind_firstMisjudged] at h
  refine lv_aload_n hx hb dX5_firstMisjudged_0 rfl (lv_at hl 0 rfl) ?_
  refine va_get (D := D) (ci := 5) (v := .ref (aM 0)) (C := RX5) (T := TX5) (N := 5) hx hb hts hiX5 hown hK hP 0 rfl rfl 1 (by decide) hf25 (fun _ z => z) rfl dX5_firstMisjudged_1 ?_
  refine lv_aload_n hx hb dX5_firstMisjudged_4 rfl (lv_at hl 0 rfl) ?_
  refine va_get (D := D) (ci := 5) (v := .ref (aN 0)) (C := RX5) (T := TX5) (N := 5) hx hb hts hiX5 hown hK hP 0 rfl rfl 0 (by decide) hf21 (fun _ z => z) rfl dX5_firstMisjudged_5 ?_
  obtain ⟨r8, g8, h⟩ := k_bind h
  refine k_callV (As := [.ref (aN 0)]) (rest := []) (st1 := []) (ws2 := (Wd20 cI cM aD aN aW aM aK nS.1 nS.2.1 nS.2.2.1 nS.2.2.2.1 nS.2.2.2.2.1 nS.2.2.2.2.2.1 nS.2.2.2.2.2.2.1 nS.2.2.2.2.2.2.2.1 nS.2.2.2.2.2.2.2.2.1 nS.2.2.2.2.2.2.2.2.2.1 r8.1 r8.2.1 r8.2.2.1 r8.2.2.2.1 r8.2.2.2.2.1 r8.2.2.2.2.2.1 mS.2.2.2.2.2.2.1 r8.2.2.2.2.2.2.1 r8.2.2.2.2.2.2.2.1 r8.2.2.2.2.2.2.2.2 d_kind d_figure d_sort d_size d_held d_el)) hx hb hml hown hts hK hN hA hP hD hS hl (c_City_becomes l D cI cM cS cJ aM aN aK s.heap.size mS.1 mS.2.1 mS.2.2.1 mS.2.2.2.1 mS.2.2.2.2.1 mS.2.2.2.2.2.1 mS.2.2.2.2.2.2.1 mS.2.2.2.2.2.2.2.1 mS.2.2.2.2.2.2.2.2.1 mS.2.2.2.2.2.2.2.2.2.1 nS.1 nS.2.1 nS.2.2.1 nS.2.2.2.1 nS.2.2.2.2.1 nS.2.2.2.2.2.1 nS.2.2.2.2.2.2.1 nS.2.2.2.2.2.2.2.1 nS.2.2.2.2.2.2.2.2.1 nS.2.2.2.2.2.2.2.2.2.1 g8) gX5_firstMisjudged_X2_becomes rfl kdV_X2_becomes 0 2 rfl rfl rfl [5, 6, 7, 8, 1, 2, 3, 4] ⟨rfl, rfl⟩ ⟨Nat.le_of_ble_eq_true rfl, Nat.le_of_ble_eq_true rfl⟩ ⟨Nat.zero_le _, Nat.zero_le _⟩ rfl rfl (by decide +kernel) rfl rfl rfl (Nat.le_of_ble_eq_true rfl) dX5_firstMisjudged_8 rfl (fun H locs hP hD hS => ?_)
  refine lv_iconst (v := 0) hx hb dX5_firstMisjudged_11 (by decide) ?_
  have B13 : ∀ (n13 : Nat) (y2 : Int32) (mS : CS) (H : Heap) (locs : List Loc) (ls : Array Slot), va_P D vwCl (Wd20 cI cM aD aN aW aM aK nS.1 nS.2.1 nS.2.2.1 nS.2.2.2.1 nS.2.2.2.2.1 nS.2.2.2.2.2.1 nS.2.2.2.2.2.2.1 nS.2.2.2.2.2.2.2.1 nS.2.2.2.2.2.2.2.2.1 nS.2.2.2.2.2.2.2.2.2.1 mS.1 mS.2.1 mS.2.2.1 mS.2.2.2.1 mS.2.2.2.2.1 mS.2.2.2.2.2.1 mS.2.2.2.2.2.2.1 mS.2.2.2.2.2.2.2.1 mS.2.2.2.2.2.2.2.2.1 mS.2.2.2.2.2.2.2.2.2.1 d_kind d_figure d_sort d_size d_held d_el) H → va_D A (Wd20 cI cM aD aN aW aM aK nS.1 nS.2.1 nS.2.2.1 nS.2.2.2.1 nS.2.2.2.2.1 nS.2.2.2.2.2.1 nS.2.2.2.2.2.2.1 nS.2.2.2.2.2.2.2.1 nS.2.2.2.2.2.2.2.2.1 nS.2.2.2.2.2.2.2.2.2.1 mS.1 mS.2.1 mS.2.2.1 mS.2.2.2.1 mS.2.2.2.2.1 mS.2.2.2.2.2.1 mS.2.2.2.2.2.2.1 mS.2.2.2.2.2.2.2.1 mS.2.2.2.2.2.2.2.2.1 mS.2.2.2.2.2.2.2.2.2.1 d_kind d_figure d_sort d_size d_held d_el) → va_S A s.heap H locs → lv_has ls 3 [(0, .ref (aW 0)), (1, .ref (aD 0)), (2, .int y2)] → S_Mind_firstMisjudged_L13 d_sort d_size d_el n13 y2 mS = some o → W p l e rm_X5_firstMisjudged s m ([.ref (aW 0), .ref (aD 0)] : List Value).toArray below meth c H locs 0 0 Q (F0 m 13 ls []) := by
    intro n13
    induction n13 with
    | zero => intro y2 mS H locs ls hP hD hS hl h; exact absurd h (by simp [S_Mind_firstMisjudged_L13])
    | succ n13 ih13 =>
      intro y2 mS H locs ls hP hD hS hl h
      rw [S_Mind_firstMisjudged_L13] at h
      refine lv_iload_n hx hb dX5_firstMisjudged_13 rfl (lv_at hl 2 rfl) ?_
      refine lv_aload_n hx hb dX5_firstMisjudged_14 rfl (lv_at hl 1 rfl) ?_
      refine va_get (D := D) (ci := 9) (v := .int d_size) (C := RX9) (T := TX9) (N := 7) hx hb hts hiX9 hown hK hP 9 rfl rfl 4 (by decide) hf95 (fun _ z => z) rfl dX5_firstMisjudged_15 ?_
      refine lv_icmp_ge (tgt := 54) hx hb dX5_firstMisjudged_18 (by decide) (fun c18 => ?_) (fun c18 => ?_)
      · have h := k_pos c18 h
        refine lv_bipush (v := (-4)) hx hb dX5_firstMisjudged_54 (by decide) ?_
        cases h
        exact hret _ _ _ _ hP hS dX5_firstMisjudged_56
      · have h := k_neg c18 h
        refine lv_aload_n hx hb dX5_firstMisjudged_21 rfl (lv_at hl 1 rfl) ?_
        refine lv_iload_n hx hb dX5_firstMisjudged_22 rfl (lv_at hl 2 rfl) ?_
        refine lv_aload_n hx hb dX5_firstMisjudged_23 rfl (lv_at hl 0 rfl) ?_
        refine va_get (D := D) (ci := 5) (v := .ref (aM 0)) (C := RX5) (T := TX5) (N := 5) hx hb hts hiX5 hown hK hP 0 rfl rfl 1 (by decide) hf25 (fun _ z => z) rfl dX5_firstMisjudged_24 ?_
        obtain ⟨r27, g27, h⟩ := k_bind h
        refine k_callV (As := []) (rest := [.int y2, .ref (aD 0)]) (st1 := [.int r27, .int y2, .ref (aD 0)]) (ws2 := (Wd20 cI cM aD aN aW aM aK nS.1 nS.2.1 nS.2.2.1 nS.2.2.2.1 nS.2.2.2.2.1 nS.2.2.2.2.2.1 nS.2.2.2.2.2.2.1 nS.2.2.2.2.2.2.2.1 nS.2.2.2.2.2.2.2.2.1 nS.2.2.2.2.2.2.2.2.2.1 mS.1 mS.2.1 mS.2.2.1 mS.2.2.2.1 mS.2.2.2.2.1 mS.2.2.2.2.2.1 mS.2.2.2.2.2.2.1 mS.2.2.2.2.2.2.2.1 mS.2.2.2.2.2.2.2.2.1 mS.2.2.2.2.2.2.2.2.2.1 d_kind d_figure d_sort d_size d_held d_el)) hx hb hml hown hts hK hN hA hP hD hS hl (c_City_upright l D cI cM cS cJ aM aK H.size mS.1 mS.2.1 mS.2.2.1 mS.2.2.2.1 mS.2.2.2.2.1 mS.2.2.2.2.2.1 mS.2.2.2.2.2.2.1 mS.2.2.2.2.2.2.2.1 mS.2.2.2.2.2.2.2.2.1 mS.2.2.2.2.2.2.2.2.2.1 g27) gX5_firstMisjudged_X2_upright rfl kdV_X2_upright 0 2 rfl rfl rfl [5, 6, 7, 8, 11, 12, 13, 14, 15, 16, 17, 18, 19] ⟨rfl, rfl⟩ ⟨Nat.le_of_ble_eq_true rfl, Nat.le_of_ble_eq_true rfl⟩ ⟨Nat.zero_le _, Nat.zero_le _⟩ rfl rfl (by decide +kernel) rfl rfl rfl (Nat.le_of_ble_eq_true rfl) dX5_firstMisjudged_27 rfl (fun H locs hP hD hS => ?_)
        refine k_callS (As := [.int r27]) (rest := [.int y2, .ref (aD 0)]) (st1 := [.int (S_J_bitCount r27), .int y2, .ref (aD 0)]) (ws2 := (Wd20 cI cM aD aN aW aM aK nS.1 nS.2.1 nS.2.2.1 nS.2.2.2.1 nS.2.2.2.2.1 nS.2.2.2.2.2.1 nS.2.2.2.2.2.2.1 nS.2.2.2.2.2.2.2.1 nS.2.2.2.2.2.2.2.2.1 nS.2.2.2.2.2.2.2.2.2.1 mS.1 mS.2.1 mS.2.2.1 mS.2.2.2.1 mS.2.2.2.2.1 mS.2.2.2.2.2.1 mS.2.2.2.2.2.2.1 mS.2.2.2.2.2.2.2.1 mS.2.2.2.2.2.2.2.2.1 mS.2.2.2.2.2.2.2.2.2.1 d_kind d_figure d_sort d_size d_held d_el)) hx hb hml hown hts hK hN hA hP hD hS hl (c_J_bitCount l D cI cM cS cJ H.size r27 rfl) gX5_firstMisjudged_J6_bitCount_0f7a4 rfl kdS_J6_bitCount_0f7a4 [] ⟨rfl, rfl⟩ ⟨Nat.le_of_ble_eq_true rfl, Nat.le_of_ble_eq_true rfl⟩ ⟨Nat.zero_le _, Nat.zero_le _⟩ rfl rfl (by decide +kernel) rfl rfl rfl (Nat.le_of_ble_eq_true rfl) dX5_firstMisjudged_30 rfl (fun H locs hP hD hS => ?_)
        obtain ⟨r33, g33, h⟩ := k_bind h
        refine k_callV (As := [.int y2, .int (S_J_bitCount r27)]) (rest := []) (st1 := [.int r33]) (ws2 := (Wd20 cI cM aD aN aW aM aK nS.1 nS.2.1 nS.2.2.1 nS.2.2.2.1 nS.2.2.2.2.1 nS.2.2.2.2.2.1 nS.2.2.2.2.2.2.1 nS.2.2.2.2.2.2.2.1 nS.2.2.2.2.2.2.2.2.1 nS.2.2.2.2.2.2.2.2.2.1 mS.1 mS.2.1 mS.2.2.1 mS.2.2.2.1 mS.2.2.2.2.1 mS.2.2.2.2.2.1 mS.2.2.2.2.2.2.1 mS.2.2.2.2.2.2.2.1 mS.2.2.2.2.2.2.2.2.1 mS.2.2.2.2.2.2.2.2.2.1 d_kind d_figure d_sort d_size d_held d_el)) hx hb hml hown hts hK hN hA hP hD hS hl (c_Shelf_agrees l D cI cM cS cJ aD aK H.size y2 (S_J_bitCount r27) d_kind d_figure d_sort d_size d_held d_el g33) gX5_firstMisjudged_X9_agrees rfl kdV_X9_agrees 0 9 rfl rfl rfl [9, 10] ⟨rfl, rfl⟩ ⟨Nat.le_of_ble_eq_true rfl, Nat.le_of_ble_eq_true rfl⟩ ⟨Nat.zero_le _, Nat.zero_le _⟩ rfl rfl (by decide +kernel) rfl rfl rfl (Nat.le_of_ble_eq_true rfl) dX5_firstMisjudged_33 rfl (fun H locs hP hD hS => ?_)
        refine lv_if_ne (tgt := 41) hx hb dX5_firstMisjudged_36 (by decide) (fun c36 => ?_) (fun c36 => ?_)
        · have h := k_neg c36 h
          refine lv_aload_n hx hb dX5_firstMisjudged_41 rfl (lv_at hl 0 rfl) ?_
          refine va_get (D := D) (ci := 5) (v := .ref (aM 0)) (C := RX5) (T := TX5) (N := 5) hx hb hts hiX5 hown hK hP 0 rfl rfl 1 (by decide) hf25 (fun _ z => z) rfl dX5_firstMisjudged_42 ?_
          obtain ⟨r45, g45, h⟩ := k_bind h
          refine k_callV (As := []) (rest := []) (st1 := []) (ws2 := (Wd20 cI cM aD aN aW aM aK nS.1 nS.2.1 nS.2.2.1 nS.2.2.2.1 nS.2.2.2.2.1 nS.2.2.2.2.2.1 nS.2.2.2.2.2.2.1 nS.2.2.2.2.2.2.2.1 nS.2.2.2.2.2.2.2.2.1 nS.2.2.2.2.2.2.2.2.2.1 mS.1 mS.2.1 r45.1 r45.2.1 r45.2.2.1 r45.2.2.2.1 r45.2.2.2.2.1 mS.2.2.2.2.2.2.2.1 mS.2.2.2.2.2.2.2.2.1 r45.2.2.2.2.2 d_kind d_figure d_sort d_size d_held d_el)) hx hb hml hown hts hK hN hA hP hD hS hl (c_City_passDay l D cI cM cS cJ aM aK H.size mS.1 mS.2.1 mS.2.2.1 mS.2.2.2.1 mS.2.2.2.2.1 mS.2.2.2.2.2.1 mS.2.2.2.2.2.2.1 mS.2.2.2.2.2.2.2.1 mS.2.2.2.2.2.2.2.2.1 mS.2.2.2.2.2.2.2.2.2.1 g45) gX5_firstMisjudged_X2_passDay rfl kdV_X2_passDay 0 2 rfl rfl rfl [5, 6, 7, 8, 11, 12, 13, 14, 15, 16, 17, 18, 19] ⟨rfl, rfl⟩ ⟨Nat.le_of_ble_eq_true rfl, Nat.le_of_ble_eq_true rfl⟩ ⟨Nat.zero_le _, Nat.zero_le _⟩ rfl rfl (by decide +kernel) rfl rfl rfl (Nat.le_of_ble_eq_true rfl) dX5_firstMisjudged_45 rfl (fun H locs hP hD hS => ?_)
          refine lv_iinc (v := (y2 + 1)) (lv' := [(2, .int (y2 + 1)), (0, .ref (aW 0)), (1, .ref (aD 0))]) hx hb dX5_firstMisjudged_48 hl (k := 2) rfl (by first | rfl | decide) (by decide) rfl (fun ls hl => ?_)
          refine lv_goto (tgt := 13) hx hb dX5_firstMisjudged_51 (by decide) ?_
          exact ih13 (y2 + 1) (mS.1, mS.2.1, r45.1, r45.2.1, r45.2.2.1, r45.2.2.2.1, r45.2.2.2.2.1, mS.2.2.2.2.2.2.2.1, mS.2.2.2.2.2.2.2.2.1, r45.2.2.2.2.2, mS.2.2.2.2.2.2.2.2.2.2) H locs ls hP hD hS (lv_sub hl [1, 2, 0] rfl) h
        · have h := k_pos c36 h
          refine lv_iload_n hx hb dX5_firstMisjudged_39 rfl (lv_at hl 2 rfl) ?_
          cases h
          exact hret _ _ _ _ hP hS dX5_firstMisjudged_40
  refine lv_istore_n (lv' := [(2, .int 0), (0, .ref (aW 0)), (1, .ref (aD 0))]) hx hb dX5_firstMisjudged_12 rfl hl (by decide) rfl (fun ls hl => ?_)
  exact B13 lfu 0 (r8.1, r8.2.1, r8.2.2.1, r8.2.2.2.1, r8.2.2.2.2.1, r8.2.2.2.2.2.1, mS.2.2.2.2.2.2.1, r8.2.2.2.2.2.2.1, r8.2.2.2.2.2.2.2.1, r8.2.2.2.2.2.2.2.2, mS.2.2.2.2.2.2.2.2.2.2) H locs ls hP hD hS (lv_sub hl [1, 2, 0] rfl) h
abbrev Wd21 (cI : ClassId) (cM : ClassId) (aN : Nat → Nat) (aW : Nat → Nat) (aM : Nat → Nat) (aK : Nat → Nat) (m_men : Int32) (m_propped : Int32) (m_place : Int32) (m_swings : Int32) (m_crashes : Int32) (m_day : Int32) (m_crashedToday : Int32) (m_kind : Nat → Int32) (m_figure : Nat → Int32) (m_lean : Nat → Int32) : va_W := [((aW 0), .inr (5, [.ref (aN 0), .ref (aM 0), .ref (aW 1), .ref (aW 2), .ref (aW 3)])), ((aM 0), .inr (2, [.ref (aM 1), .ref (aM 2), .ref (aM 3), .int m_men, .int m_propped, .int m_place, .int m_swings, .int m_crashes, .int m_day, .int m_crashedToday, .ref (aK 8), .ref (aM 4)])), ((aM 1), .inl (cI, 8, .inl m_kind)), ((aM 2), .inl (cI, 8, .inl m_figure)), ((aM 3), .inl (cI, 8, .inl m_lean)), ((aK 8), .inl (cM, 8, .inr (.inr (.inr (.inr (fun k => some (aK k))))))), ((aK 0), .inr (4, [])), ((aK 1), .inr (0, [])), ((aK 2), .inr (7, [])), ((aK 3), .inr (3, [])), ((aK 4), .inr (1, [])), ((aK 5), .inr (8, [])), ((aK 6), .inr (10, [])), ((aK 7), .inr (6, []))]
theorem kdV_X2_isUpright : yX2_isUpright.cls = RX2 ∧ yX2_isUpright.cls ≠ "java/lang/invoke/MethodHandle" ∧ yX2_isUpright.cls ≠ "java/lang/invoke/VarHandle" ∧ (parseMethodDescriptor yX2_isUpright.desc).map (fun d => d.parameters.length) = some 1 := by decide +kernel
abbrev rm_X5_gainOf : Room := { frames := 4, cells := 0, slots := 0, locals := 85 }
set_option maxHeartbeats 4000000 in
set_option maxRecDepth 100000 in
theorem c_Mind_gainOf (l : Launch) (D : va_G) (cI cM cS cJ : ClassId) (aN : Nat → Nat) (aW : Nat → Nat) (aM : Nat → Nat) (aK : Nat → Nat) (sz : Nat) (x1 : Int32) (x2 : Int32) (x3 : Int32) (mS : CS) {o : (Int32)} (hsem : S_Mind_gainOf x1 x2 x3 mS = some o) : kMet l yX5_gainOf wsX5_gainOf rm_X5_gainOf [.ref (aW 0), .int x1, .int x2, .int x3] D (kT cI cM cS cJ) (Wd21 cI cM aN aW aM aK mS.1 mS.2.1 mS.2.2.1 mS.2.2.2.1 mS.2.2.2.2.1 mS.2.2.2.2.2.1 mS.2.2.2.2.2.2.1 mS.2.2.2.2.2.2.2.1 mS.2.2.2.2.2.2.2.2.1 mS.2.2.2.2.2.2.2.2.2.1) sz (some (.int o)) (Wd21 cI cM aN aW aM aK mS.1 mS.2.1 mS.2.2.1 mS.2.2.2.1 mS.2.2.2.2.1 mS.2.2.2.2.2.1 mS.2.2.2.2.2.2.1 mS.2.2.2.2.2.2.2.1 mS.2.2.2.2.2.2.2.2.1 mS.2.2.2.2.2.2.2.2.2.1) := by
  refine k_metI (by decide) rfl rfl (Nat.le_of_ble_eq_true rfl) ?_
  intro p e s m below meth c ls Q A hx hb hml hts hown hK hN hA hP hD hS hl hsz hnm hret
  have hown : s.vm.findClass RX5 = some m.cls := hown
  have hf25 := hts (.fieldLink RX5 25 "PlumbLine$Mind" "then" "LPlumbLine$City;") (List.mem_of_getElem? (i := 1) rfl)
  have hiX5 : ∀ w ∈ u_ws RX5 TX5 5, w ∈ wsX5_gainOf := fun w h => List.mem_cons_of_mem _ (List.mem_append_left _ (List.mem_append_right _ h))
  replace hl : lv_has ls 5 [(0, .ref (aW 0)), (1, .int x1), (2, .int x2), (3, .int x3)] := hl
  have h := hsem
  clear hsem
  rw [S_Mind_gainOf] at h
  refine lv_aload_n hx hb dX5_gainOf_0 rfl (lv_at hl 0 rfl) ?_
  refine va_get (D := D) (ci := 5) (v := .ref (aM 0)) (C := RX5) (T := TX5) (N := 5) hx hb hts hiX5 hown hK hP 0 rfl rfl 1 (by decide) hf25 (fun _ z => z) rfl dX5_gainOf_1 ?_
  refine lv_iload_n hx hb dX5_gainOf_4 rfl (lv_at hl 1 rfl) ?_
  obtain ⟨r5, g5, h⟩ := k_bind h
  refine k_callV (As := [.int x1]) (rest := []) (st1 := [.int r5]) (ws2 := (Wd21 cI cM aN aW aM aK mS.1 mS.2.1 mS.2.2.1 mS.2.2.2.1 mS.2.2.2.2.1 mS.2.2.2.2.2.1 mS.2.2.2.2.2.2.1 mS.2.2.2.2.2.2.2.1 mS.2.2.2.2.2.2.2.2.1 mS.2.2.2.2.2.2.2.2.2.1)) hx hb hml hown hts hK hN hA hP hD hS hl (c_City_isUpright l D cI cM cS cJ aM aK s.heap.size x1 mS.1 mS.2.1 mS.2.2.1 mS.2.2.2.1 mS.2.2.2.2.1 mS.2.2.2.2.2.1 mS.2.2.2.2.2.2.1 mS.2.2.2.2.2.2.2.1 mS.2.2.2.2.2.2.2.2.1 mS.2.2.2.2.2.2.2.2.2.1 g5) gX5_gainOf_X2_isUpright rfl kdV_X2_isUpright 0 2 rfl rfl rfl [1, 2, 3, 4, 5, 6, 7, 8, 9, 10, 11, 12, 13] ⟨rfl, rfl⟩ ⟨Nat.le_of_ble_eq_true rfl, Nat.le_of_ble_eq_true rfl⟩ ⟨Nat.zero_le _, Nat.zero_le _⟩ rfl rfl (by decide +kernel) rfl rfl rfl (Nat.le_of_ble_eq_true rfl) dX5_gainOf_5 rfl (fun H locs hP hD hS => ?_)
  refine lv_if_eq (tgt := 16) hx hb dX5_gainOf_8 (by decide) (fun c8 => ?_) (fun c8 => ?_)
  · have h := k_pos c8 h
    refine lv_iconst (v := 0) hx hb dX5_gainOf_16 (by decide) ?_
    refine lv_istore (lv' := [(4, .int 0), (0, .ref (aW 0)), (1, .int x1), (2, .int x2), (3, .int x3)]) hx hb dX5_gainOf_17 hl (by decide) rfl (fun ls hl => ?_)
    refine lv_iload hx hb dX5_gainOf_19 (lv_at hl 0 rfl) ?_
    refine lv_iconst (v := 2) hx hb dX5_gainOf_21 (by decide) ?_
    refine lv_iload_n hx hb dX5_gainOf_22 rfl (lv_at hl 3 rfl) ?_
    refine lv_imul hx hb dX5_gainOf_23 ?_
    refine lv_isub hx hb dX5_gainOf_24 ?_
    refine lv_iload_n hx hb dX5_gainOf_25 rfl (lv_at hl 4 rfl) ?_
    refine lv_isub hx hb dX5_gainOf_26 ?_
    cases h
    exact hret _ _ _ _ hP hS dX5_gainOf_27
  · have h := k_neg c8 h
    refine lv_bipush (v := 6) hx hb dX5_gainOf_11 (by decide) ?_
    refine lv_goto (tgt := 17) hx hb dX5_gainOf_13 (by decide) ?_
    refine lv_istore (lv' := [(4, .int 6), (0, .ref (aW 0)), (1, .int x1), (2, .int x2), (3, .int x3)]) hx hb dX5_gainOf_17 hl (by decide) rfl (fun ls hl => ?_)
    refine lv_iload hx hb dX5_gainOf_19 (lv_at hl 0 rfl) ?_
    refine lv_iconst (v := 2) hx hb dX5_gainOf_21 (by decide) ?_
    refine lv_iload_n hx hb dX5_gainOf_22 rfl (lv_at hl 3 rfl) ?_
    refine lv_imul hx hb dX5_gainOf_23 ?_
    refine lv_isub hx hb dX5_gainOf_24 ?_
    refine lv_iload_n hx hb dX5_gainOf_25 rfl (lv_at hl 4 rfl) ?_
    refine lv_isub hx hb dX5_gainOf_26 ?_
    cases h
    exact hret _ _ _ _ hP hS dX5_gainOf_27
abbrev Wd22 (cI : ClassId) (cM : ClassId) (aN : Nat → Nat) (aW : Nat → Nat) (aM : Nat → Nat) (aK : Nat → Nat) (w_gains : Nat → Int32) (w_othersGains : Nat → Int32) (n_men : Int32) (n_propped : Int32) (n_place : Int32) (n_swings : Int32) (n_crashes : Int32) (n_day : Int32) (n_crashedToday : Int32) (n_kind : Nat → Int32) (n_figure : Nat → Int32) (n_lean : Nat → Int32) (m_men : Int32) (m_propped : Int32) (m_place : Int32) (m_swings : Int32) (m_crashes : Int32) (m_day : Int32) (m_crashedToday : Int32) (m_kind : Nat → Int32) (m_figure : Nat → Int32) (m_lean : Nat → Int32) : va_W := [((aW 0), .inr (5, [.ref (aN 0), .ref (aM 0), .ref (aW 1), .ref (aW 2), .ref (aW 3)])), ((aW 1), .inl (cI, 4, .inl w_gains)), ((aW 2), .inl (cI, 4, .inl w_othersGains)), ((aN 0), .inr (2, [.ref (aN 1), .ref (aN 2), .ref (aN 3), .int n_men, .int n_propped, .int n_place, .int n_swings, .int n_crashes, .int n_day, .int n_crashedToday, .ref (aK 8), .ref (aN 4)])), ((aN 1), .inl (cI, 8, .inl n_kind)), ((aN 2), .inl (cI, 8, .inl n_figure)), ((aN 3), .inl (cI, 8, .inl n_lean)), ((aM 0), .inr (2, [.ref (aM 1), .ref (aM 2), .ref (aM 3), .int m_men, .int m_propped, .int m_place, .int m_swings, .int m_crashes, .int m_day, .int m_crashedToday, .ref (aK 8), .ref (aM 4)])), ((aM 1), .inl (cI, 8, .inl m_kind)), ((aM 2), .inl (cI, 8, .inl m_figure)), ((aM 3), .inl (cI, 8, .inl m_lean)), ((aK 8), .inl (cM, 8, .inr (.inr (.inr (.inr (fun k => some (aK k))))))), ((aK 0), .inr (4, [])), ((aK 1), .inr (0, [])), ((aK 2), .inr (7, [])), ((aK 3), .inr (3, [])), ((aK 4), .inr (1, [])), ((aK 5), .inr (8, [])), ((aK 6), .inr (10, [])), ((aK 7), .inr (6, []))]
theorem kdV_X5_gainOf : yX5_gainOf.cls = RX5 ∧ yX5_gainOf.cls ≠ "java/lang/invoke/MethodHandle" ∧ yX5_gainOf.cls ≠ "java/lang/invoke/VarHandle" ∧ (parseMethodDescriptor yX5_gainOf.desc).map (fun d => d.parameters.length) = some 3 := by decide +kernel
abbrev rm_X5_settledPair : Room := { frames := 5, cells := 0, slots := 0, locals := 128 }
set_option maxHeartbeats 4000000 in
set_option maxRecDepth 100000 in
theorem c_Mind_settledPair (l : Launch) (D : va_G) (cI cM cS cJ : ClassId) (aN : Nat → Nat) (aW : Nat → Nat) (aM : Nat → Nat) (aK : Nat → Nat) (sz : Nat) (x1 : Int32) (x2 : Int32) (x3 : Int32) (w_gains : Nat → Int32) (w_othersGains : Nat → Int32) (nS : CS) (mS : CS) {o : (Int32) × (Nat → Int32) × (Nat → Int32) × (CS)} (hsem : S_Mind_settledPair x1 x2 x3 w_gains w_othersGains nS mS = some o) : kMet l yX5_settledPair wsX5_settledPair rm_X5_settledPair [.ref (aW 0), .int x1, .int x2, .int x3] D (kT cI cM cS cJ) (Wd22 cI cM aN aW aM aK w_gains w_othersGains nS.1 nS.2.1 nS.2.2.1 nS.2.2.2.1 nS.2.2.2.2.1 nS.2.2.2.2.2.1 nS.2.2.2.2.2.2.1 nS.2.2.2.2.2.2.2.1 nS.2.2.2.2.2.2.2.2.1 nS.2.2.2.2.2.2.2.2.2.1 mS.1 mS.2.1 mS.2.2.1 mS.2.2.2.1 mS.2.2.2.2.1 mS.2.2.2.2.2.1 mS.2.2.2.2.2.2.1 mS.2.2.2.2.2.2.2.1 mS.2.2.2.2.2.2.2.2.1 mS.2.2.2.2.2.2.2.2.2.1) sz (some (.int o.1)) (Wd22 cI cM aN aW aM aK o.2.1 o.2.2.1 nS.1 nS.2.1 nS.2.2.1 nS.2.2.2.1 nS.2.2.2.2.1 nS.2.2.2.2.2.1 nS.2.2.2.2.2.2.1 nS.2.2.2.2.2.2.2.1 nS.2.2.2.2.2.2.2.2.1 nS.2.2.2.2.2.2.2.2.2.1 o.2.2.2.1 o.2.2.2.2.1 o.2.2.2.2.2.1 o.2.2.2.2.2.2.1 o.2.2.2.2.2.2.2.1 o.2.2.2.2.2.2.2.2.1 o.2.2.2.2.2.2.2.2.2.1 o.2.2.2.2.2.2.2.2.2.2.1 o.2.2.2.2.2.2.2.2.2.2.2.1 o.2.2.2.2.2.2.2.2.2.2.2.2.1) := by
  refine k_metI (by decide) rfl rfl (Nat.le_of_ble_eq_true rfl) ?_
  intro p e s m below meth c ls Q A hx hb hml hts hown hK hN hA hP hD hS hl hsz hnm hret
  have hown : s.vm.findClass RX5 = some m.cls := hown
  have hf9 := hts (.fieldLink RX5 9 "PlumbLine$Mind" "gains" "[I") (List.mem_of_getElem? (i := 4) rfl)
  have hf15 := hts (.fieldLink RX5 15 "PlumbLine$Mind" "othersGains" "[I") (List.mem_of_getElem? (i := 5) rfl)
  have hf25 := hts (.fieldLink RX5 25 "PlumbLine$Mind" "then" "LPlumbLine$City;") (List.mem_of_getElem? (i := 1) rfl)
  have hf21 := hts (.fieldLink RX5 21 "PlumbLine$Mind" "now" "LPlumbLine$City;") (List.mem_of_getElem? (i := 2) rfl)
  have hf70 := hts (.fieldLink RX5 70 "PlumbLine$City" "propped" "I") (List.mem_of_getElem? (i := 3) rfl)
  have hiX2 : ∀ w ∈ u_ws RX2 TX2 12, w ∈ wsX5_settledPair := fun w h => List.mem_cons_of_mem _ (List.mem_append_right _ h)
  have hiX5 : ∀ w ∈ u_ws RX5 TX5 5, w ∈ wsX5_settledPair := fun w h => List.mem_cons_of_mem _ (List.mem_append_left _ (List.mem_append_right _ h))
  replace hl : lv_has ls 7 [(0, .ref (aW 0)), (1, .int x1), (2, .int x2), (3, .int x3)] := hl
  have h := hsem
  clear hsem
  rw [S_Mind_settledPair] at h
  refine lv_iconst (v := 0) hx hb dX5_settledPair_0 (by decide) ?_
  have B3 : ∀ (n3 : Nat) (y4 : Int32) (w_gains : Nat → Int32) (w_othersGains : Nat → Int32) (mS : CS) (H : Heap) (locs : List Loc) (ls : Array Slot), va_P D vwCl (Wd22 cI cM aN aW aM aK w_gains w_othersGains nS.1 nS.2.1 nS.2.2.1 nS.2.2.2.1 nS.2.2.2.2.1 nS.2.2.2.2.2.1 nS.2.2.2.2.2.2.1 nS.2.2.2.2.2.2.2.1 nS.2.2.2.2.2.2.2.2.1 nS.2.2.2.2.2.2.2.2.2.1 mS.1 mS.2.1 mS.2.2.1 mS.2.2.2.1 mS.2.2.2.2.1 mS.2.2.2.2.2.1 mS.2.2.2.2.2.2.1 mS.2.2.2.2.2.2.2.1 mS.2.2.2.2.2.2.2.2.1 mS.2.2.2.2.2.2.2.2.2.1) H → va_D A (Wd22 cI cM aN aW aM aK w_gains w_othersGains nS.1 nS.2.1 nS.2.2.1 nS.2.2.2.1 nS.2.2.2.2.1 nS.2.2.2.2.2.1 nS.2.2.2.2.2.2.1 nS.2.2.2.2.2.2.2.1 nS.2.2.2.2.2.2.2.2.1 nS.2.2.2.2.2.2.2.2.2.1 mS.1 mS.2.1 mS.2.2.1 mS.2.2.2.1 mS.2.2.2.2.1 mS.2.2.2.2.2.1 mS.2.2.2.2.2.2.1 mS.2.2.2.2.2.2.2.1 mS.2.2.2.2.2.2.2.2.1 mS.2.2.2.2.2.2.2.2.2.1) → va_S A s.heap H locs → lv_has ls 7 [(0, .ref (aW 0)), (1, .int x1), (2, .int x2), (3, .int x3), (4, .int y4)] → S_Mind_settledPair_L3 x1 x2 x3 nS n3 y4 w_gains w_othersGains mS = some o → W p l e rm_X5_settledPair s m ([.ref (aW 0), .int x1, .int x2, .int x3] : List Value).toArray below meth c H locs 0 0 Q (F0 m 3 ls []) := by
    intro n3
    induction n3 with
    | zero => intro y4 w_gains w_othersGains mS H locs ls hP hD hS hl h; exact absurd h (by simp [S_Mind_settledPair_L3])
    | succ n3 ih3 =>
      intro y4 w_gains w_othersGains mS H locs ls hP hD hS hl h
      rw [S_Mind_settledPair_L3] at h
      refine lv_iload hx hb dX5_settledPair_3 (lv_at hl 4 rfl) ?_
      refine lv_iconst (v := 4) hx hb dX5_settledPair_5 (by decide) ?_
      refine lv_icmp_ge (tgt := 101) hx hb dX5_settledPair_6 (by decide) (fun c6 => ?_) (fun c6 => ?_)
      · have h := k_pos c6 h
        refine lv_iconst (v := 0) hx hb dX5_settledPair_101 (by decide) ?_
        have B104 : ∀ (w_gains : Nat → Int32) (w_othersGains : Nat → Int32) (mS : CS) (n104 : Nat) (y4 : Int32) (H : Heap) (locs : List Loc) (ls : Array Slot), va_P D vwCl (Wd22 cI cM aN aW aM aK w_gains w_othersGains nS.1 nS.2.1 nS.2.2.1 nS.2.2.2.1 nS.2.2.2.2.1 nS.2.2.2.2.2.1 nS.2.2.2.2.2.2.1 nS.2.2.2.2.2.2.2.1 nS.2.2.2.2.2.2.2.2.1 nS.2.2.2.2.2.2.2.2.2.1 mS.1 mS.2.1 mS.2.2.1 mS.2.2.2.1 mS.2.2.2.2.1 mS.2.2.2.2.2.1 mS.2.2.2.2.2.2.1 mS.2.2.2.2.2.2.2.1 mS.2.2.2.2.2.2.2.2.1 mS.2.2.2.2.2.2.2.2.2.1) H → va_D A (Wd22 cI cM aN aW aM aK w_gains w_othersGains nS.1 nS.2.1 nS.2.2.1 nS.2.2.2.1 nS.2.2.2.2.1 nS.2.2.2.2.2.1 nS.2.2.2.2.2.2.1 nS.2.2.2.2.2.2.2.1 nS.2.2.2.2.2.2.2.2.1 nS.2.2.2.2.2.2.2.2.2.1 mS.1 mS.2.1 mS.2.2.1 mS.2.2.2.1 mS.2.2.2.2.1 mS.2.2.2.2.2.1 mS.2.2.2.2.2.2.1 mS.2.2.2.2.2.2.2.1 mS.2.2.2.2.2.2.2.2.1 mS.2.2.2.2.2.2.2.2.2.1) → va_S A s.heap H locs → lv_has ls 7 [(0, .ref (aW 0)), (4, .int y4)] → S_Mind_settledPair_L104 w_gains w_othersGains mS n104 y4 = some o → W p l e rm_X5_settledPair s m ([.ref (aW 0), .int x1, .int x2, .int x3] : List Value).toArray below meth c H locs 0 0 Q (F0 m 104 ls []) := by
          intro w_gains w_othersGains mS
          intro n104
          induction n104 with
          | zero => intro y4 H locs ls hP hD hS hl h; exact absurd h (by simp [S_Mind_settledPair_L104])
          | succ n104 ih104 =>
            intro y4 H locs ls hP hD hS hl h
            rw [S_Mind_settledPair_L104] at h
            refine lv_iload hx hb dX5_settledPair_104 (lv_at hl 1 rfl) ?_
            refine lv_iconst (v := 4) hx hb dX5_settledPair_106 (by decide) ?_
            refine lv_icmp_ge (tgt := 167) hx hb dX5_settledPair_107 (by decide) (fun c107 => ?_) (fun c107 => ?_)
            · have h := k_pos c107 h
              refine lv_bipush (v := (-4)) hx hb dX5_settledPair_167 (by decide) ?_
              cases h
              exact hret _ _ _ _ hP hS dX5_settledPair_169
            · have h := k_neg c107 h
              refine lv_aload_n hx hb dX5_settledPair_110 rfl (lv_at hl 0 rfl) ?_
              refine va_get (D := D) (ci := 5) (v := .ref (aW 1)) (C := RX5) (T := TX5) (N := 5) hx hb hts hiX5 hown hK hP 0 rfl rfl 2 (by decide) hf9 (fun _ z => z) rfl dX5_settledPair_111 ?_
              refine lv_iload hx hb dX5_settledPair_114 (lv_at hl 1 rfl) ?_
              obtain ⟨g116, h⟩ := k_guard h
              refine va_iald hx hb hK hP 1 0 rfl rfl g116 dX5_settledPair_116 ?_
              refine lv_aload_n hx hb dX5_settledPair_117 rfl (lv_at hl 0 rfl) ?_
              refine va_get (D := D) (ci := 5) (v := .ref (aW 1)) (C := RX5) (T := TX5) (N := 5) hx hb hts hiX5 hown hK hP 0 rfl rfl 2 (by decide) hf9 (fun _ z => z) rfl dX5_settledPair_118 ?_
              refine lv_iload hx hb dX5_settledPair_121 (lv_at hl 1 rfl) ?_
              refine lv_iconst (v := 2) hx hb dX5_settledPair_123 (by decide) ?_
              refine lv_ixor hx hb dX5_settledPair_124 ?_
              obtain ⟨g125, h⟩ := k_guard h
              refine va_iald hx hb hK hP 1 0 rfl rfl g125 dX5_settledPair_125 ?_
              refine lv_icmp_lt (tgt := 161) hx hb dX5_settledPair_126 (by decide) (fun c126 => ?_) (fun c126 => ?_)
              · have h := k_pos c126 h
                refine lv_iinc (v := (y4 + 1)) (lv' := [(4, .int (y4 + 1)), (0, .ref (aW 0))]) hx hb dX5_settledPair_161 hl (k := 1) rfl (by first | rfl | decide) (by decide) rfl (fun ls hl => ?_)
                refine lv_goto (tgt := 104) hx hb dX5_settledPair_164 (by decide) ?_
                exact ih104 (y4 + 1) H locs ls hP hD hS (lv_sub hl [1, 0] rfl) h
              · have h := k_neg c126 h
                refine lv_aload_n hx hb dX5_settledPair_129 rfl (lv_at hl 0 rfl) ?_
                refine va_get (D := D) (ci := 5) (v := .ref (aW 2)) (C := RX5) (T := TX5) (N := 5) hx hb hts hiX5 hown hK hP 0 rfl rfl 3 (by decide) hf15 (fun _ z => z) rfl dX5_settledPair_130 ?_
                refine lv_iload hx hb dX5_settledPair_133 (lv_at hl 1 rfl) ?_
                refine va_iald hx hb hK hP 2 0 rfl rfl g116 dX5_settledPair_135 ?_
                refine lv_aload_n hx hb dX5_settledPair_136 rfl (lv_at hl 0 rfl) ?_
                refine va_get (D := D) (ci := 5) (v := .ref (aW 2)) (C := RX5) (T := TX5) (N := 5) hx hb hts hiX5 hown hK hP 0 rfl rfl 3 (by decide) hf15 (fun _ z => z) rfl dX5_settledPair_137 ?_
                refine lv_iload hx hb dX5_settledPair_140 (lv_at hl 1 rfl) ?_
                refine lv_iconst (v := 1) hx hb dX5_settledPair_142 (by decide) ?_
                refine lv_ixor hx hb dX5_settledPair_143 ?_
                obtain ⟨g144, h⟩ := k_guard h
                refine va_iald hx hb hK hP 2 0 rfl rfl g144 dX5_settledPair_144 ?_
                refine lv_icmp_lt (tgt := 161) hx hb dX5_settledPair_145 (by decide) (fun c145 => ?_) (fun c145 => ?_)
                · have h := k_pos c145 h
                  refine lv_iinc (v := (y4 + 1)) (lv' := [(4, .int (y4 + 1)), (0, .ref (aW 0))]) hx hb dX5_settledPair_161 hl (k := 1) rfl (by first | rfl | decide) (by decide) rfl (fun ls hl => ?_)
                  refine lv_goto (tgt := 104) hx hb dX5_settledPair_164 (by decide) ?_
                  exact ih104 (y4 + 1) H locs ls hP hD hS (lv_sub hl [1, 0] rfl) h
                · have h := k_neg c145 h
                  refine lv_bipush (v := 10) hx hb dX5_settledPair_148 (by decide) ?_
                  refine lv_iload hx hb dX5_settledPair_150 (lv_at hl 1 rfl) ?_
                  refine lv_iconst (v := 1) hx hb dX5_settledPair_152 (by decide) ?_
                  refine lv_ishr hx hb dX5_settledPair_153 ?_
                  refine lv_imul hx hb dX5_settledPair_154 ?_
                  refine lv_iload hx hb dX5_settledPair_155 (lv_at hl 1 rfl) ?_
                  refine lv_iconst (v := 1) hx hb dX5_settledPair_157 (by decide) ?_
                  refine lv_iand hx hb dX5_settledPair_158 ?_
                  refine lv_iadd hx hb dX5_settledPair_159 ?_
                  cases h
                  exact hret _ _ _ _ hP hS dX5_settledPair_160
        refine lv_istore (lv' := [(4, .int 0), (0, .ref (aW 0)), (1, .int x1), (2, .int x2), (3, .int x3)]) hx hb dX5_settledPair_102 hl (by decide) rfl (fun ls hl => ?_)
        exact B104 w_gains w_othersGains mS lfu 0 H locs ls hP hD hS (lv_sub hl [1, 0] rfl) h
      · have h := k_neg c6 h
        refine lv_iload hx hb dX5_settledPair_9 (lv_at hl 4 rfl) ?_
        refine lv_iconst (v := 1) hx hb dX5_settledPair_11 (by decide) ?_
        refine lv_ishr hx hb dX5_settledPair_12 ?_
        refine lv_iload_n hx hb dX5_settledPair_13 rfl (lv_at hl 1 rfl) ?_
        refine lv_ishl hx hb dX5_settledPair_14 ?_
        refine lv_iload hx hb dX5_settledPair_15 (lv_at hl 4 rfl) ?_
        refine lv_iconst (v := 1) hx hb dX5_settledPair_17 (by decide) ?_
        refine lv_iand hx hb dX5_settledPair_18 ?_
        refine lv_iload_n hx hb dX5_settledPair_19 rfl (lv_at hl 2 rfl) ?_
        refine lv_ishl hx hb dX5_settledPair_20 ?_
        refine lv_ior hx hb dX5_settledPair_21 ?_
        refine lv_istore (lv' := [(5, .int (((y4 >>> (1 &&& 31)) <<< (x1 &&& 31)) ||| ((y4 &&& 1) <<< (x2 &&& 31)))), (0, .ref (aW 0)), (1, .int x1), (2, .int x2), (3, .int x3), (4, .int y4)]) hx hb dX5_settledPair_22 hl (by decide) rfl (fun ls hl => ?_)
        refine lv_aload_n hx hb dX5_settledPair_24 rfl (lv_at hl 1 rfl) ?_
        refine va_get (D := D) (ci := 5) (v := .ref (aM 0)) (C := RX5) (T := TX5) (N := 5) hx hb hts hiX5 hown hK hP 0 rfl rfl 1 (by decide) hf25 (fun _ z => z) rfl dX5_settledPair_25 ?_
        refine lv_aload_n hx hb dX5_settledPair_28 rfl (lv_at hl 1 rfl) ?_
        refine va_get (D := D) (ci := 5) (v := .ref (aN 0)) (C := RX5) (T := TX5) (N := 5) hx hb hts hiX5 hown hK hP 0 rfl rfl 0 (by decide) hf21 (fun _ z => z) rfl dX5_settledPair_29 ?_
        obtain ⟨r32, g32, h⟩ := k_bind h
        refine k_callV (As := [.ref (aN 0)]) (rest := []) (st1 := []) (ws2 := (Wd22 cI cM aN aW aM aK w_gains w_othersGains nS.1 nS.2.1 nS.2.2.1 nS.2.2.2.1 nS.2.2.2.2.1 nS.2.2.2.2.2.1 nS.2.2.2.2.2.2.1 nS.2.2.2.2.2.2.2.1 nS.2.2.2.2.2.2.2.2.1 nS.2.2.2.2.2.2.2.2.2.1 r32.1 r32.2.1 r32.2.2.1 r32.2.2.2.1 r32.2.2.2.2.1 r32.2.2.2.2.2.1 mS.2.2.2.2.2.2.1 r32.2.2.2.2.2.2.1 r32.2.2.2.2.2.2.2.1 r32.2.2.2.2.2.2.2.2)) hx hb hml hown hts hK hN hA hP hD hS hl (c_City_becomes l D cI cM cS cJ aM aN aK H.size mS.1 mS.2.1 mS.2.2.1 mS.2.2.2.1 mS.2.2.2.2.1 mS.2.2.2.2.2.1 mS.2.2.2.2.2.2.1 mS.2.2.2.2.2.2.2.1 mS.2.2.2.2.2.2.2.2.1 mS.2.2.2.2.2.2.2.2.2.1 nS.1 nS.2.1 nS.2.2.1 nS.2.2.2.1 nS.2.2.2.2.1 nS.2.2.2.2.2.1 nS.2.2.2.2.2.2.1 nS.2.2.2.2.2.2.2.1 nS.2.2.2.2.2.2.2.2.1 nS.2.2.2.2.2.2.2.2.2.1 g32) gX5_settledPair_X2_becomes rfl kdV_X2_becomes 0 2 rfl rfl rfl [7, 8, 9, 10, 3, 4, 5, 6] ⟨rfl, rfl⟩ ⟨Nat.le_of_ble_eq_true rfl, Nat.le_of_ble_eq_true rfl⟩ ⟨Nat.zero_le _, Nat.zero_le _⟩ rfl rfl (by decide +kernel) rfl rfl rfl (Nat.le_of_ble_eq_true rfl) dX5_settledPair_32 rfl (fun H locs hP hD hS => ?_)
        refine lv_aload_n hx hb dX5_settledPair_35 rfl (lv_at hl 1 rfl) ?_
        refine va_get (D := D) (ci := 5) (v := .ref (aM 0)) (C := RX5) (T := TX5) (N := 5) hx hb hts hiX5 hown hK hP 0 rfl rfl 1 (by decide) hf25 (fun _ z => z) rfl dX5_settledPair_36 ?_
        refine lv_dup hx hb dX5_settledPair_39 rfl ?_
        refine va_get (D := D) (ci := 2) (v := .int r32.2.1) (C := RX2) (T := TX2) (N := 12) hx hb hts hiX2 hown hK hP 7 rfl rfl 4 (by decide) hf70 (fun _ z => z) rfl dX5_settledPair_40 ?_
        refine lv_iload hx hb dX5_settledPair_43 (lv_at hl 0 rfl) ?_
        refine lv_ior hx hb dX5_settledPair_45 ?_
        refine va_put (D := D) (ci := 2) (v := .int (r32.2.1 ||| (((y4 >>> (1 &&& 31)) <<< (x1 &&& 31)) ||| ((y4 &&& 1) <<< (x2 &&& 31))))) (ty := .int) (C := RX2) (T := TX2) (N := 12) hx hb hts hiX2 tyX2 tyX2_ok nmX2 hown hK hP hD hS 7 rfl rfl 4 (by decide) hf70 (fun _ z => z) rfl (by decide +kernel) rfl rfl (Nat.le_of_ble_eq_true rfl) dX5_settledPair_46 (fun H locs hP hD hS => ?_)
        replace hP : va_P D vwCl (Wd22 cI cM aN aW aM aK w_gains w_othersGains nS.1 nS.2.1 nS.2.2.1 nS.2.2.2.1 nS.2.2.2.2.1 nS.2.2.2.2.2.1 nS.2.2.2.2.2.2.1 nS.2.2.2.2.2.2.2.1 nS.2.2.2.2.2.2.2.2.1 nS.2.2.2.2.2.2.2.2.2.1 r32.1 (r32.2.1 ||| (((y4 >>> (1 &&& 31)) <<< (x1 &&& 31)) ||| ((y4 &&& 1) <<< (x2 &&& 31)))) r32.2.2.1 r32.2.2.2.1 r32.2.2.2.2.1 r32.2.2.2.2.2.1 mS.2.2.2.2.2.2.1 r32.2.2.2.2.2.2.1 r32.2.2.2.2.2.2.2.1 r32.2.2.2.2.2.2.2.2) H := hP
        replace hD : va_D A (Wd22 cI cM aN aW aM aK w_gains w_othersGains nS.1 nS.2.1 nS.2.2.1 nS.2.2.2.1 nS.2.2.2.2.1 nS.2.2.2.2.2.1 nS.2.2.2.2.2.2.1 nS.2.2.2.2.2.2.2.1 nS.2.2.2.2.2.2.2.2.1 nS.2.2.2.2.2.2.2.2.2.1 r32.1 (r32.2.1 ||| (((y4 >>> (1 &&& 31)) <<< (x1 &&& 31)) ||| ((y4 &&& 1) <<< (x2 &&& 31)))) r32.2.2.1 r32.2.2.2.1 r32.2.2.2.2.1 r32.2.2.2.2.2.1 mS.2.2.2.2.2.2.1 r32.2.2.2.2.2.2.1 r32.2.2.2.2.2.2.2.1 r32.2.2.2.2.2.2.2.2) := hD
        refine lv_aload_n hx hb dX5_settledPair_49 rfl (lv_at hl 1 rfl) ?_
        refine va_get (D := D) (ci := 5) (v := .ref (aM 0)) (C := RX5) (T := TX5) (N := 5) hx hb hts hiX5 hown hK hP 0 rfl rfl 1 (by decide) hf25 (fun _ z => z) rfl dX5_settledPair_50 ?_
        refine lv_iload_n hx hb dX5_settledPair_53 rfl (lv_at hl 4 rfl) ?_
        obtain ⟨r54, g54, h⟩ := k_bind h
        refine k_callV (As := [.int x3]) (rest := []) (st1 := [.int r54.1]) (ws2 := (Wd22 cI cM aN aW aM aK w_gains w_othersGains nS.1 nS.2.1 nS.2.2.1 nS.2.2.2.1 nS.2.2.2.2.1 nS.2.2.2.2.2.1 nS.2.2.2.2.2.2.1 nS.2.2.2.2.2.2.2.1 nS.2.2.2.2.2.2.2.2.1 nS.2.2.2.2.2.2.2.2.2.1 r32.1 (r32.2.1 ||| (((y4 >>> (1 &&& 31)) <<< (x1 &&& 31)) ||| ((y4 &&& 1) <<< (x2 &&& 31)))) r54.2.1 r54.2.2.1 r54.2.2.2.1 r54.2.2.2.2.1 r54.2.2.2.2.2.1 r32.2.2.2.2.2.2.1 r32.2.2.2.2.2.2.2.1 r54.2.2.2.2.2.2)) hx hb hml hown hts hK hN hA hP hD hS hl (c_City_passDays l D cI cM cS cJ aM aK H.size x3 r32.1 (r32.2.1 ||| (((y4 >>> (1 &&& 31)) <<< (x1 &&& 31)) ||| ((y4 &&& 1) <<< (x2 &&& 31)))) r32.2.2.1 r32.2.2.2.1 r32.2.2.2.2.1 r32.2.2.2.2.2.1 mS.2.2.2.2.2.2.1 r32.2.2.2.2.2.2.1 r32.2.2.2.2.2.2.2.1 r32.2.2.2.2.2.2.2.2 g54) gX5_settledPair_X2_passDays rfl kdV_X2_passDays 0 2 rfl rfl rfl [7, 8, 9, 10, 11, 12, 13, 14, 15, 16, 17, 18, 19] ⟨rfl, rfl⟩ ⟨Nat.le_of_ble_eq_true rfl, Nat.le_of_ble_eq_true rfl⟩ ⟨Nat.zero_le _, Nat.zero_le _⟩ rfl rfl (by decide +kernel) rfl rfl rfl (Nat.le_of_ble_eq_true rfl) dX5_settledPair_54 rfl (fun H locs hP hD hS => ?_)
        refine lv_istore (lv' := [(6, .int r54.1), (5, .int (((y4 >>> (1 &&& 31)) <<< (x1 &&& 31)) ||| ((y4 &&& 1) <<< (x2 &&& 31)))), (0, .ref (aW 0)), (1, .int x1), (2, .int x2), (3, .int x3), (4, .int y4)]) hx hb dX5_settledPair_57 hl (by decide) rfl (fun ls hl => ?_)
        refine lv_aload_n hx hb dX5_settledPair_59 rfl (lv_at hl 2 rfl) ?_
        refine va_get (D := D) (ci := 5) (v := .ref (aW 1)) (C := RX5) (T := TX5) (N := 5) hx hb hts hiX5 hown hK hP 0 rfl rfl 2 (by decide) hf9 (fun _ z => z) rfl dX5_settledPair_60 ?_
        refine lv_iload hx hb dX5_settledPair_63 (lv_at hl 6 rfl) ?_
        refine lv_aload_n hx hb dX5_settledPair_65 rfl (lv_at hl 2 rfl) ?_
        refine lv_iload_n hx hb dX5_settledPair_66 rfl (lv_at hl 3 rfl) ?_
        refine lv_iload hx hb dX5_settledPair_67 (lv_at hl 6 rfl) ?_
        refine lv_iconst (v := 1) hx hb dX5_settledPair_69 (by decide) ?_
        refine lv_ishr hx hb dX5_settledPair_70 ?_
        refine lv_iload hx hb dX5_settledPair_71 (lv_at hl 0 rfl) ?_
        obtain ⟨r73, g73, h⟩ := k_bind h
        refine k_callV (As := [.int x1, .int (y4 >>> (1 &&& 31)), .int r54.1]) (rest := [.int y4, .ref (aW 1)]) (st1 := [.int r73, .int y4, .ref (aW 1)]) (ws2 := (Wd22 cI cM aN aW aM aK w_gains w_othersGains nS.1 nS.2.1 nS.2.2.1 nS.2.2.2.1 nS.2.2.2.2.1 nS.2.2.2.2.2.1 nS.2.2.2.2.2.2.1 nS.2.2.2.2.2.2.2.1 nS.2.2.2.2.2.2.2.2.1 nS.2.2.2.2.2.2.2.2.2.1 r32.1 (r32.2.1 ||| (((y4 >>> (1 &&& 31)) <<< (x1 &&& 31)) ||| ((y4 &&& 1) <<< (x2 &&& 31)))) r54.2.1 r54.2.2.1 r54.2.2.2.1 r54.2.2.2.2.1 r54.2.2.2.2.2.1 r32.2.2.2.2.2.2.1 r32.2.2.2.2.2.2.2.1 r54.2.2.2.2.2.2)) hx hb hml hown hts hK hN hA hP hD hS hl (c_Mind_gainOf l D cI cM cS cJ aN aW aM aK H.size x1 (y4 >>> (1 &&& 31)) r54.1 (r32.1, (r32.2.1 ||| (((y4 >>> (1 &&& 31)) <<< (x1 &&& 31)) ||| ((y4 &&& 1) <<< (x2 &&& 31)))), r54.2.1, r54.2.2.1, r54.2.2.2.1, r54.2.2.2.2.1, r54.2.2.2.2.2.1, r32.2.2.2.2.2.2.1, r32.2.2.2.2.2.2.2.1, r54.2.2.2.2.2.2, mS.2.2.2.2.2.2.2.2.2.2) g73) gX5_settledPair_X5_gainOf rfl kdV_X5_gainOf 0 5 rfl rfl rfl [0, 7, 8, 9, 10, 11, 12, 13, 14, 15, 16, 17, 18, 19] ⟨rfl, rfl⟩ ⟨Nat.le_of_ble_eq_true rfl, Nat.le_of_ble_eq_true rfl⟩ ⟨Nat.zero_le _, Nat.zero_le _⟩ rfl rfl (by decide +kernel) rfl rfl rfl (Nat.le_of_ble_eq_true rfl) dX5_settledPair_73 rfl (fun H locs hP hD hS => ?_)
        obtain ⟨g76, h⟩ := k_guard h
        refine va_iast hx hb hK hP hD hS 1 0 rfl rfl g76 dX5_settledPair_76 (fun H locs hP hD hS => ?_)
        replace hP : va_P D vwCl (Wd22 cI cM aN aW aM aK (upd w_gains y4.toNatClampNeg r73) w_othersGains nS.1 nS.2.1 nS.2.2.1 nS.2.2.2.1 nS.2.2.2.2.1 nS.2.2.2.2.2.1 nS.2.2.2.2.2.2.1 nS.2.2.2.2.2.2.2.1 nS.2.2.2.2.2.2.2.2.1 nS.2.2.2.2.2.2.2.2.2.1 r32.1 (r32.2.1 ||| (((y4 >>> (1 &&& 31)) <<< (x1 &&& 31)) ||| ((y4 &&& 1) <<< (x2 &&& 31)))) r54.2.1 r54.2.2.1 r54.2.2.2.1 r54.2.2.2.2.1 r54.2.2.2.2.2.1 r32.2.2.2.2.2.2.1 r32.2.2.2.2.2.2.2.1 r54.2.2.2.2.2.2) H := hP
        replace hD : va_D A (Wd22 cI cM aN aW aM aK (upd w_gains y4.toNatClampNeg r73) w_othersGains nS.1 nS.2.1 nS.2.2.1 nS.2.2.2.1 nS.2.2.2.2.1 nS.2.2.2.2.2.1 nS.2.2.2.2.2.2.1 nS.2.2.2.2.2.2.2.1 nS.2.2.2.2.2.2.2.2.1 nS.2.2.2.2.2.2.2.2.2.1 r32.1 (r32.2.1 ||| (((y4 >>> (1 &&& 31)) <<< (x1 &&& 31)) ||| ((y4 &&& 1) <<< (x2 &&& 31)))) r54.2.1 r54.2.2.1 r54.2.2.2.1 r54.2.2.2.2.1 r54.2.2.2.2.2.1 r32.2.2.2.2.2.2.1 r32.2.2.2.2.2.2.2.1 r54.2.2.2.2.2.2) := hD
        refine lv_aload_n hx hb dX5_settledPair_77 rfl (lv_at hl 2 rfl) ?_
        refine va_get (D := D) (ci := 5) (v := .ref (aW 2)) (C := RX5) (T := TX5) (N := 5) hx hb hts hiX5 hown hK hP 0 rfl rfl 3 (by decide) hf15 (fun _ z => z) rfl dX5_settledPair_78 ?_
        refine lv_iload hx hb dX5_settledPair_81 (lv_at hl 6 rfl) ?_
        refine lv_aload_n hx hb dX5_settledPair_83 rfl (lv_at hl 2 rfl) ?_
        refine lv_iload_n hx hb dX5_settledPair_84 rfl (lv_at hl 4 rfl) ?_
        refine lv_iload hx hb dX5_settledPair_85 (lv_at hl 6 rfl) ?_
        refine lv_iconst (v := 1) hx hb dX5_settledPair_87 (by decide) ?_
        refine lv_iand hx hb dX5_settledPair_88 ?_
        refine lv_iload hx hb dX5_settledPair_89 (lv_at hl 0 rfl) ?_
        obtain ⟨r91, g91, h⟩ := k_bind h
        refine k_callV (As := [.int x2, .int (y4 &&& 1), .int r54.1]) (rest := [.int y4, .ref (aW 2)]) (st1 := [.int r91, .int y4, .ref (aW 2)]) (ws2 := (Wd22 cI cM aN aW aM aK (upd w_gains y4.toNatClampNeg r73) w_othersGains nS.1 nS.2.1 nS.2.2.1 nS.2.2.2.1 nS.2.2.2.2.1 nS.2.2.2.2.2.1 nS.2.2.2.2.2.2.1 nS.2.2.2.2.2.2.2.1 nS.2.2.2.2.2.2.2.2.1 nS.2.2.2.2.2.2.2.2.2.1 r32.1 (r32.2.1 ||| (((y4 >>> (1 &&& 31)) <<< (x1 &&& 31)) ||| ((y4 &&& 1) <<< (x2 &&& 31)))) r54.2.1 r54.2.2.1 r54.2.2.2.1 r54.2.2.2.2.1 r54.2.2.2.2.2.1 r32.2.2.2.2.2.2.1 r32.2.2.2.2.2.2.2.1 r54.2.2.2.2.2.2)) hx hb hml hown hts hK hN hA hP hD hS hl (c_Mind_gainOf l D cI cM cS cJ aN aW aM aK H.size x2 (y4 &&& 1) r54.1 (r32.1, (r32.2.1 ||| (((y4 >>> (1 &&& 31)) <<< (x1 &&& 31)) ||| ((y4 &&& 1) <<< (x2 &&& 31)))), r54.2.1, r54.2.2.1, r54.2.2.2.1, r54.2.2.2.2.1, r54.2.2.2.2.2.1, r32.2.2.2.2.2.2.1, r32.2.2.2.2.2.2.2.1, r54.2.2.2.2.2.2, mS.2.2.2.2.2.2.2.2.2.2) g91) gX5_settledPair_X5_gainOf rfl kdV_X5_gainOf 0 5 rfl rfl rfl [0, 7, 8, 9, 10, 11, 12, 13, 14, 15, 16, 17, 18, 19] ⟨rfl, rfl⟩ ⟨Nat.le_of_ble_eq_true rfl, Nat.le_of_ble_eq_true rfl⟩ ⟨Nat.zero_le _, Nat.zero_le _⟩ rfl rfl (by decide +kernel) rfl rfl rfl (Nat.le_of_ble_eq_true rfl) dX5_settledPair_91 rfl (fun H locs hP hD hS => ?_)
        refine va_iast hx hb hK hP hD hS 2 0 rfl rfl g76 dX5_settledPair_94 (fun H locs hP hD hS => ?_)
        replace hP : va_P D vwCl (Wd22 cI cM aN aW aM aK (upd w_gains y4.toNatClampNeg r73) (upd w_othersGains y4.toNatClampNeg r91) nS.1 nS.2.1 nS.2.2.1 nS.2.2.2.1 nS.2.2.2.2.1 nS.2.2.2.2.2.1 nS.2.2.2.2.2.2.1 nS.2.2.2.2.2.2.2.1 nS.2.2.2.2.2.2.2.2.1 nS.2.2.2.2.2.2.2.2.2.1 r32.1 (r32.2.1 ||| (((y4 >>> (1 &&& 31)) <<< (x1 &&& 31)) ||| ((y4 &&& 1) <<< (x2 &&& 31)))) r54.2.1 r54.2.2.1 r54.2.2.2.1 r54.2.2.2.2.1 r54.2.2.2.2.2.1 r32.2.2.2.2.2.2.1 r32.2.2.2.2.2.2.2.1 r54.2.2.2.2.2.2) H := hP
        replace hD : va_D A (Wd22 cI cM aN aW aM aK (upd w_gains y4.toNatClampNeg r73) (upd w_othersGains y4.toNatClampNeg r91) nS.1 nS.2.1 nS.2.2.1 nS.2.2.2.1 nS.2.2.2.2.1 nS.2.2.2.2.2.1 nS.2.2.2.2.2.2.1 nS.2.2.2.2.2.2.2.1 nS.2.2.2.2.2.2.2.2.1 nS.2.2.2.2.2.2.2.2.2.1 r32.1 (r32.2.1 ||| (((y4 >>> (1 &&& 31)) <<< (x1 &&& 31)) ||| ((y4 &&& 1) <<< (x2 &&& 31)))) r54.2.1 r54.2.2.1 r54.2.2.2.1 r54.2.2.2.2.1 r54.2.2.2.2.2.1 r32.2.2.2.2.2.2.1 r32.2.2.2.2.2.2.2.1 r54.2.2.2.2.2.2) := hD
        refine lv_iinc (v := (y4 + 1)) (lv' := [(4, .int (y4 + 1)), (6, .int r54.1), (5, .int (((y4 >>> (1 &&& 31)) <<< (x1 &&& 31)) ||| ((y4 &&& 1) <<< (x2 &&& 31)))), (0, .ref (aW 0)), (1, .int x1), (2, .int x2), (3, .int x3)]) hx hb dX5_settledPair_95 hl (k := 6) rfl (by first | rfl | decide) (by decide) rfl (fun ls hl => ?_)
        refine lv_goto (tgt := 3) hx hb dX5_settledPair_98 (by decide) ?_
        exact ih3 (y4 + 1) (upd w_gains y4.toNatClampNeg r73) (upd w_othersGains y4.toNatClampNeg r91) (r32.1, (r32.2.1 ||| (((y4 >>> (1 &&& 31)) <<< (x1 &&& 31)) ||| ((y4 &&& 1) <<< (x2 &&& 31)))), r54.2.1, r54.2.2.1, r54.2.2.2.1, r54.2.2.2.2.1, r54.2.2.2.2.2.1, r32.2.2.2.2.2.2.1, r32.2.2.2.2.2.2.2.1, r54.2.2.2.2.2.2, mS.2.2.2.2.2.2.2.2.2.2) H locs ls hP hD hS (lv_sub hl [3, 4, 5, 6, 0] rfl) h
  refine lv_istore (lv' := [(4, .int 0), (0, .ref (aW 0)), (1, .int x1), (2, .int x2), (3, .int x3)]) hx hb dX5_settledPair_1 hl (by decide) rfl (fun ls hl => ?_)
  exact B3 lfu 0 w_gains w_othersGains mS s.heap [] ls hP hD hS (lv_sub hl [1, 2, 3, 4, 0] rfl) h
theorem kdS_X11_power : yX11_power.cls ≠ "java/lang/invoke/MethodHandle" ∧ yX11_power.cls ≠ "java/lang/invoke/VarHandle" ∧ (parseMethodDescriptor yX11_power.desc).map (fun d => d.parameters.length) = some 2 := by decide +kernel
abbrev rm_X5_shockedUpright : Room := { frames := 4, cells := 0, slots := 0, locals := 105 }
set_option maxHeartbeats 4000000 in
set_option maxRecDepth 100000 in
theorem c_Mind_shockedUpright (l : Launch) (D : va_G) (cI cM cS cJ : ClassId) (aN : Nat → Nat) (aW : Nat → Nat) (aM : Nat → Nat) (aK : Nat → Nat) (sz : Nat) (x1 : Int32) (x2 : Int32) (x3 : Int32) (nS : CS) (mS : CS) {o : (Int64) × (CS)} (hsem : S_Mind_shockedUpright x1 x2 x3 nS mS = some o) : kMet l yX5_shockedUpright wsX5_shockedUpright rm_X5_shockedUpright [.ref (aW 0), .int x1, .int x2, .int x3] D (kT cI cM cS cJ) (Wd16 cI cM aN aW aM aK nS.1 nS.2.1 nS.2.2.1 nS.2.2.2.1 nS.2.2.2.2.1 nS.2.2.2.2.2.1 nS.2.2.2.2.2.2.1 nS.2.2.2.2.2.2.2.1 nS.2.2.2.2.2.2.2.2.1 nS.2.2.2.2.2.2.2.2.2.1 mS.1 mS.2.1 mS.2.2.1 mS.2.2.2.1 mS.2.2.2.2.1 mS.2.2.2.2.2.1 mS.2.2.2.2.2.2.1 mS.2.2.2.2.2.2.2.1 mS.2.2.2.2.2.2.2.2.1 mS.2.2.2.2.2.2.2.2.2.1) sz (some (.long o.1)) (Wd16 cI cM aN aW aM aK nS.1 nS.2.1 nS.2.2.1 nS.2.2.2.1 nS.2.2.2.2.1 nS.2.2.2.2.2.1 nS.2.2.2.2.2.2.1 nS.2.2.2.2.2.2.2.1 nS.2.2.2.2.2.2.2.2.1 nS.2.2.2.2.2.2.2.2.2.1 o.2.1 o.2.2.1 o.2.2.2.1 o.2.2.2.2.1 o.2.2.2.2.2.1 o.2.2.2.2.2.2.1 o.2.2.2.2.2.2.2.1 o.2.2.2.2.2.2.2.2.1 o.2.2.2.2.2.2.2.2.2.1 o.2.2.2.2.2.2.2.2.2.2.1) := by
  refine k_metJ (by decide) rfl rfl (Nat.le_of_ble_eq_true rfl) ?_
  intro p e s m below meth c ls Q A hx hb hml hts hown hK hN hA hP hD hS hl hsz hnm hret
  have hown : s.vm.findClass RX5 = some m.cls := hown
  have hf25 := hts (.fieldLink RX5 25 "PlumbLine$Mind" "then" "LPlumbLine$City;") (List.mem_of_getElem? (i := 1) rfl)
  have hf21 := hts (.fieldLink RX5 21 "PlumbLine$Mind" "now" "LPlumbLine$City;") (List.mem_of_getElem? (i := 2) rfl)
  have hiX5 : ∀ w ∈ u_ws RX5 TX5 5, w ∈ wsX5_shockedUpright := fun w h => List.mem_cons_of_mem _ (List.mem_append_left _ (List.mem_append_right _ h))
  replace hl : lv_has ls 8 [(0, .ref (aW 0)), (1, .int x1), (2, .int x2), (3, .int x3)] := hl
  have h := hsem
  clear hsem
  rw [S_Mind_shockedUpright] at h
  refine lv_lconst (v := 0) hx hb dX5_shockedUpright_0 (by decide) ?_
  refine lv_lstore (lv' := [(4, .long 0), (0, .ref (aW 0)), (1, .int x1), (2, .int x2), (3, .int x3)]) hx hb dX5_shockedUpright_1 hl (by decide) rfl (fun ls hl => ?_)
  refine lv_iconst (v := 0) hx hb dX5_shockedUpright_3 (by decide) ?_
  have B6 : ∀ (n6 : Nat) (y4 : Int64) (y6 : Int32) (mS : CS) (H : Heap) (locs : List Loc) (ls : Array Slot), va_P D vwCl (Wd16 cI cM aN aW aM aK nS.1 nS.2.1 nS.2.2.1 nS.2.2.2.1 nS.2.2.2.2.1 nS.2.2.2.2.2.1 nS.2.2.2.2.2.2.1 nS.2.2.2.2.2.2.2.1 nS.2.2.2.2.2.2.2.2.1 nS.2.2.2.2.2.2.2.2.2.1 mS.1 mS.2.1 mS.2.2.1 mS.2.2.2.1 mS.2.2.2.2.1 mS.2.2.2.2.2.1 mS.2.2.2.2.2.2.1 mS.2.2.2.2.2.2.2.1 mS.2.2.2.2.2.2.2.2.1 mS.2.2.2.2.2.2.2.2.2.1) H → va_D A (Wd16 cI cM aN aW aM aK nS.1 nS.2.1 nS.2.2.1 nS.2.2.2.1 nS.2.2.2.2.1 nS.2.2.2.2.2.1 nS.2.2.2.2.2.2.1 nS.2.2.2.2.2.2.2.1 nS.2.2.2.2.2.2.2.2.1 nS.2.2.2.2.2.2.2.2.2.1 mS.1 mS.2.1 mS.2.2.1 mS.2.2.2.1 mS.2.2.2.2.1 mS.2.2.2.2.2.1 mS.2.2.2.2.2.2.1 mS.2.2.2.2.2.2.2.1 mS.2.2.2.2.2.2.2.2.1 mS.2.2.2.2.2.2.2.2.2.1) → va_S A s.heap H locs → lv_has ls 8 [(0, .ref (aW 0)), (1, .int x1), (2, .int x2), (3, .int x3), (4, .long y4), (6, .int y6)] → S_Mind_shockedUpright_L6 x1 x2 x3 nS n6 y4 y6 mS = some o → W p l e rm_X5_shockedUpright s m ([.ref (aW 0), .int x1, .int x2, .int x3] : List Value).toArray below meth c H locs 0 0 Q (F0 m 6 ls []) := by
    intro n6
    induction n6 with
    | zero => intro y4 y6 mS H locs ls hP hD hS hl h; exact absurd h (by simp [S_Mind_shockedUpright_L6])
    | succ n6 ih6 =>
      intro y4 y6 mS H locs ls hP hD hS hl h
      rw [S_Mind_shockedUpright_L6] at h
      refine lv_iload hx hb dX5_shockedUpright_6 (lv_at hl 5 rfl) ?_
      refine lv_iconst (v := 1) hx hb dX5_shockedUpright_8 (by decide) ?_
      refine lv_iload_n hx hb dX5_shockedUpright_9 rfl (lv_at hl 2 rfl) ?_
      refine lv_ishl hx hb dX5_shockedUpright_10 ?_
      refine lv_icmp_ge (tgt := 99) hx hb dX5_shockedUpright_11 (by decide) (fun c11 => ?_) (fun c11 => ?_)
      · have h := k_pos c11 h
        refine lv_lload hx hb dX5_shockedUpright_99 (lv_at hl 4 rfl) ?_
        cases h
        exact hret _ _ _ _ hP hS dX5_shockedUpright_101
      · have h := k_neg c11 h
        refine lv_aload_n hx hb dX5_shockedUpright_14 rfl (lv_at hl 0 rfl) ?_
        refine va_get (D := D) (ci := 5) (v := .ref (aM 0)) (C := RX5) (T := TX5) (N := 5) hx hb hts hiX5 hown hK hP 0 rfl rfl 1 (by decide) hf25 (fun _ z => z) rfl dX5_shockedUpright_15 ?_
        refine lv_aload_n hx hb dX5_shockedUpright_18 rfl (lv_at hl 0 rfl) ?_
        refine va_get (D := D) (ci := 5) (v := .ref (aN 0)) (C := RX5) (T := TX5) (N := 5) hx hb hts hiX5 hown hK hP 0 rfl rfl 0 (by decide) hf21 (fun _ z => z) rfl dX5_shockedUpright_19 ?_
        obtain ⟨r22, g22, h⟩ := k_bind h
        refine k_callV (As := [.ref (aN 0)]) (rest := []) (st1 := []) (ws2 := (Wd16 cI cM aN aW aM aK nS.1 nS.2.1 nS.2.2.1 nS.2.2.2.1 nS.2.2.2.2.1 nS.2.2.2.2.2.1 nS.2.2.2.2.2.2.1 nS.2.2.2.2.2.2.2.1 nS.2.2.2.2.2.2.2.2.1 nS.2.2.2.2.2.2.2.2.2.1 r22.1 r22.2.1 r22.2.2.1 r22.2.2.2.1 r22.2.2.2.2.1 r22.2.2.2.2.2.1 mS.2.2.2.2.2.2.1 r22.2.2.2.2.2.2.1 r22.2.2.2.2.2.2.2.1 r22.2.2.2.2.2.2.2.2)) hx hb hml hown hts hK hN hA hP hD hS hl (c_City_becomes l D cI cM cS cJ aM aN aK H.size mS.1 mS.2.1 mS.2.2.1 mS.2.2.2.1 mS.2.2.2.2.1 mS.2.2.2.2.2.1 mS.2.2.2.2.2.2.1 mS.2.2.2.2.2.2.2.1 mS.2.2.2.2.2.2.2.2.1 mS.2.2.2.2.2.2.2.2.2.1 nS.1 nS.2.1 nS.2.2.1 nS.2.2.2.1 nS.2.2.2.2.1 nS.2.2.2.2.2.1 nS.2.2.2.2.2.2.1 nS.2.2.2.2.2.2.2.1 nS.2.2.2.2.2.2.2.2.1 nS.2.2.2.2.2.2.2.2.2.1 g22) gX5_shockedUpright_X2_becomes rfl kdV_X2_becomes 0 2 rfl rfl rfl [5, 6, 7, 8, 1, 2, 3, 4] ⟨rfl, rfl⟩ ⟨Nat.le_of_ble_eq_true rfl, Nat.le_of_ble_eq_true rfl⟩ ⟨Nat.zero_le _, Nat.zero_le _⟩ rfl rfl (by decide +kernel) rfl rfl rfl (Nat.le_of_ble_eq_true rfl) dX5_shockedUpright_22 rfl (fun H locs hP hD hS => ?_)
        refine lv_iconst (v := 0) hx hb dX5_shockedUpright_25 (by decide) ?_
        have B28 : ∀ (y4 : Int64) (y6 : Int32) (n28 : Nat) (y7 : Int32) (mS : CS) (H : Heap) (locs : List Loc) (ls : Array Slot), va_P D vwCl (Wd16 cI cM aN aW aM aK nS.1 nS.2.1 nS.2.2.1 nS.2.2.2.1 nS.2.2.2.2.1 nS.2.2.2.2.2.1 nS.2.2.2.2.2.2.1 nS.2.2.2.2.2.2.2.1 nS.2.2.2.2.2.2.2.2.1 nS.2.2.2.2.2.2.2.2.2.1 mS.1 mS.2.1 mS.2.2.1 mS.2.2.2.1 mS.2.2.2.2.1 mS.2.2.2.2.2.1 mS.2.2.2.2.2.2.1 mS.2.2.2.2.2.2.2.1 mS.2.2.2.2.2.2.2.2.1 mS.2.2.2.2.2.2.2.2.2.1) H → va_D A (Wd16 cI cM aN aW aM aK nS.1 nS.2.1 nS.2.2.1 nS.2.2.2.1 nS.2.2.2.2.1 nS.2.2.2.2.2.1 nS.2.2.2.2.2.2.1 nS.2.2.2.2.2.2.2.1 nS.2.2.2.2.2.2.2.2.1 nS.2.2.2.2.2.2.2.2.2.1 mS.1 mS.2.1 mS.2.2.1 mS.2.2.2.1 mS.2.2.2.2.1 mS.2.2.2.2.2.1 mS.2.2.2.2.2.2.1 mS.2.2.2.2.2.2.2.1 mS.2.2.2.2.2.2.2.2.1 mS.2.2.2.2.2.2.2.2.2.1) → va_S A s.heap H locs → lv_has ls 8 [(0, .ref (aW 0)), (1, .int x1), (2, .int x2), (3, .int x3), (4, .long y4), (6, .int y6), (7, .int y7)] → S_Mind_shockedUpright_L28 (S_Mind_shockedUpright_L6 x1 x2 x3 nS n6) x1 x2 x3 y4 y6 n28 y7 mS = some o → W p l e rm_X5_shockedUpright s m ([.ref (aW 0), .int x1, .int x2, .int x3] : List Value).toArray below meth c H locs 0 0 Q (F0 m 28 ls []) := by
          intro y4 y6
          intro n28
          induction n28 with
          | zero => intro y7 mS H locs ls hP hD hS hl h; exact absurd h (by simp [S_Mind_shockedUpright_L28])
          | succ n28 ih28 =>
            intro y7 mS H locs ls hP hD hS hl h
            rw [S_Mind_shockedUpright_L28] at h
            refine lv_iload hx hb dX5_shockedUpright_28 (lv_at hl 6 rfl) ?_
            refine lv_iload_n hx hb dX5_shockedUpright_30 rfl (lv_at hl 2 rfl) ?_
            refine lv_icmp_ge (tgt := 64) hx hb dX5_shockedUpright_31 (by decide) (fun c31 => ?_) (fun c31 => ?_)
            · have h := k_pos c31 h
              refine lv_aload_n hx hb dX5_shockedUpright_64 rfl (lv_at hl 0 rfl) ?_
              refine va_get (D := D) (ci := 5) (v := .ref (aM 0)) (C := RX5) (T := TX5) (N := 5) hx hb hts hiX5 hown hK hP 0 rfl rfl 1 (by decide) hf25 (fun _ z => z) rfl dX5_shockedUpright_65 ?_
              refine lv_iload_n hx hb dX5_shockedUpright_68 rfl (lv_at hl 1 rfl) ?_
              obtain ⟨r69, g69, h⟩ := k_bind h
              refine k_callV (As := [.int x1]) (rest := []) (st1 := [.int r69]) (ws2 := (Wd16 cI cM aN aW aM aK nS.1 nS.2.1 nS.2.2.1 nS.2.2.2.1 nS.2.2.2.2.1 nS.2.2.2.2.2.1 nS.2.2.2.2.2.2.1 nS.2.2.2.2.2.2.2.1 nS.2.2.2.2.2.2.2.2.1 nS.2.2.2.2.2.2.2.2.2.1 mS.1 mS.2.1 mS.2.2.1 mS.2.2.2.1 mS.2.2.2.2.1 mS.2.2.2.2.2.1 mS.2.2.2.2.2.2.1 mS.2.2.2.2.2.2.2.1 mS.2.2.2.2.2.2.2.2.1 mS.2.2.2.2.2.2.2.2.2.1)) hx hb hml hown hts hK hN hA hP hD hS hl (c_City_isUpright l D cI cM cS cJ aM aK H.size x1 mS.1 mS.2.1 mS.2.2.1 mS.2.2.2.1 mS.2.2.2.2.1 mS.2.2.2.2.2.1 mS.2.2.2.2.2.2.1 mS.2.2.2.2.2.2.2.1 mS.2.2.2.2.2.2.2.2.1 mS.2.2.2.2.2.2.2.2.2.1 g69) gX5_shockedUpright_X2_isUpright rfl kdV_X2_isUpright 0 2 rfl rfl rfl [5, 6, 7, 8, 9, 10, 11, 12, 13, 14, 15, 16, 17] ⟨rfl, rfl⟩ ⟨Nat.le_of_ble_eq_true rfl, Nat.le_of_ble_eq_true rfl⟩ ⟨Nat.zero_le _, Nat.zero_le _⟩ rfl rfl (by decide +kernel) rfl rfl rfl (Nat.le_of_ble_eq_true rfl) dX5_shockedUpright_69 rfl (fun H locs hP hD hS => ?_)
              refine lv_if_eq (tgt := 93) hx hb dX5_shockedUpright_72 (by decide) (fun c72 => ?_) (fun c72 => ?_)
              · have h := k_pos c72 h
                refine lv_iinc (v := (y6 + 1)) (lv' := [(6, .int (y6 + 1)), (0, .ref (aW 0)), (1, .int x1), (2, .int x2), (3, .int x3), (4, .long y4), (7, .int y7)]) hx hb dX5_shockedUpright_93 hl (k := 5) rfl (by first | rfl | decide) (by decide) rfl (fun ls hl => ?_)
                refine lv_goto (tgt := 6) hx hb dX5_shockedUpright_96 (by decide) ?_
                exact ih6 y4 (y6 + 1) mS H locs ls hP hD hS (lv_sub hl [1, 2, 3, 4, 5, 0] rfl) h
              · have h := k_neg c72 h
                refine lv_lload hx hb dX5_shockedUpright_75 (lv_at hl 4 rfl) ?_
                refine lv_iload_n hx hb dX5_shockedUpright_77 rfl (lv_at hl 3 rfl) ?_
                refine lv_iconst (v := 1) hx hb dX5_shockedUpright_78 (by decide) ?_
                refine lv_isub hx hb dX5_shockedUpright_79 ?_
                refine lv_iload_n hx hb dX5_shockedUpright_80 rfl (lv_at hl 2 rfl) ?_
                refine lv_iload hx hb dX5_shockedUpright_81 (lv_at hl 5 rfl) ?_
                refine k_callS (As := [.int y6]) (rest := [.int x2, .int (x3 - 1), .long y4]) (st1 := [.int (S_J_bitCount y6), .int x2, .int (x3 - 1), .long y4]) (ws2 := (Wd16 cI cM aN aW aM aK nS.1 nS.2.1 nS.2.2.1 nS.2.2.2.1 nS.2.2.2.2.1 nS.2.2.2.2.2.1 nS.2.2.2.2.2.2.1 nS.2.2.2.2.2.2.2.1 nS.2.2.2.2.2.2.2.2.1 nS.2.2.2.2.2.2.2.2.2.1 mS.1 mS.2.1 mS.2.2.1 mS.2.2.2.1 mS.2.2.2.2.1 mS.2.2.2.2.2.1 mS.2.2.2.2.2.2.1 mS.2.2.2.2.2.2.2.1 mS.2.2.2.2.2.2.2.2.1 mS.2.2.2.2.2.2.2.2.2.1)) hx hb hml hown hts hK hN hA hP hD hS hl (c_J_bitCount l D cI cM cS cJ H.size y6 rfl) gX5_shockedUpright_J6_bitCount_0f7a4 rfl kdS_J6_bitCount_0f7a4 [] ⟨rfl, rfl⟩ ⟨Nat.le_of_ble_eq_true rfl, Nat.le_of_ble_eq_true rfl⟩ ⟨Nat.zero_le _, Nat.zero_le _⟩ rfl rfl (by decide +kernel) rfl rfl rfl (Nat.le_of_ble_eq_true rfl) dX5_shockedUpright_83 rfl (fun H locs hP hD hS => ?_)
                refine lv_isub hx hb dX5_shockedUpright_86 ?_
                obtain ⟨r87, g87, h⟩ := k_bind h
                refine k_callN (As := [.int (x3 - 1), .int (x2 - (S_J_bitCount y6))]) (rest := [.long y4]) (st1 := [.long r87, .long y4]) (ws2 := (Wd16 cI cM aN aW aM aK nS.1 nS.2.1 nS.2.2.1 nS.2.2.2.1 nS.2.2.2.2.1 nS.2.2.2.2.2.1 nS.2.2.2.2.2.2.1 nS.2.2.2.2.2.2.2.1 nS.2.2.2.2.2.2.2.2.1 nS.2.2.2.2.2.2.2.2.2.1 mS.1 mS.2.1 mS.2.2.1 mS.2.2.2.1 mS.2.2.2.2.1 mS.2.2.2.2.2.1 mS.2.2.2.2.2.2.1 mS.2.2.2.2.2.2.2.1 mS.2.2.2.2.2.2.2.2.1 mS.2.2.2.2.2.2.2.2.2.1)) hx hb hml hown hts hK hN hA hP hD hS hl (c_PL_power l D cI cM cS cJ H.size (x3 - 1) (x2 - (S_J_bitCount y6)) g87) gX5_shockedUpright_X11_power_n121 rfl (List.mem_of_getElem? (i := 17) rfl) (hts _ (List.mem_of_getElem? (i := 158) rfl)) (hts _ (List.mem_of_getElem? (i := 157) rfl)) kdS_X11_power [] ⟨rfl, rfl⟩ ⟨Nat.le_of_ble_eq_true rfl, Nat.le_of_ble_eq_true rfl⟩ ⟨Nat.zero_le _, Nat.zero_le _⟩ rfl rfl (by decide +kernel) rfl rfl rfl (Nat.le_of_ble_eq_true rfl) dX5_shockedUpright_87 rfl (fun H locs hP hD hS => ?_)
                refine lv_ladd hx hb dX5_shockedUpright_90 ?_
                refine lv_lstore (lv' := [(4, .long (y4 + r87)), (0, .ref (aW 0)), (1, .int x1), (2, .int x2), (3, .int x3), (6, .int y6), (7, .int y7)]) hx hb dX5_shockedUpright_91 hl (by decide) rfl (fun ls hl => ?_)
                refine lv_iinc (v := (y6 + 1)) (lv' := [(6, .int (y6 + 1)), (4, .long (y4 + r87)), (0, .ref (aW 0)), (1, .int x1), (2, .int x2), (3, .int x3), (7, .int y7)]) hx hb dX5_shockedUpright_93 hl (k := 5) rfl (by first | rfl | decide) (by decide) rfl (fun ls hl => ?_)
                refine lv_goto (tgt := 6) hx hb dX5_shockedUpright_96 (by decide) ?_
                exact ih6 (y4 + r87) (y6 + 1) mS H locs ls hP hD hS (lv_sub hl [2, 3, 4, 5, 1, 0] rfl) h
            · have h := k_neg c31 h
              refine lv_iload hx hb dX5_shockedUpright_34 (lv_at hl 5 rfl) ?_
              refine lv_iconst (v := 1) hx hb dX5_shockedUpright_36 (by decide) ?_
              refine lv_iload hx hb dX5_shockedUpright_37 (lv_at hl 6 rfl) ?_
              refine lv_ishl hx hb dX5_shockedUpright_39 ?_
              refine lv_iand hx hb dX5_shockedUpright_40 ?_
              refine lv_if_eq (tgt := 51) hx hb dX5_shockedUpright_41 (by decide) (fun c41 => ?_) (fun c41 => ?_)
              · have h := k_pos c41 h
                refine lv_aload_n hx hb dX5_shockedUpright_51 rfl (lv_at hl 0 rfl) ?_
                refine va_get (D := D) (ci := 5) (v := .ref (aM 0)) (C := RX5) (T := TX5) (N := 5) hx hb hts hiX5 hown hK hP 0 rfl rfl 1 (by decide) hf25 (fun _ z => z) rfl dX5_shockedUpright_52 ?_
                obtain ⟨r55, g55, h⟩ := k_bind h
                refine k_callV (As := []) (rest := []) (st1 := []) (ws2 := (Wd16 cI cM aN aW aM aK nS.1 nS.2.1 nS.2.2.1 nS.2.2.2.1 nS.2.2.2.2.1 nS.2.2.2.2.2.1 nS.2.2.2.2.2.2.1 nS.2.2.2.2.2.2.2.1 nS.2.2.2.2.2.2.2.2.1 nS.2.2.2.2.2.2.2.2.2.1 mS.1 mS.2.1 r55.1 r55.2.1 r55.2.2.1 r55.2.2.2.1 r55.2.2.2.2.1 mS.2.2.2.2.2.2.2.1 mS.2.2.2.2.2.2.2.2.1 r55.2.2.2.2.2)) hx hb hml hown hts hK hN hA hP hD hS hl (c_City_passDay l D cI cM cS cJ aM aK H.size mS.1 mS.2.1 mS.2.2.1 mS.2.2.2.1 mS.2.2.2.2.1 mS.2.2.2.2.2.1 mS.2.2.2.2.2.2.1 mS.2.2.2.2.2.2.2.1 mS.2.2.2.2.2.2.2.2.1 mS.2.2.2.2.2.2.2.2.2.1 g55) gX5_shockedUpright_X2_passDay rfl kdV_X2_passDay 0 2 rfl rfl rfl [5, 6, 7, 8, 9, 10, 11, 12, 13, 14, 15, 16, 17] ⟨rfl, rfl⟩ ⟨Nat.le_of_ble_eq_true rfl, Nat.le_of_ble_eq_true rfl⟩ ⟨Nat.zero_le _, Nat.zero_le _⟩ rfl rfl (by decide +kernel) rfl rfl rfl (Nat.le_of_ble_eq_true rfl) dX5_shockedUpright_55 rfl (fun H locs hP hD hS => ?_)
                refine lv_iinc (v := (y7 + 1)) (lv' := [(7, .int (y7 + 1)), (0, .ref (aW 0)), (1, .int x1), (2, .int x2), (3, .int x3), (4, .long y4), (6, .int y6)]) hx hb dX5_shockedUpright_58 hl (k := 6) rfl (by first | rfl | decide) (by decide) rfl (fun ls hl => ?_)
                refine lv_goto (tgt := 28) hx hb dX5_shockedUpright_61 (by decide) ?_
                exact ih28 (y7 + 1) (mS.1, mS.2.1, r55.1, r55.2.1, r55.2.2.1, r55.2.2.2.1, r55.2.2.2.2.1, mS.2.2.2.2.2.2.2.1, mS.2.2.2.2.2.2.2.2.1, r55.2.2.2.2.2, mS.2.2.2.2.2.2.2.2.2.2) H locs ls hP hD hS (lv_sub hl [1, 2, 3, 4, 5, 6, 0] rfl) h
              · have h := k_neg c41 h
                refine lv_aload_n hx hb dX5_shockedUpright_44 rfl (lv_at hl 0 rfl) ?_
                refine va_get (D := D) (ci := 5) (v := .ref (aM 0)) (C := RX5) (T := TX5) (N := 5) hx hb hts hiX5 hown hK hP 0 rfl rfl 1 (by decide) hf25 (fun _ z => z) rfl dX5_shockedUpright_45 ?_
                obtain ⟨r48, g48, h⟩ := k_bind h
                refine k_callV (As := []) (rest := []) (st1 := []) (ws2 := (Wd16 cI cM aN aW aM aK nS.1 nS.2.1 nS.2.2.1 nS.2.2.2.1 nS.2.2.2.2.1 nS.2.2.2.2.2.1 nS.2.2.2.2.2.2.1 nS.2.2.2.2.2.2.2.1 nS.2.2.2.2.2.2.2.2.1 nS.2.2.2.2.2.2.2.2.2.1 mS.1 mS.2.1 mS.2.2.1 mS.2.2.2.1 mS.2.2.2.2.1 mS.2.2.2.2.2.1 mS.2.2.2.2.2.2.1 mS.2.2.2.2.2.2.2.1 mS.2.2.2.2.2.2.2.2.1 r48)) hx hb hml hown hts hK hN hA hP hD hS hl (c_City_turnSigns l D cI cM cS cJ aM aK H.size mS.1 mS.2.1 mS.2.2.1 mS.2.2.2.1 mS.2.2.2.2.1 mS.2.2.2.2.2.1 mS.2.2.2.2.2.2.1 mS.2.2.2.2.2.2.2.2.2.1 g48) gX5_shockedUpright_X2_turnSigns rfl kdV_X2_turnSigns 0 2 rfl rfl rfl [5, 8] ⟨rfl, rfl⟩ ⟨Nat.le_of_ble_eq_true rfl, Nat.le_of_ble_eq_true rfl⟩ ⟨Nat.zero_le _, Nat.zero_le _⟩ rfl rfl (by decide +kernel) rfl rfl rfl (Nat.le_of_ble_eq_true rfl) dX5_shockedUpright_48 rfl (fun H locs hP hD hS => ?_)
                refine lv_aload_n hx hb dX5_shockedUpright_51 rfl (lv_at hl 0 rfl) ?_
                refine va_get (D := D) (ci := 5) (v := .ref (aM 0)) (C := RX5) (T := TX5) (N := 5) hx hb hts hiX5 hown hK hP 0 rfl rfl 1 (by decide) hf25 (fun _ z => z) rfl dX5_shockedUpright_52 ?_
                obtain ⟨r55, g55, h⟩ := k_bind h
                refine k_callV (As := []) (rest := []) (st1 := []) (ws2 := (Wd16 cI cM aN aW aM aK nS.1 nS.2.1 nS.2.2.1 nS.2.2.2.1 nS.2.2.2.2.1 nS.2.2.2.2.2.1 nS.2.2.2.2.2.2.1 nS.2.2.2.2.2.2.2.1 nS.2.2.2.2.2.2.2.2.1 nS.2.2.2.2.2.2.2.2.2.1 mS.1 mS.2.1 r55.1 r55.2.1 r55.2.2.1 r55.2.2.2.1 r55.2.2.2.2.1 mS.2.2.2.2.2.2.2.1 mS.2.2.2.2.2.2.2.2.1 r55.2.2.2.2.2)) hx hb hml hown hts hK hN hA hP hD hS hl (c_City_passDay l D cI cM cS cJ aM aK H.size mS.1 mS.2.1 mS.2.2.1 mS.2.2.2.1 mS.2.2.2.2.1 mS.2.2.2.2.2.1 mS.2.2.2.2.2.2.1 mS.2.2.2.2.2.2.2.1 mS.2.2.2.2.2.2.2.2.1 r48 g55) gX5_shockedUpright_X2_passDay rfl kdV_X2_passDay 0 2 rfl rfl rfl [5, 6, 7, 8, 9, 10, 11, 12, 13, 14, 15, 16, 17] ⟨rfl, rfl⟩ ⟨Nat.le_of_ble_eq_true rfl, Nat.le_of_ble_eq_true rfl⟩ ⟨Nat.zero_le _, Nat.zero_le _⟩ rfl rfl (by decide +kernel) rfl rfl rfl (Nat.le_of_ble_eq_true rfl) dX5_shockedUpright_55 rfl (fun H locs hP hD hS => ?_)
                refine lv_iinc (v := (y7 + 1)) (lv' := [(7, .int (y7 + 1)), (0, .ref (aW 0)), (1, .int x1), (2, .int x2), (3, .int x3), (4, .long y4), (6, .int y6)]) hx hb dX5_shockedUpright_58 hl (k := 6) rfl (by first | rfl | decide) (by decide) rfl (fun ls hl => ?_)
                refine lv_goto (tgt := 28) hx hb dX5_shockedUpright_61 (by decide) ?_
                exact ih28 (y7 + 1) (mS.1, mS.2.1, r55.1, r55.2.1, r55.2.2.1, r55.2.2.2.1, r55.2.2.2.2.1, mS.2.2.2.2.2.2.2.1, mS.2.2.2.2.2.2.2.2.1, r55.2.2.2.2.2, mS.2.2.2.2.2.2.2.2.2.2) H locs ls hP hD hS (lv_sub hl [1, 2, 3, 4, 5, 6, 0] rfl) h
        refine lv_istore (lv' := [(7, .int 0), (0, .ref (aW 0)), (1, .int x1), (2, .int x2), (3, .int x3), (4, .long y4), (6, .int y6)]) hx hb dX5_shockedUpright_26 hl (by decide) rfl (fun ls hl => ?_)
        exact B28 y4 y6 lfu 0 (r22.1, r22.2.1, r22.2.2.1, r22.2.2.2.1, r22.2.2.2.2.1, r22.2.2.2.2.2.1, mS.2.2.2.2.2.2.1, r22.2.2.2.2.2.2.1, r22.2.2.2.2.2.2.2.1, r22.2.2.2.2.2.2.2.2, mS.2.2.2.2.2.2.2.2.2.2) H locs ls hP hD hS (lv_sub hl [1, 2, 3, 4, 5, 6, 0] rfl) h
  refine lv_istore (lv' := [(6, .int 0), (4, .long 0), (0, .ref (aW 0)), (1, .int x1), (2, .int x2), (3, .int x3)]) hx hb dX5_shockedUpright_4 hl (by decide) rfl (fun ls hl => ?_)
  exact B6 lfu 0 0 mS s.heap [] ls hP hD hS (lv_sub hl [2, 3, 4, 5, 1, 0] rfl) h
abbrev rm_X5_drawnYears : Room := { frames := 5, cells := 0, slots := 0, locals := 128 }
set_option maxHeartbeats 4000000 in
set_option maxRecDepth 100000 in
theorem c_Mind_drawnYears (l : Launch) (D : va_G) (cI cM cS cJ : ClassId) (aN : Nat → Nat) (aW : Nat → Nat) (aM : Nat → Nat) (aK : Nat → Nat) (sz : Nat) (x1 : Int32) (x2 : Int32) (x3 : Int32) (nS : CS) (mS : CS) {o : (Int32) × (CS)} (hsem : S_Mind_drawnYears x1 x2 x3 nS mS = some o) : kMet l yX5_drawnYears wsX5_drawnYears rm_X5_drawnYears [.ref (aW 0), .int x1, .int x2, .int x3] D (kT cI cM cS cJ) (Wd16 cI cM aN aW aM aK nS.1 nS.2.1 nS.2.2.1 nS.2.2.2.1 nS.2.2.2.2.1 nS.2.2.2.2.2.1 nS.2.2.2.2.2.2.1 nS.2.2.2.2.2.2.2.1 nS.2.2.2.2.2.2.2.2.1 nS.2.2.2.2.2.2.2.2.2.1 mS.1 mS.2.1 mS.2.2.1 mS.2.2.2.1 mS.2.2.2.2.1 mS.2.2.2.2.2.1 mS.2.2.2.2.2.2.1 mS.2.2.2.2.2.2.2.1 mS.2.2.2.2.2.2.2.2.1 mS.2.2.2.2.2.2.2.2.2.1) sz (some (.int o.1)) (Wd16 cI cM aN aW aM aK nS.1 nS.2.1 nS.2.2.1 nS.2.2.2.1 nS.2.2.2.2.1 nS.2.2.2.2.2.1 nS.2.2.2.2.2.2.1 nS.2.2.2.2.2.2.2.1 nS.2.2.2.2.2.2.2.2.1 nS.2.2.2.2.2.2.2.2.2.1 o.2.1 o.2.2.1 o.2.2.2.1 o.2.2.2.2.1 o.2.2.2.2.2.1 o.2.2.2.2.2.2.1 o.2.2.2.2.2.2.2.1 o.2.2.2.2.2.2.2.2.1 o.2.2.2.2.2.2.2.2.2.1 o.2.2.2.2.2.2.2.2.2.2.1) := by
  refine k_metI (by decide) rfl rfl (Nat.le_of_ble_eq_true rfl) ?_
  intro p e s m below meth c ls Q A hx hb hml hts hown hK hN hA hP hD hS hl hsz hnm hret
  have hown : s.vm.findClass RX5 = some m.cls := hown
  have hf25 := hts (.fieldLink RX5 25 "PlumbLine$Mind" "then" "LPlumbLine$City;") (List.mem_of_getElem? (i := 1) rfl)
  have hf21 := hts (.fieldLink RX5 21 "PlumbLine$Mind" "now" "LPlumbLine$City;") (List.mem_of_getElem? (i := 2) rfl)
  have hf62 := hts (.fieldLink RX5 62 "PlumbLine$City" "men" "I") (List.mem_of_getElem? (i := 3) rfl)
  have hf128 := hts (.fieldLink RX5 128 "PlumbLine$City" "crashes" "I") (List.mem_of_getElem? (i := 8) rfl)
  have hf38 := hts (.fieldLink RX5 38 "PlumbLine$City" "lean" "[I") (List.mem_of_getElem? (i := 5) rfl)
  have hiX2 : ∀ w ∈ u_ws RX2 TX2 12, w ∈ wsX5_drawnYears := fun w h => List.mem_cons_of_mem _ (List.mem_append_right _ h)
  have hiX5 : ∀ w ∈ u_ws RX5 TX5 5, w ∈ wsX5_drawnYears := fun w h => List.mem_cons_of_mem _ (List.mem_append_left _ (List.mem_append_right _ h))
  replace hl : lv_has ls 9 [(0, .ref (aW 0)), (1, .int x1), (2, .int x2), (3, .int x3)] := hl
  have h := hsem
  clear hsem
  rw [S_Mind_drawnYears] at h
  refine lv_iload_n hx hb dX5_drawnYears_0 rfl (lv_at hl 2 rfl) ?_
  refine lv_istore (lv' := [(4, .int x2), (0, .ref (aW 0)), (1, .int x1), (2, .int x2), (3, .int x3)]) hx hb dX5_drawnYears_1 hl (by decide) rfl (fun ls hl => ?_)
  refine lv_iconst (v := 0) hx hb dX5_drawnYears_3 (by decide) ?_
  refine lv_istore (lv' := [(5, .int 0), (4, .int x2), (0, .ref (aW 0)), (1, .int x1), (2, .int x2), (3, .int x3)]) hx hb dX5_drawnYears_4 hl (by decide) rfl (fun ls hl => ?_)
  refine lv_iconst (v := 0) hx hb dX5_drawnYears_6 (by decide) ?_
  refine lv_istore (lv' := [(6, .int 0), (5, .int 0), (4, .int x2), (0, .ref (aW 0)), (1, .int x1), (2, .int x2), (3, .int x3)]) hx hb dX5_drawnYears_7 hl (by decide) rfl (fun ls hl => ?_)
  refine lv_iconst (v := 0) hx hb dX5_drawnYears_9 (by decide) ?_
  have B12 : ∀ (n12 : Nat) (y4 : Int32) (y5 : Int32) (y6 : Int32) (y7 : Int32) (mS : CS) (H : Heap) (locs : List Loc) (ls : Array Slot), va_P D vwCl (Wd16 cI cM aN aW aM aK nS.1 nS.2.1 nS.2.2.1 nS.2.2.2.1 nS.2.2.2.2.1 nS.2.2.2.2.2.1 nS.2.2.2.2.2.2.1 nS.2.2.2.2.2.2.2.1 nS.2.2.2.2.2.2.2.2.1 nS.2.2.2.2.2.2.2.2.2.1 mS.1 mS.2.1 mS.2.2.1 mS.2.2.2.1 mS.2.2.2.2.1 mS.2.2.2.2.2.1 mS.2.2.2.2.2.2.1 mS.2.2.2.2.2.2.2.1 mS.2.2.2.2.2.2.2.2.1 mS.2.2.2.2.2.2.2.2.2.1) H → va_D A (Wd16 cI cM aN aW aM aK nS.1 nS.2.1 nS.2.2.1 nS.2.2.2.1 nS.2.2.2.2.1 nS.2.2.2.2.2.1 nS.2.2.2.2.2.2.1 nS.2.2.2.2.2.2.2.1 nS.2.2.2.2.2.2.2.2.1 nS.2.2.2.2.2.2.2.2.2.1 mS.1 mS.2.1 mS.2.2.1 mS.2.2.2.1 mS.2.2.2.2.1 mS.2.2.2.2.2.1 mS.2.2.2.2.2.2.1 mS.2.2.2.2.2.2.2.1 mS.2.2.2.2.2.2.2.2.1 mS.2.2.2.2.2.2.2.2.2.1) → va_S A s.heap H locs → lv_has ls 9 [(0, .ref (aW 0)), (1, .int x1), (3, .int x3), (4, .int y4), (5, .int y5), (6, .int y6), (7, .int y7)] → S_Mind_drawnYears_L12 x1 x3 nS n12 y4 y5 y6 y7 mS = some o → W p l e rm_X5_drawnYears s m ([.ref (aW 0), .int x1, .int x2, .int x3] : List Value).toArray below meth c H locs 0 0 Q (F0 m 12 ls []) := by
    intro n12
    induction n12 with
    | zero => intro y4 y5 y6 y7 mS H locs ls hP hD hS hl h; exact absurd h (by simp [S_Mind_drawnYears_L12])
    | succ n12 ih12 =>
      intro y4 y5 y6 y7 mS H locs ls hP hD hS hl h
      rw [S_Mind_drawnYears_L12] at h
      refine lv_iload hx hb dX5_drawnYears_12 (lv_at hl 6 rfl) ?_
      refine lv_iload_n hx hb dX5_drawnYears_14 rfl (lv_at hl 1 rfl) ?_
      refine lv_icmp_ge (tgt := 136) hx hb dX5_drawnYears_15 (by decide) (fun c15 => ?_) (fun c15 => ?_)
      · have h := k_pos c15 h
        refine lv_iload_n hx hb dX5_drawnYears_136 rfl (lv_at hl 2 rfl) ?_
        refine lv_if_ne (tgt := 145) hx hb dX5_drawnYears_137 (by decide) (fun c137 => ?_) (fun c137 => ?_)
        · have h := k_neg c137 h
          refine lv_iload hx hb dX5_drawnYears_145 (lv_at hl 5 rfl) ?_
          cases h
          exact hret _ _ _ _ hP hS dX5_drawnYears_147
        · have h := k_pos c137 h
          refine lv_iload hx hb dX5_drawnYears_140 (lv_at hl 4 rfl) ?_
          refine lv_goto (tgt := 147) hx hb dX5_drawnYears_142 (by decide) ?_
          cases h
          exact hret _ _ _ _ hP hS dX5_drawnYears_147
      · have h := k_neg c15 h
        refine lv_aload_n hx hb dX5_drawnYears_18 rfl (lv_at hl 0 rfl) ?_
        refine va_get (D := D) (ci := 5) (v := .ref (aM 0)) (C := RX5) (T := TX5) (N := 5) hx hb hts hiX5 hown hK hP 0 rfl rfl 1 (by decide) hf25 (fun _ z => z) rfl dX5_drawnYears_19 ?_
        refine lv_aload_n hx hb dX5_drawnYears_22 rfl (lv_at hl 0 rfl) ?_
        refine va_get (D := D) (ci := 5) (v := .ref (aN 0)) (C := RX5) (T := TX5) (N := 5) hx hb hts hiX5 hown hK hP 0 rfl rfl 0 (by decide) hf21 (fun _ z => z) rfl dX5_drawnYears_23 ?_
        obtain ⟨r26, g26, h⟩ := k_bind h
        refine k_callV (As := [.ref (aN 0)]) (rest := []) (st1 := []) (ws2 := (Wd16 cI cM aN aW aM aK nS.1 nS.2.1 nS.2.2.1 nS.2.2.2.1 nS.2.2.2.2.1 nS.2.2.2.2.2.1 nS.2.2.2.2.2.2.1 nS.2.2.2.2.2.2.2.1 nS.2.2.2.2.2.2.2.2.1 nS.2.2.2.2.2.2.2.2.2.1 r26.1 r26.2.1 r26.2.2.1 r26.2.2.2.1 r26.2.2.2.2.1 r26.2.2.2.2.2.1 mS.2.2.2.2.2.2.1 r26.2.2.2.2.2.2.1 r26.2.2.2.2.2.2.2.1 r26.2.2.2.2.2.2.2.2)) hx hb hml hown hts hK hN hA hP hD hS hl (c_City_becomes l D cI cM cS cJ aM aN aK H.size mS.1 mS.2.1 mS.2.2.1 mS.2.2.2.1 mS.2.2.2.2.1 mS.2.2.2.2.2.1 mS.2.2.2.2.2.2.1 mS.2.2.2.2.2.2.2.1 mS.2.2.2.2.2.2.2.2.1 mS.2.2.2.2.2.2.2.2.2.1 nS.1 nS.2.1 nS.2.2.1 nS.2.2.2.1 nS.2.2.2.2.1 nS.2.2.2.2.2.1 nS.2.2.2.2.2.2.1 nS.2.2.2.2.2.2.2.1 nS.2.2.2.2.2.2.2.2.1 nS.2.2.2.2.2.2.2.2.2.1 g26) gX5_drawnYears_X2_becomes rfl kdV_X2_becomes 0 2 rfl rfl rfl [5, 6, 7, 8, 1, 2, 3, 4] ⟨rfl, rfl⟩ ⟨Nat.le_of_ble_eq_true rfl, Nat.le_of_ble_eq_true rfl⟩ ⟨Nat.zero_le _, Nat.zero_le _⟩ rfl rfl (by decide +kernel) rfl rfl rfl (Nat.le_of_ble_eq_true rfl) dX5_drawnYears_26 rfl (fun H locs hP hD hS => ?_)
        refine lv_iconst (v := 0) hx hb dX5_drawnYears_29 (by decide) ?_
        have B32 : ∀ (y5 : Int32) (y6 : Int32) (y7 : Int32) (n32 : Nat) (y4 : Int32) (y8 : Int32) (mS : CS) (H : Heap) (locs : List Loc) (ls : Array Slot), va_P D vwCl (Wd16 cI cM aN aW aM aK nS.1 nS.2.1 nS.2.2.1 nS.2.2.2.1 nS.2.2.2.2.1 nS.2.2.2.2.2.1 nS.2.2.2.2.2.2.1 nS.2.2.2.2.2.2.2.1 nS.2.2.2.2.2.2.2.2.1 nS.2.2.2.2.2.2.2.2.2.1 mS.1 mS.2.1 mS.2.2.1 mS.2.2.2.1 mS.2.2.2.2.1 mS.2.2.2.2.2.1 mS.2.2.2.2.2.2.1 mS.2.2.2.2.2.2.2.1 mS.2.2.2.2.2.2.2.2.1 mS.2.2.2.2.2.2.2.2.2.1) H → va_D A (Wd16 cI cM aN aW aM aK nS.1 nS.2.1 nS.2.2.1 nS.2.2.2.1 nS.2.2.2.2.1 nS.2.2.2.2.2.1 nS.2.2.2.2.2.2.1 nS.2.2.2.2.2.2.2.1 nS.2.2.2.2.2.2.2.2.1 nS.2.2.2.2.2.2.2.2.2.1 mS.1 mS.2.1 mS.2.2.1 mS.2.2.2.1 mS.2.2.2.2.1 mS.2.2.2.2.2.1 mS.2.2.2.2.2.2.1 mS.2.2.2.2.2.2.2.1 mS.2.2.2.2.2.2.2.2.1 mS.2.2.2.2.2.2.2.2.2.1) → va_S A s.heap H locs → lv_has ls 9 [(0, .ref (aW 0)), (1, .int x1), (3, .int x3), (4, .int y4), (5, .int y5), (6, .int y6), (7, .int y7), (8, .int y8)] → S_Mind_drawnYears_L32 (S_Mind_drawnYears_L12 x1 x3 nS n12) y5 y6 y7 nS n32 y4 y8 mS = some o → W p l e rm_X5_drawnYears s m ([.ref (aW 0), .int x1, .int x2, .int x3] : List Value).toArray below meth c H locs 0 0 Q (F0 m 32 ls []) := by
          intro y5 y6 y7
          intro n32
          induction n32 with
          | zero => intro y4 y8 mS H locs ls hP hD hS hl h; exact absurd h (by simp [S_Mind_drawnYears_L32])
          | succ n32 ih32 =>
            intro y4 y8 mS H locs ls hP hD hS hl h
            rw [S_Mind_drawnYears_L32] at h
            refine lv_iload hx hb dX5_drawnYears_32 (lv_at hl 7 rfl) ?_
            refine lv_aload_n hx hb dX5_drawnYears_34 rfl (lv_at hl 0 rfl) ?_
            refine va_get (D := D) (ci := 5) (v := .ref (aM 0)) (C := RX5) (T := TX5) (N := 5) hx hb hts hiX5 hown hK hP 0 rfl rfl 1 (by decide) hf25 (fun _ z => z) rfl dX5_drawnYears_35 ?_
            refine va_get (D := D) (ci := 2) (v := .int mS.1) (C := RX2) (T := TX2) (N := 12) hx hb hts hiX2 hown hK hP 5 rfl rfl 3 (by decide) hf62 (fun _ z => z) rfl dX5_drawnYears_38 ?_
            refine lv_icmp_ge (tgt := 85) hx hb dX5_drawnYears_41 (by decide) (fun c41 => ?_) (fun c41 => ?_)
            · have h := k_pos c41 h
              refine lv_aload_n hx hb dX5_drawnYears_85 rfl (lv_at hl 0 rfl) ?_
              refine va_get (D := D) (ci := 5) (v := .ref (aM 0)) (C := RX5) (T := TX5) (N := 5) hx hb hts hiX5 hown hK hP 0 rfl rfl 1 (by decide) hf25 (fun _ z => z) rfl dX5_drawnYears_86 ?_
              refine lv_bipush (v := 12) hx hb dX5_drawnYears_89 (by decide) ?_
              obtain ⟨r91, g91, h⟩ := k_bind h
              refine k_callV (As := [.int 12]) (rest := []) (st1 := [.int r91.1]) (ws2 := (Wd16 cI cM aN aW aM aK nS.1 nS.2.1 nS.2.2.1 nS.2.2.2.1 nS.2.2.2.2.1 nS.2.2.2.2.2.1 nS.2.2.2.2.2.2.1 nS.2.2.2.2.2.2.2.1 nS.2.2.2.2.2.2.2.2.1 nS.2.2.2.2.2.2.2.2.2.1 mS.1 mS.2.1 r91.2.1 r91.2.2.1 r91.2.2.2.1 r91.2.2.2.2.1 r91.2.2.2.2.2.1 mS.2.2.2.2.2.2.2.1 mS.2.2.2.2.2.2.2.2.1 r91.2.2.2.2.2.2)) hx hb hml hown hts hK hN hA hP hD hS hl (c_City_passDays l D cI cM cS cJ aM aK H.size 12 mS.1 mS.2.1 mS.2.2.1 mS.2.2.2.1 mS.2.2.2.2.1 mS.2.2.2.2.2.1 mS.2.2.2.2.2.2.1 mS.2.2.2.2.2.2.2.1 mS.2.2.2.2.2.2.2.2.1 mS.2.2.2.2.2.2.2.2.2.1 g91) gX5_drawnYears_X2_passDays rfl kdV_X2_passDays 0 2 rfl rfl rfl [5, 6, 7, 8, 9, 10, 11, 12, 13, 14, 15, 16, 17] ⟨rfl, rfl⟩ ⟨Nat.le_of_ble_eq_true rfl, Nat.le_of_ble_eq_true rfl⟩ ⟨Nat.zero_le _, Nat.zero_le _⟩ rfl rfl (by decide +kernel) rfl rfl rfl (Nat.le_of_ble_eq_true rfl) dX5_drawnYears_91 rfl (fun H locs hP hD hS => ?_)
              refine lv_pop hx hb dX5_drawnYears_94 rfl ?_
              refine lv_iload hx hb dX5_drawnYears_95 (lv_at hl 4 rfl) ?_
              refine lv_aload_n hx hb dX5_drawnYears_97 rfl (lv_at hl 0 rfl) ?_
              refine va_get (D := D) (ci := 5) (v := .ref (aM 0)) (C := RX5) (T := TX5) (N := 5) hx hb hts hiX5 hown hK hP 0 rfl rfl 1 (by decide) hf25 (fun _ z => z) rfl dX5_drawnYears_98 ?_
              obtain ⟨r101, g101, h⟩ := k_bind h
              refine k_callV (As := []) (rest := [.int y5]) (st1 := [.int r101, .int y5]) (ws2 := (Wd16 cI cM aN aW aM aK nS.1 nS.2.1 nS.2.2.1 nS.2.2.2.1 nS.2.2.2.2.1 nS.2.2.2.2.2.1 nS.2.2.2.2.2.2.1 nS.2.2.2.2.2.2.2.1 nS.2.2.2.2.2.2.2.2.1 nS.2.2.2.2.2.2.2.2.2.1 mS.1 mS.2.1 r91.2.1 r91.2.2.1 r91.2.2.2.1 r91.2.2.2.2.1 r91.2.2.2.2.2.1 mS.2.2.2.2.2.2.2.1 mS.2.2.2.2.2.2.2.2.1 r91.2.2.2.2.2.2)) hx hb hml hown hts hK hN hA hP hD hS hl (c_City_upright l D cI cM cS cJ aM aK H.size mS.1 mS.2.1 r91.2.1 r91.2.2.1 r91.2.2.2.1 r91.2.2.2.2.1 r91.2.2.2.2.2.1 mS.2.2.2.2.2.2.2.1 mS.2.2.2.2.2.2.2.2.1 r91.2.2.2.2.2.2 g101) gX5_drawnYears_X2_upright rfl kdV_X2_upright 0 2 rfl rfl rfl [5, 6, 7, 8, 9, 10, 11, 12, 13, 14, 15, 16, 17] ⟨rfl, rfl⟩ ⟨Nat.le_of_ble_eq_true rfl, Nat.le_of_ble_eq_true rfl⟩ ⟨Nat.zero_le _, Nat.zero_le _⟩ rfl rfl (by decide +kernel) rfl rfl rfl (Nat.le_of_ble_eq_true rfl) dX5_drawnYears_101 rfl (fun H locs hP hD hS => ?_)
              refine k_callS (As := [.int r101]) (rest := [.int y5]) (st1 := [.int (S_J_bitCount r101), .int y5]) (ws2 := (Wd16 cI cM aN aW aM aK nS.1 nS.2.1 nS.2.2.1 nS.2.2.2.1 nS.2.2.2.2.1 nS.2.2.2.2.2.1 nS.2.2.2.2.2.2.1 nS.2.2.2.2.2.2.2.1 nS.2.2.2.2.2.2.2.2.1 nS.2.2.2.2.2.2.2.2.2.1 mS.1 mS.2.1 r91.2.1 r91.2.2.1 r91.2.2.2.1 r91.2.2.2.2.1 r91.2.2.2.2.2.1 mS.2.2.2.2.2.2.2.1 mS.2.2.2.2.2.2.2.2.1 r91.2.2.2.2.2.2)) hx hb hml hown hts hK hN hA hP hD hS hl (c_J_bitCount l D cI cM cS cJ H.size r101 rfl) gX5_drawnYears_J6_bitCount_0f7a4 rfl kdS_J6_bitCount_0f7a4 [] ⟨rfl, rfl⟩ ⟨Nat.le_of_ble_eq_true rfl, Nat.le_of_ble_eq_true rfl⟩ ⟨Nat.zero_le _, Nat.zero_le _⟩ rfl rfl (by decide +kernel) rfl rfl rfl (Nat.le_of_ble_eq_true rfl) dX5_drawnYears_104 rfl (fun H locs hP hD hS => ?_)
              refine lv_iadd hx hb dX5_drawnYears_107 ?_
              refine lv_istore (lv' := [(5, .int (y5 + (S_J_bitCount r101))), (0, .ref (aW 0)), (1, .int x1), (3, .int x3), (4, .int y4), (6, .int y6), (7, .int y7), (8, .int y8)]) hx hb dX5_drawnYears_108 hl (by decide) rfl (fun ls hl => ?_)
              refine lv_iload hx hb dX5_drawnYears_110 (lv_at hl 5 rfl) ?_
              refine lv_aload_n hx hb dX5_drawnYears_112 rfl (lv_at hl 1 rfl) ?_
              refine va_get (D := D) (ci := 5) (v := .ref (aM 0)) (C := RX5) (T := TX5) (N := 5) hx hb hts hiX5 hown hK hP 0 rfl rfl 1 (by decide) hf25 (fun _ z => z) rfl dX5_drawnYears_113 ?_
              refine va_get (D := D) (ci := 2) (v := .int r91.2.2.2.1) (C := RX2) (T := TX2) (N := 12) hx hb hts hiX2 hown hK hP 5 rfl rfl 7 (by decide) hf128 (fun _ z => z) rfl dX5_drawnYears_116 ?_
              refine lv_aload_n hx hb dX5_drawnYears_119 rfl (lv_at hl 1 rfl) ?_
              refine va_get (D := D) (ci := 5) (v := .ref (aN 0)) (C := RX5) (T := TX5) (N := 5) hx hb hts hiX5 hown hK hP 0 rfl rfl 0 (by decide) hf21 (fun _ z => z) rfl dX5_drawnYears_120 ?_
              refine va_get (D := D) (ci := 2) (v := .int nS.2.2.2.2.1) (C := RX2) (T := TX2) (N := 12) hx hb hts hiX2 hown hK hP 1 rfl rfl 7 (by decide) hf128 (fun _ z => z) rfl dX5_drawnYears_123 ?_
              refine lv_isub hx hb dX5_drawnYears_126 ?_
              refine lv_iadd hx hb dX5_drawnYears_127 ?_
              refine lv_istore (lv' := [(6, .int (y6 + (r91.2.2.2.1 - nS.2.2.2.2.1))), (5, .int (y5 + (S_J_bitCount r101))), (0, .ref (aW 0)), (1, .int x1), (3, .int x3), (4, .int y4), (7, .int y7), (8, .int y8)]) hx hb dX5_drawnYears_128 hl (by decide) rfl (fun ls hl => ?_)
              refine lv_iinc (v := (y7 + 1)) (lv' := [(7, .int (y7 + 1)), (6, .int (y6 + (r91.2.2.2.1 - nS.2.2.2.2.1))), (5, .int (y5 + (S_J_bitCount r101))), (0, .ref (aW 0)), (1, .int x1), (3, .int x3), (4, .int y4), (8, .int y8)]) hx hb dX5_drawnYears_130 hl (k := 6) rfl (by first | rfl | decide) (by decide) rfl (fun ls hl => ?_)
              refine lv_goto (tgt := 12) hx hb dX5_drawnYears_133 (by decide) ?_
              exact ih12 y4 (y5 + (S_J_bitCount r101)) (y6 + (r91.2.2.2.1 - nS.2.2.2.2.1)) (y7 + 1) (mS.1, mS.2.1, r91.2.1, r91.2.2.1, r91.2.2.2.1, r91.2.2.2.2.1, r91.2.2.2.2.2.1, mS.2.2.2.2.2.2.2.1, mS.2.2.2.2.2.2.2.2.1, r91.2.2.2.2.2.2, mS.2.2.2.2.2.2.2.2.2.2) H locs ls hP hD hS (lv_sub hl [3, 4, 5, 6, 2, 1, 0] rfl) h
            · have h := k_neg c41 h
              refine lv_iload hx hb dX5_drawnYears_44 (lv_at hl 3 rfl) ?_
              refine lv_ldc (v := 1103515245) hx hb hown (hts (.constant RX5 125 1103515245) (List.mem_of_getElem? (i := 4) rfl)) dX5_drawnYears_46 ?_
              refine lv_imul hx hb dX5_drawnYears_48 ?_
              refine lv_sipush (v := 12345) hx hb dX5_drawnYears_49 (by decide) ?_
              refine lv_iadd hx hb dX5_drawnYears_52 ?_
              refine lv_istore (lv' := [(4, .int ((y4 * 1103515245) + 12345)), (0, .ref (aW 0)), (1, .int x1), (3, .int x3), (5, .int y5), (6, .int y6), (7, .int y7), (8, .int y8)]) hx hb dX5_drawnYears_53 hl (by decide) rfl (fun ls hl => ?_)
              refine lv_aload_n hx hb dX5_drawnYears_55 rfl (lv_at hl 1 rfl) ?_
              refine va_get (D := D) (ci := 5) (v := .ref (aM 0)) (C := RX5) (T := TX5) (N := 5) hx hb hts hiX5 hown hK hP 0 rfl rfl 1 (by decide) hf25 (fun _ z => z) rfl dX5_drawnYears_56 ?_
              refine va_get (D := D) (ci := 2) (v := .ref (aM 3)) (C := RX2) (T := TX2) (N := 12) hx hb hts hiX2 hown hK hP 5 rfl rfl 2 (by decide) hf38 (fun _ z => z) rfl dX5_drawnYears_59 ?_
              refine lv_iload hx hb dX5_drawnYears_62 (lv_at hl 7 rfl) ?_
              refine lv_iload hx hb dX5_drawnYears_64 (lv_at hl 0 rfl) ?_
              refine lv_ldc (v := 2147483647) hx hb hown (hts (.constant RX5 126 2147483647) (List.mem_of_getElem? (i := 6) rfl)) dX5_drawnYears_66 ?_
              refine lv_iand hx hb dX5_drawnYears_68 ?_
              refine lv_ldc (v := 65536) hx hb hown (hts (.constant RX5 127 65536) (List.mem_of_getElem? (i := 7) rfl)) dX5_drawnYears_69 ?_
              refine lv_idiv hx hb dX5_drawnYears_71 (by decide) ?_
              refine lv_bipush (v := 91) hx hb dX5_drawnYears_72 (by decide) ?_
              refine lv_irem hx hb dX5_drawnYears_74 (by decide) ?_
              refine lv_bipush (v := 45) hx hb dX5_drawnYears_75 (by decide) ?_
              refine lv_isub hx hb dX5_drawnYears_77 ?_
              obtain ⟨g78, h⟩ := k_guard h
              refine va_iast hx hb hK hP hD hS 8 0 rfl rfl g78 dX5_drawnYears_78 (fun H locs hP hD hS => ?_)
              replace hP : va_P D vwCl (Wd16 cI cM aN aW aM aK nS.1 nS.2.1 nS.2.2.1 nS.2.2.2.1 nS.2.2.2.2.1 nS.2.2.2.2.2.1 nS.2.2.2.2.2.2.1 nS.2.2.2.2.2.2.2.1 nS.2.2.2.2.2.2.2.2.1 nS.2.2.2.2.2.2.2.2.2.1 mS.1 mS.2.1 mS.2.2.1 mS.2.2.2.1 mS.2.2.2.2.1 mS.2.2.2.2.2.1 mS.2.2.2.2.2.2.1 mS.2.2.2.2.2.2.2.1 mS.2.2.2.2.2.2.2.2.1 (upd mS.2.2.2.2.2.2.2.2.2.1 y8.toNatClampNeg ((((((y4 * 1103515245) + 12345) &&& 2147483647) / 65536) - ((((y4 * 1103515245) + 12345) &&& 2147483647) / 65536) / 91 * 91) - 45))) H := hP
              replace hD : va_D A (Wd16 cI cM aN aW aM aK nS.1 nS.2.1 nS.2.2.1 nS.2.2.2.1 nS.2.2.2.2.1 nS.2.2.2.2.2.1 nS.2.2.2.2.2.2.1 nS.2.2.2.2.2.2.2.1 nS.2.2.2.2.2.2.2.2.1 nS.2.2.2.2.2.2.2.2.2.1 mS.1 mS.2.1 mS.2.2.1 mS.2.2.2.1 mS.2.2.2.2.1 mS.2.2.2.2.2.1 mS.2.2.2.2.2.2.1 mS.2.2.2.2.2.2.2.1 mS.2.2.2.2.2.2.2.2.1 (upd mS.2.2.2.2.2.2.2.2.2.1 y8.toNatClampNeg ((((((y4 * 1103515245) + 12345) &&& 2147483647) / 65536) - ((((y4 * 1103515245) + 12345) &&& 2147483647) / 65536) / 91 * 91) - 45))) := hD
              refine lv_iinc (v := (y8 + 1)) (lv' := [(8, .int (y8 + 1)), (4, .int ((y4 * 1103515245) + 12345)), (0, .ref (aW 0)), (1, .int x1), (3, .int x3), (5, .int y5), (6, .int y6), (7, .int y7)]) hx hb dX5_drawnYears_79 hl (k := 7) rfl (by first | rfl | decide) (by decide) rfl (fun ls hl => ?_)
              refine lv_goto (tgt := 32) hx hb dX5_drawnYears_82 (by decide) ?_
              exact ih32 ((y4 * 1103515245) + 12345) (y8 + 1) (mS.1, mS.2.1, mS.2.2.1, mS.2.2.2.1, mS.2.2.2.2.1, mS.2.2.2.2.2.1, mS.2.2.2.2.2.2.1, mS.2.2.2.2.2.2.2.1, mS.2.2.2.2.2.2.2.2.1, (upd mS.2.2.2.2.2.2.2.2.2.1 y8.toNatClampNeg ((((((y4 * 1103515245) + 12345) &&& 2147483647) / 65536) - ((((y4 * 1103515245) + 12345) &&& 2147483647) / 65536) / 91 * 91) - 45)), mS.2.2.2.2.2.2.2.2.2.2) H locs ls hP hD hS (lv_sub hl [2, 3, 4, 1, 5, 6, 7, 0] rfl) h
        refine lv_istore (lv' := [(8, .int 0), (0, .ref (aW 0)), (1, .int x1), (3, .int x3), (4, .int y4), (5, .int y5), (6, .int y6), (7, .int y7)]) hx hb dX5_drawnYears_30 hl (by decide) rfl (fun ls hl => ?_)
        exact B32 y5 y6 y7 lfu y4 0 (r26.1, r26.2.1, r26.2.2.1, r26.2.2.2.1, r26.2.2.2.2.1, r26.2.2.2.2.2.1, mS.2.2.2.2.2.2.1, r26.2.2.2.2.2.2.1, r26.2.2.2.2.2.2.2.1, r26.2.2.2.2.2.2.2.2, mS.2.2.2.2.2.2.2.2.2.2) H locs ls hP hD hS (lv_sub hl [1, 2, 3, 4, 5, 6, 7, 0] rfl) h
  refine lv_istore (lv' := [(7, .int 0), (6, .int 0), (5, .int 0), (4, .int x2), (0, .ref (aW 0)), (1, .int x1), (2, .int x2), (3, .int x3)]) hx hb dX5_drawnYears_10 hl (by decide) rfl (fun ls hl => ?_)
  exact B12 lfu x2 0 0 0 mS s.heap [] ls hP hD hS (lv_sub hl [4, 5, 7, 3, 2, 1, 0] rfl) h
