abbrev rm_X11_power : Room := { frames := 0, cells := 0, slots := 0, locals := 0 }
set_option maxHeartbeats 4000000 in
set_option maxRecDepth 100000 in
theorem c_PL_power (l : Launch) (D : va_G) (cI cM cS cJ : ClassId) (sz : Nat) (x0 : Int32) (x1 : Int32) {o : (Int64)} (hsem : S_PL_power x0 x1 = some o) : kMet l yX11_power wsX11_power rm_X11_power [.int x0, .int x1] D (kT cI cM cS cJ) (Wd0) sz (some (.long o)) (Wd0) := by
  refine k_metJ (by decide) rfl rfl (Nat.le_of_ble_eq_true rfl) ?_
  intro p e s m below meth c ls Q A hx hb hml hts hown hK hN hA hP hD hS hl hsz hnm hret
  have hown : s.vm.findClass RX11 = some m.cls := hown
  replace hl : lv_has ls 5 [(0, .int x0), (1, .int x1)] := hl
  have h := hsem
  clear hsem
  rw [S_PL_power] at h
  refine lv_lconst (v := 1) hx hb dX11_power_0 (by decide) ?_
  refine lv_lstore_n (lv' := [(2, .long 1), (0, .int x0), (1, .int x1)]) hx hb dX11_power_1 rfl hl (by decide) rfl (fun ls hl => ?_)
  refine lv_iconst (v := 0) hx hb dX11_power_2 (by decide) ?_
  have B5 : ∀ (n5 : Nat) (y2 : Int64) (y4 : Int32) (H : Heap) (locs : List Loc) (ls : Array Slot), va_P D vwCl (Wd0) H → va_D A (Wd0) → va_S A s.heap H locs → lv_has ls 5 [(0, .int x0), (1, .int x1), (2, .long y2), (4, .int y4)] → S_PL_power_L5 x0 x1 n5 y2 y4 = some o → W p l e rm_X11_power s m ([.int x0, .int x1] : List Value).toArray below meth c H locs 0 0 Q (F0 m 5 ls []) := by
    intro n5
    induction n5 with
    | zero => intro y2 y4 H locs ls hP hD hS hl h; exact absurd h (by simp [S_PL_power_L5])
    | succ n5 ih5 =>
      intro y2 y4 H locs ls hP hD hS hl h
      rw [S_PL_power_L5] at h
      refine lv_iload hx hb dX11_power_5 (lv_at hl 3 rfl) ?_
      refine lv_iload_n hx hb dX11_power_7 rfl (lv_at hl 1 rfl) ?_
      refine lv_icmp_ge (tgt := 22) hx hb dX11_power_8 (by decide) (fun c8 => ?_) (fun c8 => ?_)
      · have h := k_pos c8 h
        refine lv_lload_n hx hb dX11_power_22 rfl (lv_at hl 2 rfl) ?_
        cases h
        exact hret _ _ _ _ hP hS dX11_power_23
      · have h := k_neg c8 h
        refine lv_lload_n hx hb dX11_power_11 rfl (lv_at hl 2 rfl) ?_
        refine lv_iload_n hx hb dX11_power_12 rfl (lv_at hl 0 rfl) ?_
        refine lv_i2l (v := (x0 : Int32).toInt64) hx hb dX11_power_13 rfl ?_
        refine lv_lmul hx hb dX11_power_14 ?_
        refine lv_lstore_n (lv' := [(2, .long (y2 * (x0 : Int32).toInt64)), (0, .int x0), (1, .int x1), (4, .int y4)]) hx hb dX11_power_15 rfl hl (by decide) rfl (fun ls hl => ?_)
        refine lv_iinc (v := (y4 + 1)) (lv' := [(4, .int (y4 + 1)), (2, .long (y2 * (x0 : Int32).toInt64)), (0, .int x0), (1, .int x1)]) hx hb dX11_power_16 hl (k := 3) rfl (by first | rfl | decide) (by decide) rfl (fun ls hl => ?_)
        refine lv_goto (tgt := 5) hx hb dX11_power_19 (by decide) ?_
        exact ih5 (y2 * (x0 : Int32).toInt64) (y4 + 1) H locs ls hP hD hS (lv_sub hl [2, 3, 1, 0] rfl) h
  refine lv_istore (lv' := [(4, .int 0), (2, .long 1), (0, .int x0), (1, .int x1)]) hx hb dX11_power_3 hl (by decide) rfl (fun ls hl => ?_)
  exact B5 lfu 1 0 s.heap [] ls hP hD hS (lv_sub hl [2, 3, 1, 0] rfl) h
abbrev Wd16 (cI : ClassId) (cM : ClassId) (aN : Nat → Nat) (aW : Nat → Nat) (aM : Nat → Nat) (aK : Nat → Nat) (n_men : Int32) (n_propped : Int32) (n_place : Int32) (n_swings : Int32) (n_crashes : Int32) (n_day : Int32) (n_crashedToday : Int32) (n_kind : Nat → Int32) (n_figure : Nat → Int32) (n_lean : Nat → Int32) (m_men : Int32) (m_propped : Int32) (m_place : Int32) (m_swings : Int32) (m_crashes : Int32) (m_day : Int32) (m_crashedToday : Int32) (m_kind : Nat → Int32) (m_figure : Nat → Int32) (m_lean : Nat → Int32) : va_W := [((aW 0), .inr (5, [.ref (aN 0), .ref (aM 0), .ref (aW 1), .ref (aW 2), .ref (aW 3)])), ((aN 0), .inr (2, [.ref (aN 1), .ref (aN 2), .ref (aN 3), .int n_men, .int n_propped, .int n_place, .int n_swings, .int n_crashes, .int n_day, .int n_crashedToday, .ref (aK 8), .ref (aN 4)])), ((aN 1), .inl (cI, 8, .inl n_kind)), ((aN 2), .inl (cI, 8, .inl n_figure)), ((aN 3), .inl (cI, 8, .inl n_lean)), ((aM 0), .inr (2, [.ref (aM 1), .ref (aM 2), .ref (aM 3), .int m_men, .int m_propped, .int m_place, .int m_swings, .int m_crashes, .int m_day, .int m_crashedToday, .ref (aK 8), .ref (aM 4)])), ((aM 1), .inl (cI, 8, .inl m_kind)), ((aM 2), .inl (cI, 8, .inl m_figure)), ((aM 3), .inl (cI, 8, .inl m_lean)), ((aK 8), .inl (cM, 8, .inr (.inr (.inr (.inr (fun k => some (aK k))))))), ((aK 0), .inr (4, [])), ((aK 1), .inr (0, [])), ((aK 2), .inr (7, [])), ((aK 3), .inr (3, [])), ((aK 4), .inr (1, [])), ((aK 5), .inr (8, [])), ((aK 6), .inr (10, [])), ((aK 7), .inr (6, []))]
theorem kdV_X2_becomes : yX2_becomes.cls = RX2 ∧ yX2_becomes.cls ≠ "java/lang/invoke/MethodHandle" ∧ yX2_becomes.cls ≠ "java/lang/invoke/VarHandle" ∧ (parseMethodDescriptor yX2_becomes.desc).map (fun d => d.parameters.length) = some 1 := by decide +kernel
abbrev rm_X5_after : Room := { frames := 5, cells := 0, slots := 0, locals := 128 }
set_option maxHeartbeats 4000000 in
set_option maxRecDepth 100000 in
theorem c_Mind_after (l : Launch) (D : va_G) (cI cM cS cJ : ClassId) (aN : Nat → Nat) (aW : Nat → Nat) (aM : Nat → Nat) (aK : Nat → Nat) (sz : Nat) (x1 : Int32) (nS : CS) (mS : CS) {o : (CS)} (hsem : S_Mind_after x1 nS mS = some o) : kMet l yX5_after wsX5_after rm_X5_after [.ref (aW 0), .int x1] D (kT cI cM cS cJ) (Wd16 cI cM aN aW aM aK nS.1 nS.2.1 nS.2.2.1 nS.2.2.2.1 nS.2.2.2.2.1 nS.2.2.2.2.2.1 nS.2.2.2.2.2.2.1 nS.2.2.2.2.2.2.2.1 nS.2.2.2.2.2.2.2.2.1 nS.2.2.2.2.2.2.2.2.2.1 mS.1 mS.2.1 mS.2.2.1 mS.2.2.2.1 mS.2.2.2.2.1 mS.2.2.2.2.2.1 mS.2.2.2.2.2.2.1 mS.2.2.2.2.2.2.2.1 mS.2.2.2.2.2.2.2.2.1 mS.2.2.2.2.2.2.2.2.2.1) sz (some (.ref (aM 0))) (Wd16 cI cM aN aW aM aK nS.1 nS.2.1 nS.2.2.1 nS.2.2.2.1 nS.2.2.2.2.1 nS.2.2.2.2.2.1 nS.2.2.2.2.2.2.1 nS.2.2.2.2.2.2.2.1 nS.2.2.2.2.2.2.2.2.1 nS.2.2.2.2.2.2.2.2.2.1 o.1 o.2.1 o.2.2.1 o.2.2.2.1 o.2.2.2.2.1 o.2.2.2.2.2.1 o.2.2.2.2.2.2.1 o.2.2.2.2.2.2.2.1 o.2.2.2.2.2.2.2.2.1 o.2.2.2.2.2.2.2.2.2.1) := by
  refine k_metR (by decide) rfl ⟨_, rfl⟩ (Nat.le_of_ble_eq_true rfl) ?_
  intro p e s m below meth c ls Q A hx hb hml hts hown hK hN hA hP hD hS hl hsz hnm hret
  have hown : s.vm.findClass RX5 = some m.cls := hown
  have hf25 := hts (.fieldLink RX5 25 "PlumbLine$Mind" "then" "LPlumbLine$City;") (List.mem_of_getElem? (i := 1) rfl)
  have hf21 := hts (.fieldLink RX5 21 "PlumbLine$Mind" "now" "LPlumbLine$City;") (List.mem_of_getElem? (i := 2) rfl)
  have hiX5 : ∀ w ∈ u_ws RX5 TX5 5, w ∈ wsX5_after := fun w h => List.mem_cons_of_mem _ (List.mem_append_left _ (List.mem_append_right _ h))
  replace hl : lv_has ls 2 [(0, .ref (aW 0)), (1, .int x1)] := hl
  have h := hsem
  clear hsem
  rw [S_Mind_after] at h
  refine lv_aload_n hx hb dX5_after_0 rfl (lv_at hl 0 rfl) ?_
  refine va_get (D := D) (ci := 5) (v := .ref (aM 0)) (C := RX5) (T := TX5) (N := 5) hx hb hts hiX5 hown hK hP 0 rfl rfl 1 (by decide) hf25 (fun _ z => z) rfl dX5_after_1 ?_
  refine lv_aload_n hx hb dX5_after_4 rfl (lv_at hl 0 rfl) ?_
  refine va_get (D := D) (ci := 5) (v := .ref (aN 0)) (C := RX5) (T := TX5) (N := 5) hx hb hts hiX5 hown hK hP 0 rfl rfl 0 (by decide) hf21 (fun _ z => z) rfl dX5_after_5 ?_
  obtain ⟨r8, g8, h⟩ := k_bind h
  refine k_callV (As := [.ref (aN 0)]) (rest := []) (st1 := []) (ws2 := (Wd16 cI cM aN aW aM aK nS.1 nS.2.1 nS.2.2.1 nS.2.2.2.1 nS.2.2.2.2.1 nS.2.2.2.2.2.1 nS.2.2.2.2.2.2.1 nS.2.2.2.2.2.2.2.1 nS.2.2.2.2.2.2.2.2.1 nS.2.2.2.2.2.2.2.2.2.1 r8.1 r8.2.1 r8.2.2.1 r8.2.2.2.1 r8.2.2.2.2.1 r8.2.2.2.2.2.1 mS.2.2.2.2.2.2.1 r8.2.2.2.2.2.2.1 r8.2.2.2.2.2.2.2.1 r8.2.2.2.2.2.2.2.2)) hx hb hml hown hts hK hN hA hP hD hS hl (c_City_becomes l D cI cM cS cJ aM aN aK s.heap.size mS.1 mS.2.1 mS.2.2.1 mS.2.2.2.1 mS.2.2.2.2.1 mS.2.2.2.2.2.1 mS.2.2.2.2.2.2.1 mS.2.2.2.2.2.2.2.1 mS.2.2.2.2.2.2.2.2.1 mS.2.2.2.2.2.2.2.2.2.1 nS.1 nS.2.1 nS.2.2.1 nS.2.2.2.1 nS.2.2.2.2.1 nS.2.2.2.2.2.1 nS.2.2.2.2.2.2.1 nS.2.2.2.2.2.2.2.1 nS.2.2.2.2.2.2.2.2.1 nS.2.2.2.2.2.2.2.2.2.1 g8) gX5_after_X2_becomes rfl kdV_X2_becomes 0 2 rfl rfl rfl [5, 6, 7, 8, 1, 2, 3, 4] ⟨rfl, rfl⟩ ⟨Nat.le_of_ble_eq_true rfl, Nat.le_of_ble_eq_true rfl⟩ ⟨Nat.zero_le _, Nat.zero_le _⟩ rfl rfl (by decide +kernel) (k_rp rfl (by decide +kernel)) rfl rfl (Nat.le_of_ble_eq_true rfl) dX5_after_8 rfl (fun H locs hP hD hS => ?_)
  refine lv_aload_n hx hb dX5_after_11 rfl (lv_at hl 0 rfl) ?_
  refine va_get (D := D) (ci := 5) (v := .ref (aM 0)) (C := RX5) (T := TX5) (N := 5) hx hb hts hiX5 hown hK hP 0 rfl rfl 1 (by decide) hf25 (fun _ z => z) rfl dX5_after_12 ?_
  refine lv_iload_n hx hb dX5_after_15 rfl (lv_at hl 1 rfl) ?_
  obtain ⟨r16, g16, h⟩ := k_bind h
  refine k_callV (As := [.int x1]) (rest := []) (st1 := [.int r16.1]) (ws2 := (Wd16 cI cM aN aW aM aK nS.1 nS.2.1 nS.2.2.1 nS.2.2.2.1 nS.2.2.2.2.1 nS.2.2.2.2.2.1 nS.2.2.2.2.2.2.1 nS.2.2.2.2.2.2.2.1 nS.2.2.2.2.2.2.2.2.1 nS.2.2.2.2.2.2.2.2.2.1 r8.1 r8.2.1 r16.2.1 r16.2.2.1 r16.2.2.2.1 r16.2.2.2.2.1 r16.2.2.2.2.2.1 r8.2.2.2.2.2.2.1 r8.2.2.2.2.2.2.2.1 r16.2.2.2.2.2.2)) hx hb hml hown hts hK hN hA hP hD hS hl (c_City_passDays l D cI cM cS cJ aM aK H.size x1 r8.1 r8.2.1 r8.2.2.1 r8.2.2.2.1 r8.2.2.2.2.1 r8.2.2.2.2.2.1 mS.2.2.2.2.2.2.1 r8.2.2.2.2.2.2.1 r8.2.2.2.2.2.2.2.1 r8.2.2.2.2.2.2.2.2 g16) gX5_after_X2_passDays rfl kdV_X2_passDays 0 2 rfl rfl rfl [5, 6, 7, 8, 9, 10, 11, 12, 13, 14, 15, 16, 17] ⟨rfl, rfl⟩ ⟨Nat.le_of_ble_eq_true rfl, Nat.le_of_ble_eq_true rfl⟩ ⟨Nat.zero_le _, Nat.zero_le _⟩ rfl rfl (by decide +kernel) (k_rp rfl (by decide +kernel)) rfl rfl (Nat.le_of_ble_eq_true rfl) dX5_after_16 rfl (fun H locs hP hD hS => ?_)
  refine lv_pop hx hb dX5_after_19 rfl ?_
  refine lv_aload_n hx hb dX5_after_20 rfl (lv_at hl 0 rfl) ?_
  refine va_get (D := D) (ci := 5) (v := .ref (aM 0)) (C := RX5) (T := TX5) (N := 5) hx hb hts hiX5 hown hK hP 0 rfl rfl 1 (by decide) hf25 (fun _ z => z) rfl dX5_after_21 ?_
  cases h
  exact hret _ _ _ _ hP hS dX5_after_24
abbrev rm_X5_daysToStraight : Room := { frames := 4, cells := 0, slots := 0, locals := 105 }
set_option maxHeartbeats 4000000 in
set_option maxRecDepth 100000 in
theorem c_Mind_daysToStraight (l : Launch) (D : va_G) (cI cM cS cJ : ClassId) (aN : Nat → Nat) (aW : Nat → Nat) (aM : Nat → Nat) (aK : Nat → Nat) (sz : Nat) (x1 : Int32) (nS : CS) (mS : CS) {o : (Int32) × (CS)} (hsem : S_Mind_daysToStraight x1 nS mS = some o) : kMet l yX5_daysToStraight wsX5_daysToStraight rm_X5_daysToStraight [.ref (aW 0), .int x1] D (kT cI cM cS cJ) (Wd16 cI cM aN aW aM aK nS.1 nS.2.1 nS.2.2.1 nS.2.2.2.1 nS.2.2.2.2.1 nS.2.2.2.2.2.1 nS.2.2.2.2.2.2.1 nS.2.2.2.2.2.2.2.1 nS.2.2.2.2.2.2.2.2.1 nS.2.2.2.2.2.2.2.2.2.1 mS.1 mS.2.1 mS.2.2.1 mS.2.2.2.1 mS.2.2.2.2.1 mS.2.2.2.2.2.1 mS.2.2.2.2.2.2.1 mS.2.2.2.2.2.2.2.1 mS.2.2.2.2.2.2.2.2.1 mS.2.2.2.2.2.2.2.2.2.1) sz (some (.int o.1)) (Wd16 cI cM aN aW aM aK nS.1 nS.2.1 nS.2.2.1 nS.2.2.2.1 nS.2.2.2.2.1 nS.2.2.2.2.2.1 nS.2.2.2.2.2.2.1 nS.2.2.2.2.2.2.2.1 nS.2.2.2.2.2.2.2.2.1 nS.2.2.2.2.2.2.2.2.2.1 o.2.1 o.2.2.1 o.2.2.2.1 o.2.2.2.2.1 o.2.2.2.2.2.1 o.2.2.2.2.2.2.1 o.2.2.2.2.2.2.2.1 o.2.2.2.2.2.2.2.2.1 o.2.2.2.2.2.2.2.2.2.1 o.2.2.2.2.2.2.2.2.2.2.1) := by
  refine k_metI (by decide) rfl rfl (Nat.le_of_ble_eq_true rfl) ?_
  intro p e s m below meth c ls Q A hx hb hml hts hown hK hN hA hP hD hS hl hsz hnm hret
  have hown : s.vm.findClass RX5 = some m.cls := hown
  have hf25 := hts (.fieldLink RX5 25 "PlumbLine$Mind" "then" "LPlumbLine$City;") (List.mem_of_getElem? (i := 1) rfl)
  have hf21 := hts (.fieldLink RX5 21 "PlumbLine$Mind" "now" "LPlumbLine$City;") (List.mem_of_getElem? (i := 2) rfl)
  have hf38 := hts (.fieldLink RX5 38 "PlumbLine$City" "lean" "[I") (List.mem_of_getElem? (i := 3) rfl)
  have hiX2 : ∀ w ∈ u_ws RX2 TX2 12, w ∈ wsX5_daysToStraight := fun w h => List.mem_cons_of_mem _ (List.mem_append_right _ h)
  have hiX5 : ∀ w ∈ u_ws RX5 TX5 5, w ∈ wsX5_daysToStraight := fun w h => List.mem_cons_of_mem _ (List.mem_append_left _ (List.mem_append_right _ h))
  replace hl : lv_has ls 3 [(0, .ref (aW 0)), (1, .int x1)] := hl
  have h := hsem
  clear hsem
  rw [S_Mind_daysToStraight] at h
  refine lv_aload_n hx hb dX5_daysToStraight_0 rfl (lv_at hl 0 rfl) ?_
  refine va_get (D := D) (ci := 5) (v := .ref (aM 0)) (C := RX5) (T := TX5) (N := 5) hx hb hts hiX5 hown hK hP 0 rfl rfl 1 (by decide) hf25 (fun _ z => z) rfl dX5_daysToStraight_1 ?_
  refine lv_aload_n hx hb dX5_daysToStraight_4 rfl (lv_at hl 0 rfl) ?_
  refine va_get (D := D) (ci := 5) (v := .ref (aN 0)) (C := RX5) (T := TX5) (N := 5) hx hb hts hiX5 hown hK hP 0 rfl rfl 0 (by decide) hf21 (fun _ z => z) rfl dX5_daysToStraight_5 ?_
  obtain ⟨r8, g8, h⟩ := k_bind h
  refine k_callV (As := [.ref (aN 0)]) (rest := []) (st1 := []) (ws2 := (Wd16 cI cM aN aW aM aK nS.1 nS.2.1 nS.2.2.1 nS.2.2.2.1 nS.2.2.2.2.1 nS.2.2.2.2.2.1 nS.2.2.2.2.2.2.1 nS.2.2.2.2.2.2.2.1 nS.2.2.2.2.2.2.2.2.1 nS.2.2.2.2.2.2.2.2.2.1 r8.1 r8.2.1 r8.2.2.1 r8.2.2.2.1 r8.2.2.2.2.1 r8.2.2.2.2.2.1 mS.2.2.2.2.2.2.1 r8.2.2.2.2.2.2.1 r8.2.2.2.2.2.2.2.1 r8.2.2.2.2.2.2.2.2)) hx hb hml hown hts hK hN hA hP hD hS hl (c_City_becomes l D cI cM cS cJ aM aN aK s.heap.size mS.1 mS.2.1 mS.2.2.1 mS.2.2.2.1 mS.2.2.2.2.1 mS.2.2.2.2.2.1 mS.2.2.2.2.2.2.1 mS.2.2.2.2.2.2.2.1 mS.2.2.2.2.2.2.2.2.1 mS.2.2.2.2.2.2.2.2.2.1 nS.1 nS.2.1 nS.2.2.1 nS.2.2.2.1 nS.2.2.2.2.1 nS.2.2.2.2.2.1 nS.2.2.2.2.2.2.1 nS.2.2.2.2.2.2.2.1 nS.2.2.2.2.2.2.2.2.1 nS.2.2.2.2.2.2.2.2.2.1 g8) gX5_daysToStraight_X2_becomes rfl kdV_X2_becomes 0 2 rfl rfl rfl [5, 6, 7, 8, 1, 2, 3, 4] ⟨rfl, rfl⟩ ⟨Nat.le_of_ble_eq_true rfl, Nat.le_of_ble_eq_true rfl⟩ ⟨Nat.zero_le _, Nat.zero_le _⟩ rfl rfl (by decide +kernel) (k_rp rfl (by decide +kernel)) rfl rfl (Nat.le_of_ble_eq_true rfl) dX5_daysToStraight_8 rfl (fun H locs hP hD hS => ?_)
  refine lv_iconst (v := 0) hx hb dX5_daysToStraight_11 (by decide) ?_
  have B13 : ∀ (n13 : Nat) (y2 : Int32) (mS : CS) (H : Heap) (locs : List Loc) (ls : Array Slot), va_P D vwCl (Wd16 cI cM aN aW aM aK nS.1 nS.2.1 nS.2.2.1 nS.2.2.2.1 nS.2.2.2.2.1 nS.2.2.2.2.2.1 nS.2.2.2.2.2.2.1 nS.2.2.2.2.2.2.2.1 nS.2.2.2.2.2.2.2.2.1 nS.2.2.2.2.2.2.2.2.2.1 mS.1 mS.2.1 mS.2.2.1 mS.2.2.2.1 mS.2.2.2.2.1 mS.2.2.2.2.2.1 mS.2.2.2.2.2.2.1 mS.2.2.2.2.2.2.2.1 mS.2.2.2.2.2.2.2.2.1 mS.2.2.2.2.2.2.2.2.2.1) H → va_D A (Wd16 cI cM aN aW aM aK nS.1 nS.2.1 nS.2.2.1 nS.2.2.2.1 nS.2.2.2.2.1 nS.2.2.2.2.2.1 nS.2.2.2.2.2.2.1 nS.2.2.2.2.2.2.2.1 nS.2.2.2.2.2.2.2.2.1 nS.2.2.2.2.2.2.2.2.2.1 mS.1 mS.2.1 mS.2.2.1 mS.2.2.2.1 mS.2.2.2.2.1 mS.2.2.2.2.2.1 mS.2.2.2.2.2.2.1 mS.2.2.2.2.2.2.2.1 mS.2.2.2.2.2.2.2.2.1 mS.2.2.2.2.2.2.2.2.2.1) → va_S A s.heap H locs → lv_has ls 3 [(0, .ref (aW 0)), (1, .int x1), (2, .int y2)] → S_Mind_daysToStraight_L13 x1 n13 y2 mS = some o → W p l e rm_X5_daysToStraight s m ([.ref (aW 0), .int x1] : List Value).toArray below meth c H locs 0 0 Q (F0 m 13 ls []) := by
    intro n13
    induction n13 with
    | zero => intro y2 mS H locs ls hP hD hS hl h; exact absurd h (by simp [S_Mind_daysToStraight_L13])
    | succ n13 ih13 =>
      intro y2 mS H locs ls hP hD hS hl h
      rw [S_Mind_daysToStraight_L13] at h
      refine lv_iload_n hx hb dX5_daysToStraight_13 rfl (lv_at hl 2 rfl) ?_
      refine lv_bipush (v := 60) hx hb dX5_daysToStraight_14 (by decide) ?_
      refine lv_icmp_gt (tgt := 46) hx hb dX5_daysToStraight_16 (by decide) (fun c16 => ?_) (fun c16 => ?_)
      · have h := k_pos c16 h
        refine lv_bipush (v := (-4)) hx hb dX5_daysToStraight_46 (by decide) ?_
        cases h
        exact hret _ _ _ _ hP hS dX5_daysToStraight_48
      · have h := k_neg c16 h
        refine lv_aload_n hx hb dX5_daysToStraight_19 rfl (lv_at hl 0 rfl) ?_
        refine va_get (D := D) (ci := 5) (v := .ref (aM 0)) (C := RX5) (T := TX5) (N := 5) hx hb hts hiX5 hown hK hP 0 rfl rfl 1 (by decide) hf25 (fun _ z => z) rfl dX5_daysToStraight_20 ?_
        refine va_get (D := D) (ci := 2) (v := .ref (aM 3)) (C := RX2) (T := TX2) (N := 12) hx hb hts hiX2 hown hK hP 5 rfl rfl 2 (by decide) hf38 (fun _ z => z) rfl dX5_daysToStraight_23 ?_
        refine lv_iload_n hx hb dX5_daysToStraight_26 rfl (lv_at hl 1 rfl) ?_
        obtain ⟨g27, h⟩ := k_guard h
        refine va_iald hx hb hK hP 8 0 rfl rfl g27 dX5_daysToStraight_27 ?_
        refine lv_if_ne (tgt := 33) hx hb dX5_daysToStraight_28 (by decide) (fun c28 => ?_) (fun c28 => ?_)
        · have h := k_neg c28 h
          refine lv_aload_n hx hb dX5_daysToStraight_33 rfl (lv_at hl 0 rfl) ?_
          refine va_get (D := D) (ci := 5) (v := .ref (aM 0)) (C := RX5) (T := TX5) (N := 5) hx hb hts hiX5 hown hK hP 0 rfl rfl 1 (by decide) hf25 (fun _ z => z) rfl dX5_daysToStraight_34 ?_
          obtain ⟨r37, g37, h⟩ := k_bind h
          refine k_callV (As := []) (rest := []) (st1 := []) (ws2 := (Wd16 cI cM aN aW aM aK nS.1 nS.2.1 nS.2.2.1 nS.2.2.2.1 nS.2.2.2.2.1 nS.2.2.2.2.2.1 nS.2.2.2.2.2.2.1 nS.2.2.2.2.2.2.2.1 nS.2.2.2.2.2.2.2.2.1 nS.2.2.2.2.2.2.2.2.2.1 mS.1 mS.2.1 r37.1 r37.2.1 r37.2.2.1 r37.2.2.2.1 r37.2.2.2.2.1 mS.2.2.2.2.2.2.2.1 mS.2.2.2.2.2.2.2.2.1 r37.2.2.2.2.2)) hx hb hml hown hts hK hN hA hP hD hS hl (c_City_passDay l D cI cM cS cJ aM aK H.size mS.1 mS.2.1 mS.2.2.1 mS.2.2.2.1 mS.2.2.2.2.1 mS.2.2.2.2.2.1 mS.2.2.2.2.2.2.1 mS.2.2.2.2.2.2.2.1 mS.2.2.2.2.2.2.2.2.1 mS.2.2.2.2.2.2.2.2.2.1 g37) gX5_daysToStraight_X2_passDay rfl kdV_X2_passDay 0 2 rfl rfl rfl [5, 6, 7, 8, 9, 10, 11, 12, 13, 14, 15, 16, 17] ⟨rfl, rfl⟩ ⟨Nat.le_of_ble_eq_true rfl, Nat.le_of_ble_eq_true rfl⟩ ⟨Nat.zero_le _, Nat.zero_le _⟩ rfl rfl (by decide +kernel) (k_rp rfl (by decide +kernel)) rfl rfl (Nat.le_of_ble_eq_true rfl) dX5_daysToStraight_37 rfl (fun H locs hP hD hS => ?_)
          refine lv_iinc (v := (y2 + 1)) (lv' := [(2, .int (y2 + 1)), (0, .ref (aW 0)), (1, .int x1)]) hx hb dX5_daysToStraight_40 hl (k := 2) rfl (by first | rfl | decide) (by decide) rfl (fun ls hl => ?_)
          refine lv_goto (tgt := 13) hx hb dX5_daysToStraight_43 (by decide) ?_
          exact ih13 (y2 + 1) (mS.1, mS.2.1, r37.1, r37.2.1, r37.2.2.1, r37.2.2.2.1, r37.2.2.2.2.1, mS.2.2.2.2.2.2.2.1, mS.2.2.2.2.2.2.2.2.1, r37.2.2.2.2.2, mS.2.2.2.2.2.2.2.2.2.2) H locs ls hP hD hS (lv_sub hl [1, 2, 0] rfl) h
        · have h := k_pos c28 h
          refine lv_iload_n hx hb dX5_daysToStraight_31 rfl (lv_at hl 2 rfl) ?_
          cases h
          exact hret _ _ _ _ hP hS dX5_daysToStraight_32
  refine lv_istore_n (lv' := [(2, .int 0), (0, .ref (aW 0)), (1, .int x1)]) hx hb dX5_daysToStraight_12 rfl hl (by decide) rfl (fun ls hl => ?_)
  exact B13 lfu 0 (r8.1, r8.2.1, r8.2.2.1, r8.2.2.2.1, r8.2.2.2.2.1, r8.2.2.2.2.2.1, mS.2.2.2.2.2.2.1, r8.2.2.2.2.2.2.1, r8.2.2.2.2.2.2.2.1, r8.2.2.2.2.2.2.2.2, mS.2.2.2.2.2.2.2.2.2.2) H locs ls hP hD hS (lv_sub hl [1, 2, 0] rfl) h
abbrev rm_X5_daysToCrash : Room := { frames := 4, cells := 0, slots := 0, locals := 105 }
set_option maxHeartbeats 4000000 in
set_option maxRecDepth 100000 in
theorem c_Mind_daysToCrash (l : Launch) (D : va_G) (cI cM cS cJ : ClassId) (aN : Nat → Nat) (aW : Nat → Nat) (aM : Nat → Nat) (aK : Nat → Nat) (sz : Nat) (nS : CS) (mS : CS) {o : (Int32) × (CS)} (hsem : S_Mind_daysToCrash nS mS = some o) : kMet l yX5_daysToCrash wsX5_daysToCrash rm_X5_daysToCrash [.ref (aW 0)] D (kT cI cM cS cJ) (Wd16 cI cM aN aW aM aK nS.1 nS.2.1 nS.2.2.1 nS.2.2.2.1 nS.2.2.2.2.1 nS.2.2.2.2.2.1 nS.2.2.2.2.2.2.1 nS.2.2.2.2.2.2.2.1 nS.2.2.2.2.2.2.2.2.1 nS.2.2.2.2.2.2.2.2.2.1 mS.1 mS.2.1 mS.2.2.1 mS.2.2.2.1 mS.2.2.2.2.1 mS.2.2.2.2.2.1 mS.2.2.2.2.2.2.1 mS.2.2.2.2.2.2.2.1 mS.2.2.2.2.2.2.2.2.1 mS.2.2.2.2.2.2.2.2.2.1) sz (some (.int o.1)) (Wd16 cI cM aN aW aM aK nS.1 nS.2.1 nS.2.2.1 nS.2.2.2.1 nS.2.2.2.2.1 nS.2.2.2.2.2.1 nS.2.2.2.2.2.2.1 nS.2.2.2.2.2.2.2.1 nS.2.2.2.2.2.2.2.2.1 nS.2.2.2.2.2.2.2.2.2.1 o.2.1 o.2.2.1 o.2.2.2.1 o.2.2.2.2.1 o.2.2.2.2.2.1 o.2.2.2.2.2.2.1 o.2.2.2.2.2.2.2.1 o.2.2.2.2.2.2.2.2.1 o.2.2.2.2.2.2.2.2.2.1 o.2.2.2.2.2.2.2.2.2.2.1) := by
  refine k_metI (by decide) rfl rfl (Nat.le_of_ble_eq_true rfl) ?_
  intro p e s m below meth c ls Q A hx hb hml hts hown hK hN hA hP hD hS hl hsz hnm hret
  have hown : s.vm.findClass RX5 = some m.cls := hown
  have hf25 := hts (.fieldLink RX5 25 "PlumbLine$Mind" "then" "LPlumbLine$City;") (List.mem_of_getElem? (i := 1) rfl)
  have hf21 := hts (.fieldLink RX5 21 "PlumbLine$Mind" "now" "LPlumbLine$City;") (List.mem_of_getElem? (i := 2) rfl)
  have hf44 := hts (.fieldLink RX5 44 "PlumbLine$City" "crashedToday" "Z") (List.mem_of_getElem? (i := 3) rfl)
  have hiX2 : ∀ w ∈ u_ws RX2 TX2 12, w ∈ wsX5_daysToCrash := fun w h => List.mem_cons_of_mem _ (List.mem_append_right _ h)
  have hiX5 : ∀ w ∈ u_ws RX5 TX5 5, w ∈ wsX5_daysToCrash := fun w h => List.mem_cons_of_mem _ (List.mem_append_left _ (List.mem_append_right _ h))
  replace hl : lv_has ls 2 [(0, .ref (aW 0))] := hl
  have h := hsem
  clear hsem
  rw [S_Mind_daysToCrash] at h
  refine lv_aload_n hx hb dX5_daysToCrash_0 rfl (lv_at hl 0 rfl) ?_
  refine va_get (D := D) (ci := 5) (v := .ref (aM 0)) (C := RX5) (T := TX5) (N := 5) hx hb hts hiX5 hown hK hP 0 rfl rfl 1 (by decide) hf25 (fun _ z => z) rfl dX5_daysToCrash_1 ?_
  refine lv_aload_n hx hb dX5_daysToCrash_4 rfl (lv_at hl 0 rfl) ?_
  refine va_get (D := D) (ci := 5) (v := .ref (aN 0)) (C := RX5) (T := TX5) (N := 5) hx hb hts hiX5 hown hK hP 0 rfl rfl 0 (by decide) hf21 (fun _ z => z) rfl dX5_daysToCrash_5 ?_
  obtain ⟨r8, g8, h⟩ := k_bind h
  refine k_callV (As := [.ref (aN 0)]) (rest := []) (st1 := []) (ws2 := (Wd16 cI cM aN aW aM aK nS.1 nS.2.1 nS.2.2.1 nS.2.2.2.1 nS.2.2.2.2.1 nS.2.2.2.2.2.1 nS.2.2.2.2.2.2.1 nS.2.2.2.2.2.2.2.1 nS.2.2.2.2.2.2.2.2.1 nS.2.2.2.2.2.2.2.2.2.1 r8.1 r8.2.1 r8.2.2.1 r8.2.2.2.1 r8.2.2.2.2.1 r8.2.2.2.2.2.1 mS.2.2.2.2.2.2.1 r8.2.2.2.2.2.2.1 r8.2.2.2.2.2.2.2.1 r8.2.2.2.2.2.2.2.2)) hx hb hml hown hts hK hN hA hP hD hS hl (c_City_becomes l D cI cM cS cJ aM aN aK s.heap.size mS.1 mS.2.1 mS.2.2.1 mS.2.2.2.1 mS.2.2.2.2.1 mS.2.2.2.2.2.1 mS.2.2.2.2.2.2.1 mS.2.2.2.2.2.2.2.1 mS.2.2.2.2.2.2.2.2.1 mS.2.2.2.2.2.2.2.2.2.1 nS.1 nS.2.1 nS.2.2.1 nS.2.2.2.1 nS.2.2.2.2.1 nS.2.2.2.2.2.1 nS.2.2.2.2.2.2.1 nS.2.2.2.2.2.2.2.1 nS.2.2.2.2.2.2.2.2.1 nS.2.2.2.2.2.2.2.2.2.1 g8) gX5_daysToCrash_X2_becomes rfl kdV_X2_becomes 0 2 rfl rfl rfl [5, 6, 7, 8, 1, 2, 3, 4] ⟨rfl, rfl⟩ ⟨Nat.le_of_ble_eq_true rfl, Nat.le_of_ble_eq_true rfl⟩ ⟨Nat.zero_le _, Nat.zero_le _⟩ rfl rfl (by decide +kernel) (k_rp rfl (by decide +kernel)) rfl rfl (Nat.le_of_ble_eq_true rfl) dX5_daysToCrash_8 rfl (fun H locs hP hD hS => ?_)
  refine lv_iconst (v := 1) hx hb dX5_daysToCrash_11 (by decide) ?_
  have B13 : ∀ (n13 : Nat) (y1 : Int32) (mS : CS) (H : Heap) (locs : List Loc) (ls : Array Slot), va_P D vwCl (Wd16 cI cM aN aW aM aK nS.1 nS.2.1 nS.2.2.1 nS.2.2.2.1 nS.2.2.2.2.1 nS.2.2.2.2.2.1 nS.2.2.2.2.2.2.1 nS.2.2.2.2.2.2.2.1 nS.2.2.2.2.2.2.2.2.1 nS.2.2.2.2.2.2.2.2.2.1 mS.1 mS.2.1 mS.2.2.1 mS.2.2.2.1 mS.2.2.2.2.1 mS.2.2.2.2.2.1 mS.2.2.2.2.2.2.1 mS.2.2.2.2.2.2.2.1 mS.2.2.2.2.2.2.2.2.1 mS.2.2.2.2.2.2.2.2.2.1) H → va_D A (Wd16 cI cM aN aW aM aK nS.1 nS.2.1 nS.2.2.1 nS.2.2.2.1 nS.2.2.2.2.1 nS.2.2.2.2.2.1 nS.2.2.2.2.2.2.1 nS.2.2.2.2.2.2.2.1 nS.2.2.2.2.2.2.2.2.1 nS.2.2.2.2.2.2.2.2.2.1 mS.1 mS.2.1 mS.2.2.1 mS.2.2.2.1 mS.2.2.2.2.1 mS.2.2.2.2.2.1 mS.2.2.2.2.2.2.1 mS.2.2.2.2.2.2.2.1 mS.2.2.2.2.2.2.2.2.1 mS.2.2.2.2.2.2.2.2.2.1) → va_S A s.heap H locs → lv_has ls 2 [(0, .ref (aW 0)), (1, .int y1)] → S_Mind_daysToCrash_L13 n13 y1 mS = some o → W p l e rm_X5_daysToCrash s m ([.ref (aW 0)] : List Value).toArray below meth c H locs 0 0 Q (F0 m 13 ls []) := by
    intro n13
    induction n13 with
    | zero => intro y1 mS H locs ls hP hD hS hl h; exact absurd h (by simp [S_Mind_daysToCrash_L13])
    | succ n13 ih13 =>
      intro y1 mS H locs ls hP hD hS hl h
      rw [S_Mind_daysToCrash_L13] at h
      refine lv_iload_n hx hb dX5_daysToCrash_13 rfl (lv_at hl 1 rfl) ?_
      refine lv_bipush (v := 60) hx hb dX5_daysToCrash_14 (by decide) ?_
      refine lv_icmp_gt (tgt := 44) hx hb dX5_daysToCrash_16 (by decide) (fun c16 => ?_) (fun c16 => ?_)
      · have h := k_pos c16 h
        refine lv_bipush (v := (-4)) hx hb dX5_daysToCrash_44 (by decide) ?_
        cases h
        exact hret _ _ _ _ hP hS dX5_daysToCrash_46
      · have h := k_neg c16 h
        refine lv_aload_n hx hb dX5_daysToCrash_19 rfl (lv_at hl 0 rfl) ?_
        refine va_get (D := D) (ci := 5) (v := .ref (aM 0)) (C := RX5) (T := TX5) (N := 5) hx hb hts hiX5 hown hK hP 0 rfl rfl 1 (by decide) hf25 (fun _ z => z) rfl dX5_daysToCrash_20 ?_
        obtain ⟨r23, g23, h⟩ := k_bind h
        refine k_callV (As := []) (rest := []) (st1 := []) (ws2 := (Wd16 cI cM aN aW aM aK nS.1 nS.2.1 nS.2.2.1 nS.2.2.2.1 nS.2.2.2.2.1 nS.2.2.2.2.2.1 nS.2.2.2.2.2.2.1 nS.2.2.2.2.2.2.2.1 nS.2.2.2.2.2.2.2.2.1 nS.2.2.2.2.2.2.2.2.2.1 mS.1 mS.2.1 r23.1 r23.2.1 r23.2.2.1 r23.2.2.2.1 r23.2.2.2.2.1 mS.2.2.2.2.2.2.2.1 mS.2.2.2.2.2.2.2.2.1 r23.2.2.2.2.2)) hx hb hml hown hts hK hN hA hP hD hS hl (c_City_passDay l D cI cM cS cJ aM aK H.size mS.1 mS.2.1 mS.2.2.1 mS.2.2.2.1 mS.2.2.2.2.1 mS.2.2.2.2.2.1 mS.2.2.2.2.2.2.1 mS.2.2.2.2.2.2.2.1 mS.2.2.2.2.2.2.2.2.1 mS.2.2.2.2.2.2.2.2.2.1 g23) gX5_daysToCrash_X2_passDay rfl kdV_X2_passDay 0 2 rfl rfl rfl [5, 6, 7, 8, 9, 10, 11, 12, 13, 14, 15, 16, 17] ⟨rfl, rfl⟩ ⟨Nat.le_of_ble_eq_true rfl, Nat.le_of_ble_eq_true rfl⟩ ⟨Nat.zero_le _, Nat.zero_le _⟩ rfl rfl (by decide +kernel) (k_rp rfl (by decide +kernel)) rfl rfl (Nat.le_of_ble_eq_true rfl) dX5_daysToCrash_23 rfl (fun H locs hP hD hS => ?_)
        refine lv_aload_n hx hb dX5_daysToCrash_26 rfl (lv_at hl 0 rfl) ?_
        refine va_get (D := D) (ci := 5) (v := .ref (aM 0)) (C := RX5) (T := TX5) (N := 5) hx hb hts hiX5 hown hK hP 0 rfl rfl 1 (by decide) hf25 (fun _ z => z) rfl dX5_daysToCrash_27 ?_
        refine va_get (D := D) (ci := 2) (v := .int r23.2.2.2.2.1) (C := RX2) (T := TX2) (N := 12) hx hb hts hiX2 hown hK hP 5 rfl rfl 9 (by decide) hf44 (fun _ z => z) rfl dX5_daysToCrash_30 ?_
        refine lv_if_eq (tgt := 38) hx hb dX5_daysToCrash_33 (by decide) (fun c33 => ?_) (fun c33 => ?_)
        · have h := k_pos c33 h
          refine lv_iinc (v := (y1 + 1)) (lv' := [(1, .int (y1 + 1)), (0, .ref (aW 0))]) hx hb dX5_daysToCrash_38 hl (k := 1) rfl (by first | rfl | decide) (by decide) rfl (fun ls hl => ?_)
          refine lv_goto (tgt := 13) hx hb dX5_daysToCrash_41 (by decide) ?_
          exact ih13 (y1 + 1) (mS.1, mS.2.1, r23.1, r23.2.1, r23.2.2.1, r23.2.2.2.1, r23.2.2.2.2.1, mS.2.2.2.2.2.2.2.1, mS.2.2.2.2.2.2.2.2.1, r23.2.2.2.2.2, mS.2.2.2.2.2.2.2.2.2.2) H locs ls hP hD hS (lv_sub hl [1, 0] rfl) h
        · have h := k_neg c33 h
          refine lv_iload_n hx hb dX5_daysToCrash_36 rfl (lv_at hl 1 rfl) ?_
          cases h
          exact hret _ _ _ _ hP hS dX5_daysToCrash_37
  refine lv_istore_n (lv' := [(1, .int 1), (0, .ref (aW 0))]) hx hb dX5_daysToCrash_12 rfl hl (by decide) rfl (fun ls hl => ?_)
  exact B13 lfu 1 (r8.1, r8.2.1, r8.2.2.1, r8.2.2.2.1, r8.2.2.2.2.1, r8.2.2.2.2.2.1, mS.2.2.2.2.2.2.1, r8.2.2.2.2.2.2.1, r8.2.2.2.2.2.2.2.1, r8.2.2.2.2.2.2.2.2, mS.2.2.2.2.2.2.2.2.2.2) H locs ls hP hD hS (lv_sub hl [1, 0] rfl) h
abbrev rm_X5_daysToFind : Room := { frames := 4, cells := 0, slots := 0, locals := 105 }
set_option maxHeartbeats 4000000 in
set_option maxRecDepth 100000 in
theorem c_Mind_daysToFind (l : Launch) (D : va_G) (cI cM cS cJ : ClassId) (aN : Nat → Nat) (aW : Nat → Nat) (aM : Nat → Nat) (aK : Nat → Nat) (sz : Nat) (x1 : Int32) (nS : CS) (mS : CS) {o : (Int32) × (CS)} (hsem : S_Mind_daysToFind x1 nS mS = some o) : kMet l yX5_daysToFind wsX5_daysToFind rm_X5_daysToFind [.ref (aW 0), .int x1] D (kT cI cM cS cJ) (Wd16 cI cM aN aW aM aK nS.1 nS.2.1 nS.2.2.1 nS.2.2.2.1 nS.2.2.2.2.1 nS.2.2.2.2.2.1 nS.2.2.2.2.2.2.1 nS.2.2.2.2.2.2.2.1 nS.2.2.2.2.2.2.2.2.1 nS.2.2.2.2.2.2.2.2.2.1 mS.1 mS.2.1 mS.2.2.1 mS.2.2.2.1 mS.2.2.2.2.1 mS.2.2.2.2.2.1 mS.2.2.2.2.2.2.1 mS.2.2.2.2.2.2.2.1 mS.2.2.2.2.2.2.2.2.1 mS.2.2.2.2.2.2.2.2.2.1) sz (some (.int o.1)) (Wd16 cI cM aN aW aM aK nS.1 nS.2.1 nS.2.2.1 nS.2.2.2.1 nS.2.2.2.2.1 nS.2.2.2.2.2.1 nS.2.2.2.2.2.2.1 nS.2.2.2.2.2.2.2.1 nS.2.2.2.2.2.2.2.2.1 nS.2.2.2.2.2.2.2.2.2.1 o.2.1 o.2.2.1 o.2.2.2.1 o.2.2.2.2.1 o.2.2.2.2.2.1 o.2.2.2.2.2.2.1 o.2.2.2.2.2.2.2.1 o.2.2.2.2.2.2.2.2.1 o.2.2.2.2.2.2.2.2.2.1 o.2.2.2.2.2.2.2.2.2.2.1) := by
  refine k_metI (by decide) rfl rfl (Nat.le_of_ble_eq_true rfl) ?_
  intro p e s m below meth c ls Q A hx hb hml hts hown hK hN hA hP hD hS hl hsz hnm hret
  have hown : s.vm.findClass RX5 = some m.cls := hown
  have hf25 := hts (.fieldLink RX5 25 "PlumbLine$Mind" "then" "LPlumbLine$City;") (List.mem_of_getElem? (i := 1) rfl)
  have hf21 := hts (.fieldLink RX5 21 "PlumbLine$Mind" "now" "LPlumbLine$City;") (List.mem_of_getElem? (i := 2) rfl)
  have hf48 := hts (.fieldLink RX5 48 "PlumbLine$City" "place" "I") (List.mem_of_getElem? (i := 3) rfl)
  have hiX2 : ∀ w ∈ u_ws RX2 TX2 12, w ∈ wsX5_daysToFind := fun w h => List.mem_cons_of_mem _ (List.mem_append_right _ h)
  have hiX5 : ∀ w ∈ u_ws RX5 TX5 5, w ∈ wsX5_daysToFind := fun w h => List.mem_cons_of_mem _ (List.mem_append_left _ (List.mem_append_right _ h))
  replace hl : lv_has ls 3 [(0, .ref (aW 0)), (1, .int x1)] := hl
  have h := hsem
  clear hsem
  rw [S_Mind_daysToFind] at h
  refine lv_aload_n hx hb dX5_daysToFind_0 rfl (lv_at hl 0 rfl) ?_
  refine va_get (D := D) (ci := 5) (v := .ref (aM 0)) (C := RX5) (T := TX5) (N := 5) hx hb hts hiX5 hown hK hP 0 rfl rfl 1 (by decide) hf25 (fun _ z => z) rfl dX5_daysToFind_1 ?_
  refine lv_aload_n hx hb dX5_daysToFind_4 rfl (lv_at hl 0 rfl) ?_
  refine va_get (D := D) (ci := 5) (v := .ref (aN 0)) (C := RX5) (T := TX5) (N := 5) hx hb hts hiX5 hown hK hP 0 rfl rfl 0 (by decide) hf21 (fun _ z => z) rfl dX5_daysToFind_5 ?_
  obtain ⟨r8, g8, h⟩ := k_bind h
  refine k_callV (As := [.ref (aN 0)]) (rest := []) (st1 := []) (ws2 := (Wd16 cI cM aN aW aM aK nS.1 nS.2.1 nS.2.2.1 nS.2.2.2.1 nS.2.2.2.2.1 nS.2.2.2.2.2.1 nS.2.2.2.2.2.2.1 nS.2.2.2.2.2.2.2.1 nS.2.2.2.2.2.2.2.2.1 nS.2.2.2.2.2.2.2.2.2.1 r8.1 r8.2.1 r8.2.2.1 r8.2.2.2.1 r8.2.2.2.2.1 r8.2.2.2.2.2.1 mS.2.2.2.2.2.2.1 r8.2.2.2.2.2.2.1 r8.2.2.2.2.2.2.2.1 r8.2.2.2.2.2.2.2.2)) hx hb hml hown hts hK hN hA hP hD hS hl (c_City_becomes l D cI cM cS cJ aM aN aK s.heap.size mS.1 mS.2.1 mS.2.2.1 mS.2.2.2.1 mS.2.2.2.2.1 mS.2.2.2.2.2.1 mS.2.2.2.2.2.2.1 mS.2.2.2.2.2.2.2.1 mS.2.2.2.2.2.2.2.2.1 mS.2.2.2.2.2.2.2.2.2.1 nS.1 nS.2.1 nS.2.2.1 nS.2.2.2.1 nS.2.2.2.2.1 nS.2.2.2.2.2.1 nS.2.2.2.2.2.2.1 nS.2.2.2.2.2.2.2.1 nS.2.2.2.2.2.2.2.2.1 nS.2.2.2.2.2.2.2.2.2.1 g8) gX5_daysToFind_X2_becomes rfl kdV_X2_becomes 0 2 rfl rfl rfl [5, 6, 7, 8, 1, 2, 3, 4] ⟨rfl, rfl⟩ ⟨Nat.le_of_ble_eq_true rfl, Nat.le_of_ble_eq_true rfl⟩ ⟨Nat.zero_le _, Nat.zero_le _⟩ rfl rfl (by decide +kernel) (k_rp rfl (by decide +kernel)) rfl rfl (Nat.le_of_ble_eq_true rfl) dX5_daysToFind_8 rfl (fun H locs hP hD hS => ?_)
  refine lv_iconst (v := 0) hx hb dX5_daysToFind_11 (by decide) ?_
  have B13 : ∀ (n13 : Nat) (y2 : Int32) (mS : CS) (H : Heap) (locs : List Loc) (ls : Array Slot), va_P D vwCl (Wd16 cI cM aN aW aM aK nS.1 nS.2.1 nS.2.2.1 nS.2.2.2.1 nS.2.2.2.2.1 nS.2.2.2.2.2.1 nS.2.2.2.2.2.2.1 nS.2.2.2.2.2.2.2.1 nS.2.2.2.2.2.2.2.2.1 nS.2.2.2.2.2.2.2.2.2.1 mS.1 mS.2.1 mS.2.2.1 mS.2.2.2.1 mS.2.2.2.2.1 mS.2.2.2.2.2.1 mS.2.2.2.2.2.2.1 mS.2.2.2.2.2.2.2.1 mS.2.2.2.2.2.2.2.2.1 mS.2.2.2.2.2.2.2.2.2.1) H → va_D A (Wd16 cI cM aN aW aM aK nS.1 nS.2.1 nS.2.2.1 nS.2.2.2.1 nS.2.2.2.2.1 nS.2.2.2.2.2.1 nS.2.2.2.2.2.2.1 nS.2.2.2.2.2.2.2.1 nS.2.2.2.2.2.2.2.2.1 nS.2.2.2.2.2.2.2.2.2.1 mS.1 mS.2.1 mS.2.2.1 mS.2.2.2.1 mS.2.2.2.2.1 mS.2.2.2.2.2.1 mS.2.2.2.2.2.2.1 mS.2.2.2.2.2.2.2.1 mS.2.2.2.2.2.2.2.2.1 mS.2.2.2.2.2.2.2.2.2.1) → va_S A s.heap H locs → lv_has ls 3 [(0, .ref (aW 0)), (1, .int x1), (2, .int y2)] → S_Mind_daysToFind_L13 x1 n13 y2 mS = some o → W p l e rm_X5_daysToFind s m ([.ref (aW 0), .int x1] : List Value).toArray below meth c H locs 0 0 Q (F0 m 13 ls []) := by
    intro n13
    induction n13 with
    | zero => intro y2 mS H locs ls hP hD hS hl h; exact absurd h (by simp [S_Mind_daysToFind_L13])
    | succ n13 ih13 =>
      intro y2 mS H locs ls hP hD hS hl h
      rw [S_Mind_daysToFind_L13] at h
      refine lv_iload_n hx hb dX5_daysToFind_13 rfl (lv_at hl 2 rfl) ?_
      refine lv_bipush (v := 60) hx hb dX5_daysToFind_14 (by decide) ?_
      refine lv_icmp_gt (tgt := 45) hx hb dX5_daysToFind_16 (by decide) (fun c16 => ?_) (fun c16 => ?_)
      · have h := k_pos c16 h
        refine lv_bipush (v := (-4)) hx hb dX5_daysToFind_45 (by decide) ?_
        cases h
        exact hret _ _ _ _ hP hS dX5_daysToFind_47
      · have h := k_neg c16 h
        refine lv_aload_n hx hb dX5_daysToFind_19 rfl (lv_at hl 0 rfl) ?_
        refine va_get (D := D) (ci := 5) (v := .ref (aM 0)) (C := RX5) (T := TX5) (N := 5) hx hb hts hiX5 hown hK hP 0 rfl rfl 1 (by decide) hf25 (fun _ z => z) rfl dX5_daysToFind_20 ?_
        refine va_get (D := D) (ci := 2) (v := .int mS.2.2.1) (C := RX2) (T := TX2) (N := 12) hx hb hts hiX2 hown hK hP 5 rfl rfl 5 (by decide) hf48 (fun _ z => z) rfl dX5_daysToFind_23 ?_
        refine lv_iload_n hx hb dX5_daysToFind_26 rfl (lv_at hl 1 rfl) ?_
        refine lv_icmp_ne (tgt := 32) hx hb dX5_daysToFind_27 (by decide) (fun c27 => ?_) (fun c27 => ?_)
        · have h := k_neg c27 h
          refine lv_aload_n hx hb dX5_daysToFind_32 rfl (lv_at hl 0 rfl) ?_
          refine va_get (D := D) (ci := 5) (v := .ref (aM 0)) (C := RX5) (T := TX5) (N := 5) hx hb hts hiX5 hown hK hP 0 rfl rfl 1 (by decide) hf25 (fun _ z => z) rfl dX5_daysToFind_33 ?_
          obtain ⟨r36, g36, h⟩ := k_bind h
          refine k_callV (As := []) (rest := []) (st1 := []) (ws2 := (Wd16 cI cM aN aW aM aK nS.1 nS.2.1 nS.2.2.1 nS.2.2.2.1 nS.2.2.2.2.1 nS.2.2.2.2.2.1 nS.2.2.2.2.2.2.1 nS.2.2.2.2.2.2.2.1 nS.2.2.2.2.2.2.2.2.1 nS.2.2.2.2.2.2.2.2.2.1 mS.1 mS.2.1 r36.1 r36.2.1 r36.2.2.1 r36.2.2.2.1 r36.2.2.2.2.1 mS.2.2.2.2.2.2.2.1 mS.2.2.2.2.2.2.2.2.1 r36.2.2.2.2.2)) hx hb hml hown hts hK hN hA hP hD hS hl (c_City_passDay l D cI cM cS cJ aM aK H.size mS.1 mS.2.1 mS.2.2.1 mS.2.2.2.1 mS.2.2.2.2.1 mS.2.2.2.2.2.1 mS.2.2.2.2.2.2.1 mS.2.2.2.2.2.2.2.1 mS.2.2.2.2.2.2.2.2.1 mS.2.2.2.2.2.2.2.2.2.1 g36) gX5_daysToFind_X2_passDay rfl kdV_X2_passDay 0 2 rfl rfl rfl [5, 6, 7, 8, 9, 10, 11, 12, 13, 14, 15, 16, 17] ⟨rfl, rfl⟩ ⟨Nat.le_of_ble_eq_true rfl, Nat.le_of_ble_eq_true rfl⟩ ⟨Nat.zero_le _, Nat.zero_le _⟩ rfl rfl (by decide +kernel) (k_rp rfl (by decide +kernel)) rfl rfl (Nat.le_of_ble_eq_true rfl) dX5_daysToFind_36 rfl (fun H locs hP hD hS => ?_)
          refine lv_iinc (v := (y2 + 1)) (lv' := [(2, .int (y2 + 1)), (0, .ref (aW 0)), (1, .int x1)]) hx hb dX5_daysToFind_39 hl (k := 2) rfl (by first | rfl | decide) (by decide) rfl (fun ls hl => ?_)
          refine lv_goto (tgt := 13) hx hb dX5_daysToFind_42 (by decide) ?_
          exact ih13 (y2 + 1) (mS.1, mS.2.1, r36.1, r36.2.1, r36.2.2.1, r36.2.2.2.1, r36.2.2.2.2.1, mS.2.2.2.2.2.2.2.1, mS.2.2.2.2.2.2.2.2.1, r36.2.2.2.2.2, mS.2.2.2.2.2.2.2.2.2.2) H locs ls hP hD hS (lv_sub hl [1, 2, 0] rfl) h
        · have h := k_pos c27 h
          refine lv_iload_n hx hb dX5_daysToFind_30 rfl (lv_at hl 2 rfl) ?_
          cases h
          exact hret _ _ _ _ hP hS dX5_daysToFind_31
  refine lv_istore_n (lv' := [(2, .int 0), (0, .ref (aW 0)), (1, .int x1)]) hx hb dX5_daysToFind_12 rfl hl (by decide) rfl (fun ls hl => ?_)
  exact B13 lfu 0 (r8.1, r8.2.1, r8.2.2.1, r8.2.2.2.1, r8.2.2.2.2.1, r8.2.2.2.2.2.1, mS.2.2.2.2.2.2.1, r8.2.2.2.2.2.2.1, r8.2.2.2.2.2.2.2.1, r8.2.2.2.2.2.2.2.2, mS.2.2.2.2.2.2.2.2.2.2) H locs ls hP hD hS (lv_sub hl [1, 2, 0] rfl) h
abbrev Wd17 (cI : ClassId) (cM : ClassId) (aN : Nat → Nat) (aW : Nat → Nat) (aM : Nat → Nat) (aK : Nat → Nat) (w_before : Nat → Int32) (m_men : Int32) (m_propped : Int32) (m_place : Int32) (m_swings : Int32) (m_crashes : Int32) (m_day : Int32) (m_crashedToday : Int32) (m_kind : Nat → Int32) (m_figure : Nat → Int32) (m_lean : Nat → Int32) : va_W := [((aW 0), .inr (5, [.ref (aN 0), .ref (aM 0), .ref (aW 1), .ref (aW 2), .ref (aW 3)])), ((aW 3), .inl (cI, 8, .inl w_before)), ((aM 0), .inr (2, [.ref (aM 1), .ref (aM 2), .ref (aM 3), .int m_men, .int m_propped, .int m_place, .int m_swings, .int m_crashes, .int m_day, .int m_crashedToday, .ref (aK 8), .ref (aM 4)])), ((aM 1), .inl (cI, 8, .inl m_kind)), ((aM 2), .inl (cI, 8, .inl m_figure)), ((aM 3), .inl (cI, 8, .inl m_lean)), ((aK 8), .inl (cM, 8, .inr (.inr (.inr (.inr (fun k => some (aK k))))))), ((aK 0), .inr (4, [])), ((aK 1), .inr (0, [])), ((aK 2), .inr (7, [])), ((aK 3), .inr (3, [])), ((aK 4), .inr (1, [])), ((aK 5), .inr (8, [])), ((aK 6), .inr (10, [])), ((aK 7), .inr (6, []))]
abbrev rm_X5_passesAlike : Room := { frames := 4, cells := 0, slots := 0, locals := 105 }
set_option maxHeartbeats 4000000 in
set_option maxRecDepth 100000 in
theorem c_Mind_passesAlike (l : Launch) (D : va_G) (cI cM cS cJ : ClassId) (aN : Nat → Nat) (aW : Nat → Nat) (aM : Nat → Nat) (aK : Nat → Nat) (sz : Nat) (w_before : Nat → Int32) (mS : CS) {o : (Int32) × (Nat → Int32) × (CS)} (hsem : S_Mind_passesAlike w_before mS = some o) : kMet l yX5_passesAlike wsX5_passesAlike rm_X5_passesAlike [.ref (aW 0)] D (kT cI cM cS cJ) (Wd17 cI cM aN aW aM aK w_before mS.1 mS.2.1 mS.2.2.1 mS.2.2.2.1 mS.2.2.2.2.1 mS.2.2.2.2.2.1 mS.2.2.2.2.2.2.1 mS.2.2.2.2.2.2.2.1 mS.2.2.2.2.2.2.2.2.1 mS.2.2.2.2.2.2.2.2.2.1) sz (some (.int o.1)) (Wd17 cI cM aN aW aM aK o.2.1 o.2.2.1 o.2.2.2.1 o.2.2.2.2.1 o.2.2.2.2.2.1 o.2.2.2.2.2.2.1 o.2.2.2.2.2.2.2.1 o.2.2.2.2.2.2.2.2.1 o.2.2.2.2.2.2.2.2.2.1 o.2.2.2.2.2.2.2.2.2.2.1 o.2.2.2.2.2.2.2.2.2.2.2.1) := by
  refine k_metZ (by decide) rfl rfl (Nat.le_of_ble_eq_true rfl) ?_
  intro p e s m below meth c ls Q A hx hb hml hts hown hK hN hA hP hD hS hl hsz hnm hret
  have hown : s.vm.findClass RX5 = some m.cls := hown
  have hf25 := hts (.fieldLink RX5 25 "PlumbLine$Mind" "then" "LPlumbLine$City;") (List.mem_of_getElem? (i := 1) rfl)
  have hf38 := hts (.fieldLink RX5 38 "PlumbLine$City" "lean" "[I") (List.mem_of_getElem? (i := 2) rfl)
  have hf18 := hts (.fieldLink RX5 18 "PlumbLine$Mind" "before" "[I") (List.mem_of_getElem? (i := 3) rfl)
  have hf62 := hts (.fieldLink RX5 62 "PlumbLine$City" "men" "I") (List.mem_of_getElem? (i := 8) rfl)
  have hiX2 : ∀ w ∈ u_ws RX2 TX2 12, w ∈ wsX5_passesAlike := fun w h => List.mem_cons_of_mem _ (List.mem_append_right _ h)
  have hiX5 : ∀ w ∈ u_ws RX5 TX5 5, w ∈ wsX5_passesAlike := fun w h => List.mem_cons_of_mem _ (List.mem_append_left _ (List.mem_append_right _ h))
  replace hl : lv_has ls 2 [(0, .ref (aW 0))] := hl
  have h := hsem
  clear hsem
  rw [S_Mind_passesAlike] at h
  refine lv_aload_n hx hb dX5_passesAlike_0 rfl (lv_at hl 0 rfl) ?_
  refine va_get (D := D) (ci := 5) (v := .ref (aM 0)) (C := RX5) (T := TX5) (N := 5) hx hb hts hiX5 hown hK hP 0 rfl rfl 1 (by decide) hf25 (fun _ z => z) rfl dX5_passesAlike_1 ?_
  refine va_get (D := D) (ci := 2) (v := .ref (aM 3)) (C := RX2) (T := TX2) (N := 12) hx hb hts hiX2 hown hK hP 2 rfl rfl 2 (by decide) hf38 (fun _ z => z) rfl dX5_passesAlike_4 ?_
  refine lv_iconst (v := 0) hx hb dX5_passesAlike_7 (by decide) ?_
  refine lv_aload_n hx hb dX5_passesAlike_8 rfl (lv_at hl 0 rfl) ?_
  refine va_get (D := D) (ci := 5) (v := .ref (aW 3)) (C := RX5) (T := TX5) (N := 5) hx hb hts hiX5 hown hK hP 0 rfl rfl 4 (by decide) hf18 (fun _ z => z) rfl dX5_passesAlike_9 ?_
  refine lv_iconst (v := 0) hx hb dX5_passesAlike_12 (by decide) ?_
  refine lv_bipush (v := 8) hx hb dX5_passesAlike_13 (by decide) ?_
  refine va_copyi (own := RX5) (index := 56) (ty := .int) hx hb (hml.trans hl.1.symm) hown (hts _ (List.mem_of_getElem? (i := 4) rfl)) (hts _ (List.mem_of_getElem? (i := 5) rfl)) (hts _ (List.mem_of_getElem? (i := 6) rfl)) (hts _ (List.mem_of_getElem? (i := 7) rfl)) hK hP hD hS 5 1 0 0 rfl rfl rfl rfl rfl (by decide) (by decide) (by decide) (by decide) (by decide) (fun _ _ => rfl) (Nat.le_of_ble_eq_true rfl) (by decide +kernel) dX5_passesAlike_15 (fun H locs hP hD hS => ?_)
  replace hP : va_P D vwCl (Wd17 cI cM aN aW aM aK (va_cpy mS.2.2.2.2.2.2.2.2.2.1 w_before (0 : Int32).toNatClampNeg (0 : Int32).toNatClampNeg (8 : Int32).toNatClampNeg) mS.1 mS.2.1 mS.2.2.1 mS.2.2.2.1 mS.2.2.2.2.1 mS.2.2.2.2.2.1 mS.2.2.2.2.2.2.1 mS.2.2.2.2.2.2.2.1 mS.2.2.2.2.2.2.2.2.1 mS.2.2.2.2.2.2.2.2.2.1) H := hP
  replace hD : va_D A (Wd17 cI cM aN aW aM aK (va_cpy mS.2.2.2.2.2.2.2.2.2.1 w_before (0 : Int32).toNatClampNeg (0 : Int32).toNatClampNeg (8 : Int32).toNatClampNeg) mS.1 mS.2.1 mS.2.2.1 mS.2.2.2.1 mS.2.2.2.2.1 mS.2.2.2.2.2.1 mS.2.2.2.2.2.2.1 mS.2.2.2.2.2.2.2.1 mS.2.2.2.2.2.2.2.2.1 mS.2.2.2.2.2.2.2.2.2.1) := hD
  refine lv_aload_n hx hb dX5_passesAlike_18 rfl (lv_at hl 0 rfl) ?_
  refine va_get (D := D) (ci := 5) (v := .ref (aM 0)) (C := RX5) (T := TX5) (N := 5) hx hb hts hiX5 hown hK hP 0 rfl rfl 1 (by decide) hf25 (fun _ z => z) rfl dX5_passesAlike_19 ?_
  obtain ⟨r22, g22, h⟩ := k_bind h
  refine k_callV (As := []) (rest := []) (st1 := []) (ws2 := (Wd17 cI cM aN aW aM aK (va_cpy mS.2.2.2.2.2.2.2.2.2.1 w_before (0 : Int32).toNatClampNeg (0 : Int32).toNatClampNeg (8 : Int32).toNatClampNeg) mS.1 mS.2.1 r22.1 r22.2.1 r22.2.2.1 r22.2.2.2.1 r22.2.2.2.2.1 mS.2.2.2.2.2.2.2.1 mS.2.2.2.2.2.2.2.2.1 r22.2.2.2.2.2)) hx hb hml hown hts hK hN hA hP hD hS hl (c_City_passDay l D cI cM cS cJ aM aK H.size mS.1 mS.2.1 mS.2.2.1 mS.2.2.2.1 mS.2.2.2.2.1 mS.2.2.2.2.2.1 mS.2.2.2.2.2.2.1 mS.2.2.2.2.2.2.2.1 mS.2.2.2.2.2.2.2.2.1 mS.2.2.2.2.2.2.2.2.2.1 g22) gX5_passesAlike_X2_passDay rfl kdV_X2_passDay 0 2 rfl rfl rfl [2, 3, 4, 5, 6, 7, 8, 9, 10, 11, 12, 13, 14] ⟨rfl, rfl⟩ ⟨Nat.le_of_ble_eq_true rfl, Nat.le_of_ble_eq_true rfl⟩ ⟨Nat.zero_le _, Nat.zero_le _⟩ rfl rfl (by decide +kernel) (k_rp rfl (by decide +kernel)) rfl rfl (Nat.le_of_ble_eq_true rfl) dX5_passesAlike_22 rfl (fun H locs hP hD hS => ?_)
  refine lv_iconst (v := 0) hx hb dX5_passesAlike_25 (by decide) ?_
  have B27 : ∀ (w_before : Nat → Int32) (mS : CS) (n27 : Nat) (y1 : Int32) (H : Heap) (locs : List Loc) (ls : Array Slot), va_P D vwCl (Wd17 cI cM aN aW aM aK w_before mS.1 mS.2.1 mS.2.2.1 mS.2.2.2.1 mS.2.2.2.2.1 mS.2.2.2.2.2.1 mS.2.2.2.2.2.2.1 mS.2.2.2.2.2.2.2.1 mS.2.2.2.2.2.2.2.2.1 mS.2.2.2.2.2.2.2.2.2.1) H → va_D A (Wd17 cI cM aN aW aM aK w_before mS.1 mS.2.1 mS.2.2.1 mS.2.2.2.1 mS.2.2.2.2.1 mS.2.2.2.2.2.1 mS.2.2.2.2.2.2.1 mS.2.2.2.2.2.2.2.1 mS.2.2.2.2.2.2.2.2.1 mS.2.2.2.2.2.2.2.2.2.1) → va_S A s.heap H locs → lv_has ls 2 [(0, .ref (aW 0)), (1, .int y1)] → S_Mind_passesAlike_L27 w_before mS n27 y1 = some o → W p l e rm_X5_passesAlike s m ([.ref (aW 0)] : List Value).toArray below meth c H locs 0 0 Q (F0 m 27 ls []) := by
    intro w_before mS
    intro n27
    induction n27 with
    | zero => intro y1 H locs ls hP hD hS hl h; exact absurd h (by simp [S_Mind_passesAlike_L27])
    | succ n27 ih27 =>
      intro y1 H locs ls hP hD hS hl h
      rw [S_Mind_passesAlike_L27] at h
      refine lv_iload_n hx hb dX5_passesAlike_27 rfl (lv_at hl 1 rfl) ?_
      refine lv_aload_n hx hb dX5_passesAlike_28 rfl (lv_at hl 0 rfl) ?_
      refine va_get (D := D) (ci := 5) (v := .ref (aM 0)) (C := RX5) (T := TX5) (N := 5) hx hb hts hiX5 hown hK hP 0 rfl rfl 1 (by decide) hf25 (fun _ z => z) rfl dX5_passesAlike_29 ?_
      refine va_get (D := D) (ci := 2) (v := .int mS.1) (C := RX2) (T := TX2) (N := 12) hx hb hts hiX2 hown hK hP 2 rfl rfl 3 (by decide) hf62 (fun _ z => z) rfl dX5_passesAlike_32 ?_
      refine lv_icmp_ge (tgt := 64) hx hb dX5_passesAlike_35 (by decide) (fun c35 => ?_) (fun c35 => ?_)
      · have h := k_pos c35 h
        refine lv_iconst (v := 1) hx hb dX5_passesAlike_64 (by decide) ?_
        cases h
        exact hret _ _ _ _ (k_z01 (fun z => z (Or.inr rfl))) hP hS dX5_passesAlike_65
      · have h := k_neg c35 h
        refine lv_aload_n hx hb dX5_passesAlike_38 rfl (lv_at hl 0 rfl) ?_
        refine va_get (D := D) (ci := 5) (v := .ref (aM 0)) (C := RX5) (T := TX5) (N := 5) hx hb hts hiX5 hown hK hP 0 rfl rfl 1 (by decide) hf25 (fun _ z => z) rfl dX5_passesAlike_39 ?_
        refine va_get (D := D) (ci := 2) (v := .ref (aM 3)) (C := RX2) (T := TX2) (N := 12) hx hb hts hiX2 hown hK hP 2 rfl rfl 2 (by decide) hf38 (fun _ z => z) rfl dX5_passesAlike_42 ?_
        refine lv_iload_n hx hb dX5_passesAlike_45 rfl (lv_at hl 1 rfl) ?_
        obtain ⟨g46, h⟩ := k_guard h
        refine va_iald hx hb hK hP 5 0 rfl rfl g46 dX5_passesAlike_46 ?_
        refine lv_aload_n hx hb dX5_passesAlike_47 rfl (lv_at hl 0 rfl) ?_
        refine va_get (D := D) (ci := 5) (v := .ref (aW 3)) (C := RX5) (T := TX5) (N := 5) hx hb hts hiX5 hown hK hP 0 rfl rfl 4 (by decide) hf18 (fun _ z => z) rfl dX5_passesAlike_48 ?_
        refine lv_iload_n hx hb dX5_passesAlike_51 rfl (lv_at hl 1 rfl) ?_
        refine va_iald hx hb hK hP 1 0 rfl rfl g46 dX5_passesAlike_52 ?_
        refine lv_icmp_eq (tgt := 58) hx hb dX5_passesAlike_53 (by decide) (fun c53 => ?_) (fun c53 => ?_)
        · have h := k_pos c53 h
          refine lv_iinc (v := (y1 + 1)) (lv' := [(1, .int (y1 + 1)), (0, .ref (aW 0))]) hx hb dX5_passesAlike_58 hl (k := 1) rfl (by first | rfl | decide) (by decide) rfl (fun ls hl => ?_)
          refine lv_goto (tgt := 27) hx hb dX5_passesAlike_61 (by decide) ?_
          exact ih27 (y1 + 1) H locs ls hP hD hS (lv_sub hl [1, 0] rfl) h
        · have h := k_neg c53 h
          refine lv_iconst (v := 0) hx hb dX5_passesAlike_56 (by decide) ?_
          cases h
          exact hret _ _ _ _ (k_z01 (fun z => z (Or.inl rfl))) hP hS dX5_passesAlike_57
  refine lv_istore_n (lv' := [(1, .int 0), (0, .ref (aW 0))]) hx hb dX5_passesAlike_26 rfl hl (by decide) rfl (fun ls hl => ?_)
  exact B27 (va_cpy mS.2.2.2.2.2.2.2.2.2.1 w_before (0 : Int32).toNatClampNeg (0 : Int32).toNatClampNeg (8 : Int32).toNatClampNeg) (mS.1, mS.2.1, r22.1, r22.2.1, r22.2.2.1, r22.2.2.2.1, r22.2.2.2.2.1, mS.2.2.2.2.2.2.2.1, mS.2.2.2.2.2.2.2.2.1, r22.2.2.2.2.2, mS.2.2.2.2.2.2.2.2.2.2) lfu 0 H locs ls hP hD hS (lv_sub hl [1, 0] rfl) h
