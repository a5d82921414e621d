abbrev Wd18 (cI : ClassId) (cM : ClassId) (aN : Nat → Nat) (aW : Nat → Nat) (aM : Nat → Nat) (aK : Nat → Nat) (w_before : Nat → Int32) (n_men : Int32) (n_propped : Int32) (n_place : Int32) (n_swings : Int32) (n_crashes : Int32) (n_day : Int32) (n_crashedToday : Int32) (n_kind : Nat → Int32) (n_figure : Nat → Int32) (n_lean : Nat → Int32) (m_men : Int32) (m_propped : Int32) (m_place : Int32) (m_swings : Int32) (m_crashes : Int32) (m_day : Int32) (m_crashedToday : Int32) (m_kind : Nat → Int32) (m_figure : Nat → Int32) (m_lean : Nat → Int32) : va_W := [((aW 0), .inr (5, [.ref (aN 0), .ref (aM 0), .ref (aW 1), .ref (aW 2), .ref (aW 3)])), ((aW 3), .inl (cI, 8, .inl w_before)), ((aN 0), .inr (2, [.ref (aN 1), .ref (aN 2), .ref (aN 3), .int n_men, .int n_propped, .int n_place, .int n_swings, .int n_crashes, .int n_day, .int n_crashedToday, .ref (aK 8), .ref (aN 4)])), ((aN 1), .inl (cI, 8, .inl n_kind)), ((aN 2), .inl (cI, 8, .inl n_figure)), ((aN 3), .inl (cI, 8, .inl n_lean)), ((aM 0), .inr (2, [.ref (aM 1), .ref (aM 2), .ref (aM 3), .int m_men, .int m_propped, .int m_place, .int m_swings, .int m_crashes, .int m_day, .int m_crashedToday, .ref (aK 8), .ref (aM 4)])), ((aM 1), .inl (cI, 8, .inl m_kind)), ((aM 2), .inl (cI, 8, .inl m_figure)), ((aM 3), .inl (cI, 8, .inl m_lean)), ((aK 8), .inl (cM, 8, .inr (.inr (.inr (.inr (fun k => some (aK k))))))), ((aK 0), .inr (4, [])), ((aK 1), .inr (0, [])), ((aK 2), .inr (7, [])), ((aK 3), .inr (3, [])), ((aK 4), .inr (1, [])), ((aK 5), .inr (8, [])), ((aK 6), .inr (10, [])), ((aK 7), .inr (6, []))]
theorem kdV_X5_passesAlike : yX5_passesAlike.cls = RX5 ∧ yX5_passesAlike.cls ≠ "java/lang/invoke/MethodHandle" ∧ yX5_passesAlike.cls ≠ "java/lang/invoke/VarHandle" ∧ (parseMethodDescriptor yX5_passesAlike.desc).map (fun d => d.parameters.length) = some 0 := by decide +kernel
abbrev rm_X5_daysToStill : Room := { frames := 5, cells := 0, slots := 0, locals := 126 }
set_option maxHeartbeats 4000000 in
set_option maxRecDepth 100000 in
theorem c_Mind_daysToStill (l : Launch) (D : va_G) (cI cM cS cJ : ClassId) (aN : Nat → Nat) (aW : Nat → Nat) (aM : Nat → Nat) (aK : Nat → Nat) (sz : Nat) (w_before : Nat → Int32) (nS : CS) (mS : CS) {o : (Int32) × (Nat → Int32) × (CS)} (hsem : S_Mind_daysToStill w_before nS mS = some o) : kMet l yX5_daysToStill wsX5_daysToStill rm_X5_daysToStill [.ref (aW 0)] D (kT cI cM cS cJ) (Wd18 cI cM aN aW aM aK w_before nS.1 nS.2.1 nS.2.2.1 nS.2.2.2.1 nS.2.2.2.2.1 nS.2.2.2.2.2.1 nS.2.2.2.2.2.2.1 nS.2.2.2.2.2.2.2.1 nS.2.2.2.2.2.2.2.2.1 nS.2.2.2.2.2.2.2.2.2.1 mS.1 mS.2.1 mS.2.2.1 mS.2.2.2.1 mS.2.2.2.2.1 mS.2.2.2.2.2.1 mS.2.2.2.2.2.2.1 mS.2.2.2.2.2.2.2.1 mS.2.2.2.2.2.2.2.2.1 mS.2.2.2.2.2.2.2.2.2.1) sz (some (.int o.1)) (Wd18 cI cM aN aW aM aK o.2.1 nS.1 nS.2.1 nS.2.2.1 nS.2.2.2.1 nS.2.2.2.2.1 nS.2.2.2.2.2.1 nS.2.2.2.2.2.2.1 nS.2.2.2.2.2.2.2.1 nS.2.2.2.2.2.2.2.2.1 nS.2.2.2.2.2.2.2.2.2.1 o.2.2.1 o.2.2.2.1 o.2.2.2.2.1 o.2.2.2.2.2.1 o.2.2.2.2.2.2.1 o.2.2.2.2.2.2.2.1 o.2.2.2.2.2.2.2.2.1 o.2.2.2.2.2.2.2.2.2.1 o.2.2.2.2.2.2.2.2.2.2.1 o.2.2.2.2.2.2.2.2.2.2.2.1) := by
  refine k_metI (by decide) rfl rfl (Nat.le_of_ble_eq_true rfl) ?_
  intro p e s m below meth c ls Q A hx hb hml hts hown hK hN hA hP hD hS hl hsz hnm hret
  have hown : s.vm.findClass RX5 = some m.cls := hown
  have hf25 := hts (.fieldLink RX5 25 "PlumbLine$Mind" "then" "LPlumbLine$City;") (List.mem_of_getElem? (i := 1) rfl)
  have hf21 := hts (.fieldLink RX5 21 "PlumbLine$Mind" "now" "LPlumbLine$City;") (List.mem_of_getElem? (i := 2) rfl)
  have hiX5 : ∀ w ∈ u_ws RX5 TX5 5, w ∈ wsX5_daysToStill := fun w h => List.mem_cons_of_mem _ (List.mem_append_left _ (List.mem_append_right _ h))
  replace hl : lv_has ls 3 [(0, .ref (aW 0))] := hl
  have h := hsem
  clear hsem
  rw [S_Mind_daysToStill] at h
  refine lv_aload_n hx hb dX5_daysToStill_0 rfl (lv_at hl 0 rfl) ?_
  refine va_get (D := D) (ci := 5) (v := .ref (aM 0)) (C := RX5) (T := TX5) (N := 5) hx hb hts hiX5 hown hK hP 0 rfl rfl 1 (by decide) hf25 (fun _ z => z) rfl dX5_daysToStill_1 ?_
  refine lv_aload_n hx hb dX5_daysToStill_4 rfl (lv_at hl 0 rfl) ?_
  refine va_get (D := D) (ci := 5) (v := .ref (aN 0)) (C := RX5) (T := TX5) (N := 5) hx hb hts hiX5 hown hK hP 0 rfl rfl 0 (by decide) hf21 (fun _ z => z) rfl dX5_daysToStill_5 ?_
  obtain ⟨r8, g8, h⟩ := k_bind h
  refine k_callV (As := [.ref (aN 0)]) (rest := []) (st1 := []) (ws2 := (Wd18 cI cM aN aW aM aK w_before nS.1 nS.2.1 nS.2.2.1 nS.2.2.2.1 nS.2.2.2.2.1 nS.2.2.2.2.2.1 nS.2.2.2.2.2.2.1 nS.2.2.2.2.2.2.2.1 nS.2.2.2.2.2.2.2.2.1 nS.2.2.2.2.2.2.2.2.2.1 r8.1 r8.2.1 r8.2.2.1 r8.2.2.2.1 r8.2.2.2.2.1 r8.2.2.2.2.2.1 mS.2.2.2.2.2.2.1 r8.2.2.2.2.2.2.1 r8.2.2.2.2.2.2.2.1 r8.2.2.2.2.2.2.2.2)) hx hb hml hown hts hK hN hA hP hD hS hl (c_City_becomes l D cI cM cS cJ aM aN aK s.heap.size mS.1 mS.2.1 mS.2.2.1 mS.2.2.2.1 mS.2.2.2.2.1 mS.2.2.2.2.2.1 mS.2.2.2.2.2.2.1 mS.2.2.2.2.2.2.2.1 mS.2.2.2.2.2.2.2.2.1 mS.2.2.2.2.2.2.2.2.2.1 nS.1 nS.2.1 nS.2.2.1 nS.2.2.2.1 nS.2.2.2.2.1 nS.2.2.2.2.2.1 nS.2.2.2.2.2.2.1 nS.2.2.2.2.2.2.2.1 nS.2.2.2.2.2.2.2.2.1 nS.2.2.2.2.2.2.2.2.2.1 g8) gX5_daysToStill_X2_becomes rfl kdV_X2_becomes 0 2 rfl rfl rfl [6, 7, 8, 9, 2, 3, 4, 5] ⟨rfl, rfl⟩ ⟨Nat.le_of_ble_eq_true rfl, Nat.le_of_ble_eq_true rfl⟩ ⟨Nat.zero_le _, Nat.zero_le _⟩ rfl rfl (by decide +kernel) (k_rp rfl (by decide +kernel)) rfl rfl (Nat.le_of_ble_eq_true rfl) dX5_daysToStill_8 rfl (fun H locs hP hD hS => ?_)
  refine lv_iconst (v := 0) hx hb dX5_daysToStill_11 (by decide) ?_
  refine lv_istore_n (lv' := [(1, .int 0), (0, .ref (aW 0))]) hx hb dX5_daysToStill_12 rfl hl (by decide) rfl (fun ls hl => ?_)
  refine lv_iconst (v := 1) hx hb dX5_daysToStill_13 (by decide) ?_
  have B15 : ∀ (n15 : Nat) (y1 : Int32) (y2 : Int32) (w_before : Nat → Int32) (mS : CS) (H : Heap) (locs : List Loc) (ls : Array Slot), va_P D vwCl (Wd18 cI cM aN aW aM aK w_before nS.1 nS.2.1 nS.2.2.1 nS.2.2.2.1 nS.2.2.2.2.1 nS.2.2.2.2.2.1 nS.2.2.2.2.2.2.1 nS.2.2.2.2.2.2.2.1 nS.2.2.2.2.2.2.2.2.1 nS.2.2.2.2.2.2.2.2.2.1 mS.1 mS.2.1 mS.2.2.1 mS.2.2.2.1 mS.2.2.2.2.1 mS.2.2.2.2.2.1 mS.2.2.2.2.2.2.1 mS.2.2.2.2.2.2.2.1 mS.2.2.2.2.2.2.2.2.1 mS.2.2.2.2.2.2.2.2.2.1) H → va_D A (Wd18 cI cM aN aW aM aK w_before nS.1 nS.2.1 nS.2.2.1 nS.2.2.2.1 nS.2.2.2.2.1 nS.2.2.2.2.2.1 nS.2.2.2.2.2.2.1 nS.2.2.2.2.2.2.2.1 nS.2.2.2.2.2.2.2.2.1 nS.2.2.2.2.2.2.2.2.2.1 mS.1 mS.2.1 mS.2.2.1 mS.2.2.2.1 mS.2.2.2.2.1 mS.2.2.2.2.2.1 mS.2.2.2.2.2.2.1 mS.2.2.2.2.2.2.2.1 mS.2.2.2.2.2.2.2.2.1 mS.2.2.2.2.2.2.2.2.2.1) → va_S A s.heap H locs → lv_has ls 3 [(0, .ref (aW 0)), (1, .int y1), (2, .int y2)] → S_Mind_daysToStill_L15 n15 y1 y2 w_before mS = some o → W p l e rm_X5_daysToStill s m ([.ref (aW 0)] : List Value).toArray below meth c H locs 0 0 Q (F0 m 15 ls []) := by
    intro n15
    induction n15 with
    | zero => intro y1 y2 w_before mS H locs ls hP hD hS hl h; exact absurd h (by simp [S_Mind_daysToStill_L15])
    | succ n15 ih15 =>
      intro y1 y2 w_before mS H locs ls hP hD hS hl h
      rw [S_Mind_daysToStill_L15] at h
      refine lv_iload_n hx hb dX5_daysToStill_15 rfl (lv_at hl 2 rfl) ?_
      refine lv_bipush (v := 60) hx hb dX5_daysToStill_16 (by decide) ?_
      refine lv_icmp_gt (tgt := 53) hx hb dX5_daysToStill_18 (by decide) (fun c18 => ?_) (fun c18 => ?_)
      · have h := k_pos c18 h
        refine lv_bipush (v := (-4)) hx hb dX5_daysToStill_53 (by decide) ?_
        cases h
        exact hret _ _ _ _ hP hS dX5_daysToStill_55
      · have h := k_neg c18 h
        refine lv_aload_n hx hb dX5_daysToStill_21 rfl (lv_at hl 0 rfl) ?_
        obtain ⟨r22, g22, h⟩ := k_bind h
        refine k_callV (As := []) (rest := []) (st1 := [.int r22.1]) (ws2 := (Wd18 cI cM aN aW aM aK r22.2.1 nS.1 nS.2.1 nS.2.2.1 nS.2.2.2.1 nS.2.2.2.2.1 nS.2.2.2.2.2.1 nS.2.2.2.2.2.2.1 nS.2.2.2.2.2.2.2.1 nS.2.2.2.2.2.2.2.2.1 nS.2.2.2.2.2.2.2.2.2.1 r22.2.2.1 r22.2.2.2.1 r22.2.2.2.2.1 r22.2.2.2.2.2.1 r22.2.2.2.2.2.2.1 r22.2.2.2.2.2.2.2.1 r22.2.2.2.2.2.2.2.2.1 r22.2.2.2.2.2.2.2.2.2.1 r22.2.2.2.2.2.2.2.2.2.2.1 r22.2.2.2.2.2.2.2.2.2.2.2.1)) hx hb hml hown hts hK hN hA hP hD hS hl (c_Mind_passesAlike l D cI cM cS cJ aN aW aM aK H.size w_before mS g22) gX5_daysToStill_X5_passesAlike rfl kdV_X5_passesAlike 0 5 rfl rfl rfl [0, 1, 6, 7, 8, 9, 10, 11, 12, 13, 14, 15, 16, 17, 18] ⟨rfl, rfl⟩ ⟨Nat.le_of_ble_eq_true rfl, Nat.le_of_ble_eq_true rfl⟩ ⟨Nat.zero_le _, Nat.zero_le _⟩ rfl rfl (by decide +kernel) (k_rp rfl (by decide +kernel)) rfl rfl (Nat.le_of_ble_eq_true rfl) dX5_daysToStill_22 rfl (fun H locs hP hD hS => ?_)
        refine lv_if_eq (tgt := 34) hx hb dX5_daysToStill_25 (by decide) (fun c25 => ?_) (fun c25 => ?_)
        · have h := k_pos c25 h
          refine lv_iconst (v := 0) hx hb dX5_daysToStill_34 (by decide) ?_
          refine lv_istore_n (lv' := [(1, .int 0), (0, .ref (aW 0)), (2, .int y2)]) hx hb dX5_daysToStill_35 rfl hl (by decide) rfl (fun ls hl => ?_)
          refine lv_iload_n hx hb dX5_daysToStill_36 rfl (lv_at hl 0 rfl) ?_
          refine lv_bipush (v := 10) hx hb dX5_daysToStill_37 (by decide) ?_
          refine lv_icmp_ne (tgt := 47) hx hb dX5_daysToStill_39 (by decide) (fun _ => ?_) (fun z => absurd z (by decide))
          refine lv_iinc (v := (y2 + 1)) (lv' := [(2, .int (y2 + 1)), (1, .int 0), (0, .ref (aW 0))]) hx hb dX5_daysToStill_47 hl (k := 2) rfl (by first | rfl | decide) (by decide) rfl (fun ls hl => ?_)
          refine lv_goto (tgt := 15) hx hb dX5_daysToStill_50 (by decide) ?_
          exact ih15 0 (y2 + 1) r22.2.1 r22.2.2 H locs ls hP hD hS (lv_sub hl [2, 1, 0] rfl) h
        · have h := k_neg c25 h
          refine lv_iload_n hx hb dX5_daysToStill_28 rfl (lv_at hl 1 rfl) ?_
          refine lv_iconst (v := 1) hx hb dX5_daysToStill_29 (by decide) ?_
          refine lv_iadd hx hb dX5_daysToStill_30 ?_
          refine lv_goto (tgt := 35) hx hb dX5_daysToStill_31 (by decide) ?_
          refine lv_istore_n (lv' := [(1, .int (y1 + 1)), (0, .ref (aW 0)), (2, .int y2)]) hx hb dX5_daysToStill_35 rfl hl (by decide) rfl (fun ls hl => ?_)
          refine lv_iload_n hx hb dX5_daysToStill_36 rfl (lv_at hl 0 rfl) ?_
          refine lv_bipush (v := 10) hx hb dX5_daysToStill_37 (by decide) ?_
          refine lv_icmp_ne (tgt := 47) hx hb dX5_daysToStill_39 (by decide) (fun c39 => ?_) (fun c39 => ?_)
          · have h := k_neg c39 h
            refine lv_iinc (v := (y2 + 1)) (lv' := [(2, .int (y2 + 1)), (1, .int (y1 + 1)), (0, .ref (aW 0))]) hx hb dX5_daysToStill_47 hl (k := 2) rfl (by first | rfl | decide) (by decide) rfl (fun ls hl => ?_)
            refine lv_goto (tgt := 15) hx hb dX5_daysToStill_50 (by decide) ?_
            exact ih15 (y1 + 1) (y2 + 1) r22.2.1 r22.2.2 H locs ls hP hD hS (lv_sub hl [2, 1, 0] rfl) h
          · have h := k_pos c39 h
            refine lv_iload_n hx hb dX5_daysToStill_42 rfl (lv_at hl 2 rfl) ?_
            refine lv_bipush (v := 10) hx hb dX5_daysToStill_43 (by decide) ?_
            refine lv_isub hx hb dX5_daysToStill_45 ?_
            cases h
            exact hret _ _ _ _ hP hS dX5_daysToStill_46
  refine lv_istore_n (lv' := [(2, .int 1), (1, .int 0), (0, .ref (aW 0))]) hx hb dX5_daysToStill_14 rfl hl (by decide) rfl (fun ls hl => ?_)
  exact B15 lfu 0 1 w_before (r8.1, r8.2.1, r8.2.2.1, r8.2.2.2.1, r8.2.2.2.2.1, r8.2.2.2.2.2.1, mS.2.2.2.2.2.2.1, r8.2.2.2.2.2.2.1, r8.2.2.2.2.2.2.2.1, r8.2.2.2.2.2.2.2.2, mS.2.2.2.2.2.2.2.2.2.2) H locs ls hP hD hS (lv_sub hl [2, 1, 0] rfl) h
abbrev rm_X5_staysWhole : Room := { frames := 4, cells := 0, slots := 0, locals := 105 }
set_option maxHeartbeats 4000000 in
set_option maxRecDepth 100000 in
theorem c_Mind_staysWhole (l : Launch) (D : va_G) (cI cM cS cJ : ClassId) (aN : Nat → Nat) (aW : Nat → Nat) (aM : Nat → Nat) (aK : Nat → Nat) (sz : Nat) (x1 : Int32) (x2 : Int32) (nS : CS) (mS : CS) {o : (Int32) × (CS)} (hsem : S_Mind_staysWhole x1 x2 nS mS = some o) : kMet l yX5_staysWhole wsX5_staysWhole rm_X5_staysWhole [.ref (aW 0), .int x1, .int x2] D (kT cI cM cS cJ) (Wd16 cI cM aN aW aM aK nS.1 nS.2.1 nS.2.2.1 nS.2.2.2.1 nS.2.2.2.2.1 nS.2.2.2.2.2.1 nS.2.2.2.2.2.2.1 nS.2.2.2.2.2.2.2.1 nS.2.2.2.2.2.2.2.2.1 nS.2.2.2.2.2.2.2.2.2.1 mS.1 mS.2.1 mS.2.2.1 mS.2.2.2.1 mS.2.2.2.2.1 mS.2.2.2.2.2.1 mS.2.2.2.2.2.2.1 mS.2.2.2.2.2.2.2.1 mS.2.2.2.2.2.2.2.2.1 mS.2.2.2.2.2.2.2.2.2.1) sz (some (.int o.1)) (Wd16 cI cM aN aW aM aK nS.1 nS.2.1 nS.2.2.1 nS.2.2.2.1 nS.2.2.2.2.1 nS.2.2.2.2.2.1 nS.2.2.2.2.2.2.1 nS.2.2.2.2.2.2.2.1 nS.2.2.2.2.2.2.2.2.1 nS.2.2.2.2.2.2.2.2.2.1 o.2.1 o.2.2.1 o.2.2.2.1 o.2.2.2.2.1 o.2.2.2.2.2.1 o.2.2.2.2.2.2.1 o.2.2.2.2.2.2.2.1 o.2.2.2.2.2.2.2.2.1 o.2.2.2.2.2.2.2.2.2.1 o.2.2.2.2.2.2.2.2.2.2.1) := by
  refine k_metZ (by decide) rfl rfl (Nat.le_of_ble_eq_true rfl) ?_
  intro p e s m below meth c ls Q A hx hb hml hts hown hK hN hA hP hD hS hl hsz hnm hret
  have hown : s.vm.findClass RX5 = some m.cls := hown
  have hf25 := hts (.fieldLink RX5 25 "PlumbLine$Mind" "then" "LPlumbLine$City;") (List.mem_of_getElem? (i := 1) rfl)
  have hf21 := hts (.fieldLink RX5 21 "PlumbLine$Mind" "now" "LPlumbLine$City;") (List.mem_of_getElem? (i := 2) rfl)
  have hf70 := hts (.fieldLink RX5 70 "PlumbLine$City" "propped" "I") (List.mem_of_getElem? (i := 3) rfl)
  have hf44 := hts (.fieldLink RX5 44 "PlumbLine$City" "crashedToday" "Z") (List.mem_of_getElem? (i := 4) rfl)
  have hiX2 : ∀ w ∈ u_ws RX2 TX2 12, w ∈ wsX5_staysWhole := fun w h => List.mem_cons_of_mem _ (List.mem_append_right _ h)
  have hiX5 : ∀ w ∈ u_ws RX5 TX5 5, w ∈ wsX5_staysWhole := fun w h => List.mem_cons_of_mem _ (List.mem_append_left _ (List.mem_append_right _ h))
  replace hl : lv_has ls 4 [(0, .ref (aW 0)), (1, .int x1), (2, .int x2)] := hl
  have h := hsem
  clear hsem
  rw [S_Mind_staysWhole] at h
  refine lv_aload_n hx hb dX5_staysWhole_0 rfl (lv_at hl 0 rfl) ?_
  refine va_get (D := D) (ci := 5) (v := .ref (aM 0)) (C := RX5) (T := TX5) (N := 5) hx hb hts hiX5 hown hK hP 0 rfl rfl 1 (by decide) hf25 (fun _ z => z) rfl dX5_staysWhole_1 ?_
  refine lv_aload_n hx hb dX5_staysWhole_4 rfl (lv_at hl 0 rfl) ?_
  refine va_get (D := D) (ci := 5) (v := .ref (aN 0)) (C := RX5) (T := TX5) (N := 5) hx hb hts hiX5 hown hK hP 0 rfl rfl 0 (by decide) hf21 (fun _ z => z) rfl dX5_staysWhole_5 ?_
  obtain ⟨r8, g8, h⟩ := k_bind h
  refine k_callV (As := [.ref (aN 0)]) (rest := []) (st1 := []) (ws2 := (Wd16 cI cM aN aW aM aK nS.1 nS.2.1 nS.2.2.1 nS.2.2.2.1 nS.2.2.2.2.1 nS.2.2.2.2.2.1 nS.2.2.2.2.2.2.1 nS.2.2.2.2.2.2.2.1 nS.2.2.2.2.2.2.2.2.1 nS.2.2.2.2.2.2.2.2.2.1 r8.1 r8.2.1 r8.2.2.1 r8.2.2.2.1 r8.2.2.2.2.1 r8.2.2.2.2.2.1 mS.2.2.2.2.2.2.1 r8.2.2.2.2.2.2.1 r8.2.2.2.2.2.2.2.1 r8.2.2.2.2.2.2.2.2)) hx hb hml hown hts hK hN hA hP hD hS hl (c_City_becomes l D cI cM cS cJ aM aN aK s.heap.size mS.1 mS.2.1 mS.2.2.1 mS.2.2.2.1 mS.2.2.2.2.1 mS.2.2.2.2.2.1 mS.2.2.2.2.2.2.1 mS.2.2.2.2.2.2.2.1 mS.2.2.2.2.2.2.2.2.1 mS.2.2.2.2.2.2.2.2.2.1 nS.1 nS.2.1 nS.2.2.1 nS.2.2.2.1 nS.2.2.2.2.1 nS.2.2.2.2.2.1 nS.2.2.2.2.2.2.1 nS.2.2.2.2.2.2.2.1 nS.2.2.2.2.2.2.2.2.1 nS.2.2.2.2.2.2.2.2.2.1 g8) gX5_staysWhole_X2_becomes rfl kdV_X2_becomes 0 2 rfl rfl rfl [5, 6, 7, 8, 1, 2, 3, 4] ⟨rfl, rfl⟩ ⟨Nat.le_of_ble_eq_true rfl, Nat.le_of_ble_eq_true rfl⟩ ⟨Nat.zero_le _, Nat.zero_le _⟩ rfl rfl (by decide +kernel) (k_rp rfl (by decide +kernel)) rfl rfl (Nat.le_of_ble_eq_true rfl) dX5_staysWhole_8 rfl (fun H locs hP hD hS => ?_)
  refine lv_aload_n hx hb dX5_staysWhole_11 rfl (lv_at hl 0 rfl) ?_
  refine va_get (D := D) (ci := 5) (v := .ref (aM 0)) (C := RX5) (T := TX5) (N := 5) hx hb hts hiX5 hown hK hP 0 rfl rfl 1 (by decide) hf25 (fun _ z => z) rfl dX5_staysWhole_12 ?_
  refine lv_dup hx hb dX5_staysWhole_15 rfl ?_
  refine va_get (D := D) (ci := 2) (v := .int r8.2.1) (C := RX2) (T := TX2) (N := 12) hx hb hts hiX2 hown hK hP 5 rfl rfl 4 (by decide) hf70 (fun _ z => z) rfl dX5_staysWhole_16 ?_
  refine lv_iload_n hx hb dX5_staysWhole_19 rfl (lv_at hl 1 rfl) ?_
  refine lv_ior hx hb dX5_staysWhole_20 ?_
  refine va_put (D := D) (ci := 2) (v := .int (r8.2.1 ||| x1)) (ty := .int) (C := RX2) (T := TX2) (N := 12) hx hb hts hiX2 tyX2 tyX2_ok nmX2 hown hK hP hD hS 5 rfl rfl 4 (by decide) hf70 (fun _ z => z) rfl (by decide +kernel) rfl rfl (Nat.le_of_ble_eq_true rfl) dX5_staysWhole_21 (fun H locs hP hD hS => ?_)
  replace hP : va_P D vwCl (Wd16 cI cM aN aW aM aK nS.1 nS.2.1 nS.2.2.1 nS.2.2.2.1 nS.2.2.2.2.1 nS.2.2.2.2.2.1 nS.2.2.2.2.2.2.1 nS.2.2.2.2.2.2.2.1 nS.2.2.2.2.2.2.2.2.1 nS.2.2.2.2.2.2.2.2.2.1 r8.1 (r8.2.1 ||| x1) r8.2.2.1 r8.2.2.2.1 r8.2.2.2.2.1 r8.2.2.2.2.2.1 mS.2.2.2.2.2.2.1 r8.2.2.2.2.2.2.1 r8.2.2.2.2.2.2.2.1 r8.2.2.2.2.2.2.2.2) H := hP
  replace hD : va_D A (Wd16 cI cM aN aW aM aK nS.1 nS.2.1 nS.2.2.1 nS.2.2.2.1 nS.2.2.2.2.1 nS.2.2.2.2.2.1 nS.2.2.2.2.2.2.1 nS.2.2.2.2.2.2.2.1 nS.2.2.2.2.2.2.2.2.1 nS.2.2.2.2.2.2.2.2.2.1 r8.1 (r8.2.1 ||| x1) r8.2.2.1 r8.2.2.2.1 r8.2.2.2.2.1 r8.2.2.2.2.2.1 mS.2.2.2.2.2.2.1 r8.2.2.2.2.2.2.1 r8.2.2.2.2.2.2.2.1 r8.2.2.2.2.2.2.2.2) := hD
  refine lv_iconst (v := 0) hx hb dX5_staysWhole_24 (by decide) ?_
  have B26 : ∀ (n26 : Nat) (y3 : Int32) (mS : CS) (H : Heap) (locs : List Loc) (ls : Array Slot), va_P D vwCl (Wd16 cI cM aN aW aM aK nS.1 nS.2.1 nS.2.2.1 nS.2.2.2.1 nS.2.2.2.2.1 nS.2.2.2.2.2.1 nS.2.2.2.2.2.2.1 nS.2.2.2.2.2.2.2.1 nS.2.2.2.2.2.2.2.2.1 nS.2.2.2.2.2.2.2.2.2.1 mS.1 mS.2.1 mS.2.2.1 mS.2.2.2.1 mS.2.2.2.2.1 mS.2.2.2.2.2.1 mS.2.2.2.2.2.2.1 mS.2.2.2.2.2.2.2.1 mS.2.2.2.2.2.2.2.2.1 mS.2.2.2.2.2.2.2.2.2.1) H → va_D A (Wd16 cI cM aN aW aM aK nS.1 nS.2.1 nS.2.2.1 nS.2.2.2.1 nS.2.2.2.2.1 nS.2.2.2.2.2.1 nS.2.2.2.2.2.2.1 nS.2.2.2.2.2.2.2.1 nS.2.2.2.2.2.2.2.2.1 nS.2.2.2.2.2.2.2.2.2.1 mS.1 mS.2.1 mS.2.2.1 mS.2.2.2.1 mS.2.2.2.2.1 mS.2.2.2.2.2.1 mS.2.2.2.2.2.2.1 mS.2.2.2.2.2.2.2.1 mS.2.2.2.2.2.2.2.2.1 mS.2.2.2.2.2.2.2.2.2.1) → va_S A s.heap H locs → lv_has ls 4 [(0, .ref (aW 0)), (2, .int x2), (3, .int y3)] → S_Mind_staysWhole_L26 x2 n26 y3 mS = some o → W p l e rm_X5_staysWhole s m ([.ref (aW 0), .int x1, .int x2] : List Value).toArray below meth c H locs 0 0 Q (F0 m 26 ls []) := by
    intro n26
    induction n26 with
    | zero => intro y3 mS H locs ls hP hD hS hl h; exact absurd h (by simp [S_Mind_staysWhole_L26])
    | succ n26 ih26 =>
      intro y3 mS H locs ls hP hD hS hl h
      rw [S_Mind_staysWhole_L26] at h
      refine lv_iload_n hx hb dX5_staysWhole_26 rfl (lv_at hl 2 rfl) ?_
      refine lv_iload_n hx hb dX5_staysWhole_27 rfl (lv_at hl 1 rfl) ?_
      refine lv_icmp_ge (tgt := 56) hx hb dX5_staysWhole_28 (by decide) (fun c28 => ?_) (fun c28 => ?_)
      · have h := k_pos c28 h
        refine lv_iconst (v := 1) hx hb dX5_staysWhole_56 (by decide) ?_
        cases h
        exact hret _ _ _ _ (k_z01 (fun z => z (Or.inr rfl))) hP hS dX5_staysWhole_57
      · have h := k_neg c28 h
        refine lv_aload_n hx hb dX5_staysWhole_31 rfl (lv_at hl 0 rfl) ?_
        refine va_get (D := D) (ci := 5) (v := .ref (aM 0)) (C := RX5) (T := TX5) (N := 5) hx hb hts hiX5 hown hK hP 0 rfl rfl 1 (by decide) hf25 (fun _ z => z) rfl dX5_staysWhole_32 ?_
        obtain ⟨r35, g35, h⟩ := k_bind h
        refine k_callV (As := []) (rest := []) (st1 := []) (ws2 := (Wd16 cI cM aN aW aM aK nS.1 nS.2.1 nS.2.2.1 nS.2.2.2.1 nS.2.2.2.2.1 nS.2.2.2.2.2.1 nS.2.2.2.2.2.2.1 nS.2.2.2.2.2.2.2.1 nS.2.2.2.2.2.2.2.2.1 nS.2.2.2.2.2.2.2.2.2.1 mS.1 mS.2.1 r35.1 r35.2.1 r35.2.2.1 r35.2.2.2.1 r35.2.2.2.2.1 mS.2.2.2.2.2.2.2.1 mS.2.2.2.2.2.2.2.2.1 r35.2.2.2.2.2)) hx hb hml hown hts hK hN hA hP hD hS hl (c_City_passDay l D cI cM cS cJ aM aK H.size mS.1 mS.2.1 mS.2.2.1 mS.2.2.2.1 mS.2.2.2.2.1 mS.2.2.2.2.2.1 mS.2.2.2.2.2.2.1 mS.2.2.2.2.2.2.2.1 mS.2.2.2.2.2.2.2.2.1 mS.2.2.2.2.2.2.2.2.2.1 g35) gX5_staysWhole_X2_passDay rfl kdV_X2_passDay 0 2 rfl rfl rfl [5, 6, 7, 8, 9, 10, 11, 12, 13, 14, 15, 16, 17] ⟨rfl, rfl⟩ ⟨Nat.le_of_ble_eq_true rfl, Nat.le_of_ble_eq_true rfl⟩ ⟨Nat.zero_le _, Nat.zero_le _⟩ rfl rfl (by decide +kernel) (k_rp rfl (by decide +kernel)) rfl rfl (Nat.le_of_ble_eq_true rfl) dX5_staysWhole_35 rfl (fun H locs hP hD hS => ?_)
        refine lv_aload_n hx hb dX5_staysWhole_38 rfl (lv_at hl 0 rfl) ?_
        refine va_get (D := D) (ci := 5) (v := .ref (aM 0)) (C := RX5) (T := TX5) (N := 5) hx hb hts hiX5 hown hK hP 0 rfl rfl 1 (by decide) hf25 (fun _ z => z) rfl dX5_staysWhole_39 ?_
        refine va_get (D := D) (ci := 2) (v := .int r35.2.2.2.2.1) (C := RX2) (T := TX2) (N := 12) hx hb hts hiX2 hown hK hP 5 rfl rfl 9 (by decide) hf44 (fun _ z => z) rfl dX5_staysWhole_42 ?_
        refine lv_if_eq (tgt := 50) hx hb dX5_staysWhole_45 (by decide) (fun c45 => ?_) (fun c45 => ?_)
        · have h := k_pos c45 h
          refine lv_iinc (v := (y3 + 1)) (lv' := [(3, .int (y3 + 1)), (0, .ref (aW 0)), (2, .int x2)]) hx hb dX5_staysWhole_50 hl (k := 2) rfl (by first | rfl | decide) (by decide) rfl (fun ls hl => ?_)
          refine lv_goto (tgt := 26) hx hb dX5_staysWhole_53 (by decide) ?_
          exact ih26 (y3 + 1) (mS.1, mS.2.1, r35.1, r35.2.1, r35.2.2.1, r35.2.2.2.1, r35.2.2.2.2.1, mS.2.2.2.2.2.2.2.1, mS.2.2.2.2.2.2.2.2.1, r35.2.2.2.2.2, mS.2.2.2.2.2.2.2.2.2.2) H locs ls hP hD hS (lv_sub hl [1, 2, 0] rfl) h
        · have h := k_neg c45 h
          refine lv_iconst (v := 0) hx hb dX5_staysWhole_48 (by decide) ?_
          cases h
          exact hret _ _ _ _ (k_z01 (fun z => z (Or.inl rfl))) hP hS dX5_staysWhole_49
  refine lv_istore_n (lv' := [(3, .int 0), (0, .ref (aW 0)), (1, .int x1), (2, .int x2)]) hx hb dX5_staysWhole_25 rfl hl (by decide) rfl (fun ls hl => ?_)
  exact B26 lfu 0 (r8.1, (r8.2.1 ||| x1), r8.2.2.1, r8.2.2.2.1, r8.2.2.2.2.1, r8.2.2.2.2.2.1, mS.2.2.2.2.2.2.1, r8.2.2.2.2.2.2.1, r8.2.2.2.2.2.2.2.1, r8.2.2.2.2.2.2.2.2, mS.2.2.2.2.2.2.2.2.2.2) H locs ls hP hD hS (lv_sub hl [1, 3, 0] rfl) h
theorem kdV_X5_staysWhole : yX5_staysWhole.cls = RX5 ∧ yX5_staysWhole.cls ≠ "java/lang/invoke/MethodHandle" ∧ yX5_staysWhole.cls ≠ "java/lang/invoke/VarHandle" ∧ (parseMethodDescriptor yX5_staysWhole.desc).map (fun d => d.parameters.length) = some 2 := by decide +kernel
abbrev rm_X5_propsAgainstCrash : Room := { frames := 5, cells := 0, slots := 0, locals := 128 }
set_option maxHeartbeats 4000000 in
set_option maxRecDepth 100000 in
theorem c_Mind_propsAgainstCrash (l : Launch) (D : va_G) (cI cM cS cJ : ClassId) (aN : Nat → Nat) (aW : Nat → Nat) (aM : Nat → Nat) (aK : Nat → Nat) (sz : Nat) (x1 : Int32) (nS : CS) (mS : CS) {o : (Int32) × (CS)} (hsem : S_Mind_propsAgainstCrash x1 nS mS = some o) : kMet l yX5_propsAgainstCrash wsX5_propsAgainstCrash rm_X5_propsAgainstCrash [.ref (aW 0), .int x1] D (kT cI cM cS cJ) (Wd16 cI cM aN aW aM aK nS.1 nS.2.1 nS.2.2.1 nS.2.2.2.1 nS.2.2.2.2.1 nS.2.2.2.2.2.1 nS.2.2.2.2.2.2.1 nS.2.2.2.2.2.2.2.1 nS.2.2.2.2.2.2.2.2.1 nS.2.2.2.2.2.2.2.2.2.1 mS.1 mS.2.1 mS.2.2.1 mS.2.2.2.1 mS.2.2.2.2.1 mS.2.2.2.2.2.1 mS.2.2.2.2.2.2.1 mS.2.2.2.2.2.2.2.1 mS.2.2.2.2.2.2.2.2.1 mS.2.2.2.2.2.2.2.2.2.1) sz (some (.int o.1)) (Wd16 cI cM aN aW aM aK nS.1 nS.2.1 nS.2.2.1 nS.2.2.2.1 nS.2.2.2.2.1 nS.2.2.2.2.2.1 nS.2.2.2.2.2.2.1 nS.2.2.2.2.2.2.2.1 nS.2.2.2.2.2.2.2.2.1 nS.2.2.2.2.2.2.2.2.2.1 o.2.1 o.2.2.1 o.2.2.2.1 o.2.2.2.2.1 o.2.2.2.2.2.1 o.2.2.2.2.2.2.1 o.2.2.2.2.2.2.2.1 o.2.2.2.2.2.2.2.2.1 o.2.2.2.2.2.2.2.2.2.1 o.2.2.2.2.2.2.2.2.2.2.1) := by
  refine k_metI (by decide) rfl rfl (Nat.le_of_ble_eq_true rfl) ?_
  intro p e s m below meth c ls Q A hx hb hml hts hown hK hN hA hP hD hS hl hsz hnm hret
  have hown : s.vm.findClass RX5 = some m.cls := hown
  have hf21 := hts (.fieldLink RX5 21 "PlumbLine$Mind" "now" "LPlumbLine$City;") (List.mem_of_getElem? (i := 1) rfl)
  have hf62 := hts (.fieldLink RX5 62 "PlumbLine$City" "men" "I") (List.mem_of_getElem? (i := 2) rfl)
  have hf70 := hts (.fieldLink RX5 70 "PlumbLine$City" "propped" "I") (List.mem_of_getElem? (i := 3) rfl)
  have hiX2 : ∀ w ∈ u_ws RX2 TX2 12, w ∈ wsX5_propsAgainstCrash := fun w h => List.mem_cons_of_mem _ (List.mem_append_right _ h)
  have hiX5 : ∀ w ∈ u_ws RX5 TX5 5, w ∈ wsX5_propsAgainstCrash := fun w h => List.mem_cons_of_mem _ (List.mem_append_left _ (List.mem_append_right _ h))
  replace hl : lv_has ls 4 [(0, .ref (aW 0)), (1, .int x1)] := hl
  have h := hsem
  clear hsem
  rw [S_Mind_propsAgainstCrash] at h
  refine lv_iconst (v := 0) hx hb dX5_propsAgainstCrash_0 (by decide) ?_
  have B2 : ∀ (n2 : Nat) (y2 : Int32) (mS : CS) (H : Heap) (locs : List Loc) (ls : Array Slot), va_P D vwCl (Wd16 cI cM aN aW aM aK nS.1 nS.2.1 nS.2.2.1 nS.2.2.2.1 nS.2.2.2.2.1 nS.2.2.2.2.2.1 nS.2.2.2.2.2.2.1 nS.2.2.2.2.2.2.2.1 nS.2.2.2.2.2.2.2.2.1 nS.2.2.2.2.2.2.2.2.2.1 mS.1 mS.2.1 mS.2.2.1 mS.2.2.2.1 mS.2.2.2.2.1 mS.2.2.2.2.2.1 mS.2.2.2.2.2.2.1 mS.2.2.2.2.2.2.2.1 mS.2.2.2.2.2.2.2.2.1 mS.2.2.2.2.2.2.2.2.2.1) H → va_D A (Wd16 cI cM aN aW aM aK nS.1 nS.2.1 nS.2.2.1 nS.2.2.2.1 nS.2.2.2.2.1 nS.2.2.2.2.2.1 nS.2.2.2.2.2.2.1 nS.2.2.2.2.2.2.2.1 nS.2.2.2.2.2.2.2.2.1 nS.2.2.2.2.2.2.2.2.2.1 mS.1 mS.2.1 mS.2.2.1 mS.2.2.2.1 mS.2.2.2.2.1 mS.2.2.2.2.2.1 mS.2.2.2.2.2.2.1 mS.2.2.2.2.2.2.2.1 mS.2.2.2.2.2.2.2.2.1 mS.2.2.2.2.2.2.2.2.2.1) → va_S A s.heap H locs → lv_has ls 4 [(0, .ref (aW 0)), (1, .int x1), (2, .int y2)] → S_Mind_propsAgainstCrash_L2 x1 nS n2 y2 mS = some o → W p l e rm_X5_propsAgainstCrash s m ([.ref (aW 0), .int x1] : List Value).toArray below meth c H locs 0 0 Q (F0 m 2 ls []) := by
    intro n2
    induction n2 with
    | zero => intro y2 mS H locs ls hP hD hS hl h; exact absurd h (by simp [S_Mind_propsAgainstCrash_L2])
    | succ n2 ih2 =>
      intro y2 mS H locs ls hP hD hS hl h
      rw [S_Mind_propsAgainstCrash_L2] at h
      refine lv_iload_n hx hb dX5_propsAgainstCrash_2 rfl (lv_at hl 2 rfl) ?_
      refine lv_aload_n hx hb dX5_propsAgainstCrash_3 rfl (lv_at hl 0 rfl) ?_
      refine va_get (D := D) (ci := 5) (v := .ref (aN 0)) (C := RX5) (T := TX5) (N := 5) hx hb hts hiX5 hown hK hP 0 rfl rfl 0 (by decide) hf21 (fun _ z => z) rfl dX5_propsAgainstCrash_4 ?_
      refine va_get (D := D) (ci := 2) (v := .int nS.1) (C := RX2) (T := TX2) (N := 12) hx hb hts hiX2 hown hK hP 1 rfl rfl 3 (by decide) hf62 (fun _ z => z) rfl dX5_propsAgainstCrash_7 ?_
      refine lv_icmp_gt (tgt := 71) hx hb dX5_propsAgainstCrash_10 (by decide) (fun c10 => ?_) (fun c10 => ?_)
      · have h := k_pos c10 h
        refine lv_bipush (v := (-4)) hx hb dX5_propsAgainstCrash_71 (by decide) ?_
        cases h
        exact hret _ _ _ _ hP hS dX5_propsAgainstCrash_73
      · have h := k_neg c10 h
        refine lv_iconst (v := 0) hx hb dX5_propsAgainstCrash_13 (by decide) ?_
        have B15 : ∀ (y2 : Int32) (n15 : Nat) (y3 : Int32) (mS : CS) (H : Heap) (locs : List Loc) (ls : Array Slot), va_P D vwCl (Wd16 cI cM aN aW aM aK nS.1 nS.2.1 nS.2.2.1 nS.2.2.2.1 nS.2.2.2.2.1 nS.2.2.2.2.2.1 nS.2.2.2.2.2.2.1 nS.2.2.2.2.2.2.2.1 nS.2.2.2.2.2.2.2.2.1 nS.2.2.2.2.2.2.2.2.2.1 mS.1 mS.2.1 mS.2.2.1 mS.2.2.2.1 mS.2.2.2.2.1 mS.2.2.2.2.2.1 mS.2.2.2.2.2.2.1 mS.2.2.2.2.2.2.2.1 mS.2.2.2.2.2.2.2.2.1 mS.2.2.2.2.2.2.2.2.2.1) H → va_D A (Wd16 cI cM aN aW aM aK nS.1 nS.2.1 nS.2.2.1 nS.2.2.2.1 nS.2.2.2.2.1 nS.2.2.2.2.2.1 nS.2.2.2.2.2.2.1 nS.2.2.2.2.2.2.2.1 nS.2.2.2.2.2.2.2.2.1 nS.2.2.2.2.2.2.2.2.2.1 mS.1 mS.2.1 mS.2.2.1 mS.2.2.2.1 mS.2.2.2.2.1 mS.2.2.2.2.2.1 mS.2.2.2.2.2.2.1 mS.2.2.2.2.2.2.2.1 mS.2.2.2.2.2.2.2.2.1 mS.2.2.2.2.2.2.2.2.2.1) → va_S A s.heap H locs → lv_has ls 4 [(0, .ref (aW 0)), (1, .int x1), (2, .int y2), (3, .int y3)] → S_Mind_propsAgainstCrash_L15 (S_Mind_propsAgainstCrash_L2 x1 nS n2) x1 y2 nS n15 y3 mS = some o → W p l e rm_X5_propsAgainstCrash s m ([.ref (aW 0), .int x1] : List Value).toArray below meth c H locs 0 0 Q (F0 m 15 ls []) := by
          intro y2
          intro n15
          induction n15 with
          | zero => intro y3 mS H locs ls hP hD hS hl h; exact absurd h (by simp [S_Mind_propsAgainstCrash_L15])
          | succ n15 ih15 =>
            intro y3 mS H locs ls hP hD hS hl h
            rw [S_Mind_propsAgainstCrash_L15] at h
            refine lv_iload_n hx hb dX5_propsAgainstCrash_15 rfl (lv_at hl 3 rfl) ?_
            refine lv_iconst (v := 1) hx hb dX5_propsAgainstCrash_16 (by decide) ?_
            refine lv_aload_n hx hb dX5_propsAgainstCrash_17 rfl (lv_at hl 0 rfl) ?_
            refine va_get (D := D) (ci := 5) (v := .ref (aN 0)) (C := RX5) (T := TX5) (N := 5) hx hb hts hiX5 hown hK hP 0 rfl rfl 0 (by decide) hf21 (fun _ z => z) rfl dX5_propsAgainstCrash_18 ?_
            refine va_get (D := D) (ci := 2) (v := .int nS.1) (C := RX2) (T := TX2) (N := 12) hx hb hts hiX2 hown hK hP 1 rfl rfl 3 (by decide) hf62 (fun _ z => z) rfl dX5_propsAgainstCrash_21 ?_
            refine lv_ishl hx hb dX5_propsAgainstCrash_24 ?_
            refine lv_icmp_ge (tgt := 65) hx hb dX5_propsAgainstCrash_25 (by decide) (fun c25 => ?_) (fun c25 => ?_)
            · have h := k_pos c25 h
              refine lv_iinc (v := (y2 + 1)) (lv' := [(2, .int (y2 + 1)), (0, .ref (aW 0)), (1, .int x1), (3, .int y3)]) hx hb dX5_propsAgainstCrash_65 hl (k := 2) rfl (by first | rfl | decide) (by decide) rfl (fun ls hl => ?_)
              refine lv_goto (tgt := 2) hx hb dX5_propsAgainstCrash_68 (by decide) ?_
              exact ih2 (y2 + 1) mS H locs ls hP hD hS (lv_sub hl [1, 2, 0] rfl) h
            · have h := k_neg c25 h
              refine lv_iload_n hx hb dX5_propsAgainstCrash_28 rfl (lv_at hl 3 rfl) ?_
              refine k_callS (As := [.int y3]) (rest := []) (st1 := [.int (S_J_bitCount y3)]) (ws2 := (Wd16 cI cM aN aW aM aK nS.1 nS.2.1 nS.2.2.1 nS.2.2.2.1 nS.2.2.2.2.1 nS.2.2.2.2.2.1 nS.2.2.2.2.2.2.1 nS.2.2.2.2.2.2.2.1 nS.2.2.2.2.2.2.2.2.1 nS.2.2.2.2.2.2.2.2.2.1 mS.1 mS.2.1 mS.2.2.1 mS.2.2.2.1 mS.2.2.2.2.1 mS.2.2.2.2.2.1 mS.2.2.2.2.2.2.1 mS.2.2.2.2.2.2.2.1 mS.2.2.2.2.2.2.2.2.1 mS.2.2.2.2.2.2.2.2.2.1)) hx hb hml hown hts hK hN hA hP hD hS hl (c_J_bitCount l D cI cM cS cJ H.size y3 rfl) gX5_propsAgainstCrash_J6_bitCount_0f7a4 rfl kdS_J6_bitCount_0f7a4 [] ⟨rfl, rfl⟩ ⟨Nat.le_of_ble_eq_true rfl, Nat.le_of_ble_eq_true rfl⟩ ⟨Nat.zero_le _, Nat.zero_le _⟩ rfl rfl (by decide +kernel) (k_rp rfl (by decide +kernel)) rfl rfl (Nat.le_of_ble_eq_true rfl) dX5_propsAgainstCrash_29 rfl (fun H locs hP hD hS => ?_)
              refine lv_iload_n hx hb dX5_propsAgainstCrash_32 rfl (lv_at hl 2 rfl) ?_
              refine lv_icmp_ne (tgt := 59) hx hb dX5_propsAgainstCrash_33 (by decide) (fun c33 => ?_) (fun c33 => ?_)
              · have h := k_neg c33 h
                refine lv_iinc (v := (y3 + 1)) (lv' := [(3, .int (y3 + 1)), (0, .ref (aW 0)), (1, .int x1), (2, .int y2)]) hx hb dX5_propsAgainstCrash_59 hl (k := 3) rfl (by first | rfl | decide) (by decide) rfl (fun ls hl => ?_)
                refine lv_goto (tgt := 15) hx hb dX5_propsAgainstCrash_62 (by decide) ?_
                exact ih15 (y3 + 1) mS H locs ls hP hD hS (lv_sub hl [1, 2, 3, 0] rfl) h
              · have h := k_pos c33 h
                refine lv_iload_n hx hb dX5_propsAgainstCrash_36 rfl (lv_at hl 3 rfl) ?_
                refine lv_aload_n hx hb dX5_propsAgainstCrash_37 rfl (lv_at hl 0 rfl) ?_
                refine va_get (D := D) (ci := 5) (v := .ref (aN 0)) (C := RX5) (T := TX5) (N := 5) hx hb hts hiX5 hown hK hP 0 rfl rfl 0 (by decide) hf21 (fun _ z => z) rfl dX5_propsAgainstCrash_38 ?_
                refine va_get (D := D) (ci := 2) (v := .int nS.2.1) (C := RX2) (T := TX2) (N := 12) hx hb hts hiX2 hown hK hP 1 rfl rfl 4 (by decide) hf70 (fun _ z => z) rfl dX5_propsAgainstCrash_41 ?_
                refine lv_iand hx hb dX5_propsAgainstCrash_44 ?_
                refine lv_if_ne (tgt := 59) hx hb dX5_propsAgainstCrash_45 (by decide) (fun c45 => ?_) (fun c45 => ?_)
                · have h := k_neg c45 h
                  refine lv_iinc (v := (y3 + 1)) (lv' := [(3, .int (y3 + 1)), (0, .ref (aW 0)), (1, .int x1), (2, .int y2)]) hx hb dX5_propsAgainstCrash_59 hl (k := 3) rfl (by first | rfl | decide) (by decide) rfl (fun ls hl => ?_)
                  refine lv_goto (tgt := 15) hx hb dX5_propsAgainstCrash_62 (by decide) ?_
                  exact ih15 (y3 + 1) mS H locs ls hP hD hS (lv_sub hl [1, 2, 3, 0] rfl) h
                · have h := k_pos c45 h
                  refine lv_aload_n hx hb dX5_propsAgainstCrash_48 rfl (lv_at hl 0 rfl) ?_
                  refine lv_iload_n hx hb dX5_propsAgainstCrash_49 rfl (lv_at hl 3 rfl) ?_
                  refine lv_iload_n hx hb dX5_propsAgainstCrash_50 rfl (lv_at hl 1 rfl) ?_
                  obtain ⟨r51, g51, h⟩ := k_bind h
                  refine k_callV (As := [.int y3, .int x1]) (rest := []) (st1 := [.int r51.1]) (ws2 := (Wd16 cI cM aN aW aM aK nS.1 nS.2.1 nS.2.2.1 nS.2.2.2.1 nS.2.2.2.2.1 nS.2.2.2.2.2.1 nS.2.2.2.2.2.2.1 nS.2.2.2.2.2.2.2.1 nS.2.2.2.2.2.2.2.2.1 nS.2.2.2.2.2.2.2.2.2.1 r51.2.1 r51.2.2.1 r51.2.2.2.1 r51.2.2.2.2.1 r51.2.2.2.2.2.1 r51.2.2.2.2.2.2.1 r51.2.2.2.2.2.2.2.1 r51.2.2.2.2.2.2.2.2.1 r51.2.2.2.2.2.2.2.2.2.1 r51.2.2.2.2.2.2.2.2.2.2.1)) hx hb hml hown hts hK hN hA hP hD hS hl (c_Mind_staysWhole l D cI cM cS cJ aN aW aM aK H.size y3 x1 nS mS g51) gX5_propsAgainstCrash_X5_staysWhole rfl kdV_X5_staysWhole 0 5 rfl rfl rfl [0, 1, 2, 3, 4, 5, 6, 7, 8, 9, 10, 11, 12, 13, 14, 15, 16, 17] ⟨rfl, rfl⟩ ⟨Nat.le_of_ble_eq_true rfl, Nat.le_of_ble_eq_true rfl⟩ ⟨Nat.zero_le _, Nat.zero_le _⟩ rfl rfl (by decide +kernel) (k_rp rfl (by decide +kernel)) rfl rfl (Nat.le_of_ble_eq_true rfl) dX5_propsAgainstCrash_51 rfl (fun H locs hP hD hS => ?_)
                  refine lv_if_eq (tgt := 59) hx hb dX5_propsAgainstCrash_54 (by decide) (fun c54 => ?_) (fun c54 => ?_)
                  · have h := k_pos c54 h
                    refine lv_iinc (v := (y3 + 1)) (lv' := [(3, .int (y3 + 1)), (0, .ref (aW 0)), (1, .int x1), (2, .int y2)]) hx hb dX5_propsAgainstCrash_59 hl (k := 3) rfl (by first | rfl | decide) (by decide) rfl (fun ls hl => ?_)
                    refine lv_goto (tgt := 15) hx hb dX5_propsAgainstCrash_62 (by decide) ?_
                    exact ih15 (y3 + 1) r51.2 H locs ls hP hD hS (lv_sub hl [1, 2, 3, 0] rfl) h
                  · have h := k_neg c54 h
                    refine lv_iload_n hx hb dX5_propsAgainstCrash_57 rfl (lv_at hl 3 rfl) ?_
                    cases h
                    exact hret _ _ _ _ hP hS dX5_propsAgainstCrash_58
        refine lv_istore_n (lv' := [(3, .int 0), (0, .ref (aW 0)), (1, .int x1), (2, .int y2)]) hx hb dX5_propsAgainstCrash_14 rfl hl (by decide) rfl (fun ls hl => ?_)
        exact B15 y2 lfu 0 mS H locs ls hP hD hS (lv_sub hl [1, 2, 3, 0] rfl) h
  refine lv_istore_n (lv' := [(2, .int 0), (0, .ref (aW 0)), (1, .int x1)]) hx hb dX5_propsAgainstCrash_1 rfl hl (by decide) rfl (fun ls hl => ?_)
  exact B2 lfu 0 mS s.heap [] ls hP hD hS (lv_sub hl [1, 2, 0] rfl) h
theorem kdV_X5_after : yX5_after.cls = RX5 ∧ yX5_after.cls ≠ "java/lang/invoke/MethodHandle" ∧ yX5_after.cls ≠ "java/lang/invoke/VarHandle" ∧ (parseMethodDescriptor yX5_after.desc).map (fun d => d.parameters.length) = some 1 := by decide +kernel
abbrev rm_X5_bestPush : Room := { frames := 6, cells := 0, slots := 0, locals := 149 }
set_option maxHeartbeats 4000000 in
set_option maxRecDepth 100000 in
theorem c_Mind_bestPush (l : Launch) (D : va_G) (cI cM cS cJ : ClassId) (aN : Nat → Nat) (aW : Nat → Nat) (aM : Nat → Nat) (aK : Nat → Nat) (sz : Nat) (x1 : Int32) (nS : CS) (mS : CS) {o : (Int32) × (CS)} (hsem : S_Mind_bestPush x1 nS mS = some o) : kMet l yX5_bestPush wsX5_bestPush rm_X5_bestPush [.ref (aW 0), .int x1] D (kT cI cM cS cJ) (Wd16 cI cM aN aW aM aK nS.1 nS.2.1 nS.2.2.1 nS.2.2.2.1 nS.2.2.2.2.1 nS.2.2.2.2.2.1 nS.2.2.2.2.2.2.1 nS.2.2.2.2.2.2.2.1 nS.2.2.2.2.2.2.2.2.1 nS.2.2.2.2.2.2.2.2.2.1 mS.1 mS.2.1 mS.2.2.1 mS.2.2.2.1 mS.2.2.2.2.1 mS.2.2.2.2.2.1 mS.2.2.2.2.2.2.1 mS.2.2.2.2.2.2.2.1 mS.2.2.2.2.2.2.2.2.1 mS.2.2.2.2.2.2.2.2.2.1) sz (some (.int o.1)) (Wd16 cI cM aN aW aM aK nS.1 nS.2.1 nS.2.2.1 nS.2.2.2.1 nS.2.2.2.2.1 nS.2.2.2.2.2.1 nS.2.2.2.2.2.2.1 nS.2.2.2.2.2.2.2.1 nS.2.2.2.2.2.2.2.2.1 nS.2.2.2.2.2.2.2.2.2.1 o.2.1 o.2.2.1 o.2.2.2.1 o.2.2.2.2.1 o.2.2.2.2.2.1 o.2.2.2.2.2.2.1 o.2.2.2.2.2.2.2.1 o.2.2.2.2.2.2.2.2.1 o.2.2.2.2.2.2.2.2.2.1 o.2.2.2.2.2.2.2.2.2.2.1) := by
  refine k_metI (by decide) rfl rfl (Nat.le_of_ble_eq_true rfl) ?_
  intro p e s m below meth c ls Q A hx hb hml hts hown hK hN hA hP hD hS hl hsz hnm hret
  have hown : s.vm.findClass RX5 = some m.cls := hown
  have hf21 := hts (.fieldLink RX5 21 "PlumbLine$Mind" "now" "LPlumbLine$City;") (List.mem_of_getElem? (i := 1) rfl)
  have hf62 := hts (.fieldLink RX5 62 "PlumbLine$City" "men" "I") (List.mem_of_getElem? (i := 2) rfl)
  have hf25 := hts (.fieldLink RX5 25 "PlumbLine$Mind" "then" "LPlumbLine$City;") (List.mem_of_getElem? (i := 3) rfl)
  have hf38 := hts (.fieldLink RX5 38 "PlumbLine$City" "lean" "[I") (List.mem_of_getElem? (i := 4) rfl)
  have hiX2 : ∀ w ∈ u_ws RX2 TX2 12, w ∈ wsX5_bestPush := fun w h => List.mem_cons_of_mem _ (List.mem_append_right _ h)
  have hiX5 : ∀ w ∈ u_ws RX5 TX5 5, w ∈ wsX5_bestPush := fun w h => List.mem_cons_of_mem _ (List.mem_append_left _ (List.mem_append_right _ h))
  replace hl : lv_has ls 7 [(0, .ref (aW 0)), (1, .int x1)] := hl
  have h := hsem
  clear hsem
  rw [S_Mind_bestPush] at h
  refine lv_bipush (v := (-4)) hx hb dX5_bestPush_0 (by decide) ?_
  refine lv_istore_n (lv' := [(2, .int (-4)), (0, .ref (aW 0)), (1, .int x1)]) hx hb dX5_bestPush_2 rfl hl (by decide) rfl (fun ls hl => ?_)
  refine lv_aload_n hx hb dX5_bestPush_3 rfl (lv_at hl 1 rfl) ?_
  refine lv_iload_n hx hb dX5_bestPush_4 rfl (lv_at hl 2 rfl) ?_
  obtain ⟨r5, g5, h⟩ := k_bind h
  refine k_callV (As := [.int x1]) (rest := []) (st1 := [.ref (aM 0)]) (ws2 := (Wd16 cI cM aN aW aM aK nS.1 nS.2.1 nS.2.2.1 nS.2.2.2.1 nS.2.2.2.2.1 nS.2.2.2.2.2.1 nS.2.2.2.2.2.2.1 nS.2.2.2.2.2.2.2.1 nS.2.2.2.2.2.2.2.2.1 nS.2.2.2.2.2.2.2.2.2.1 r5.1 r5.2.1 r5.2.2.1 r5.2.2.2.1 r5.2.2.2.2.1 r5.2.2.2.2.2.1 r5.2.2.2.2.2.2.1 r5.2.2.2.2.2.2.2.1 r5.2.2.2.2.2.2.2.2.1 r5.2.2.2.2.2.2.2.2.2.1)) hx hb hml hown hts hK hN hA hP hD hS hl (c_Mind_after l D cI cM cS cJ aN aW aM aK s.heap.size x1 nS mS g5) gX5_bestPush_X5_after rfl kdV_X5_after 0 5 rfl rfl rfl [0, 1, 2, 3, 4, 5, 6, 7, 8, 9, 10, 11, 12, 13, 14, 15, 16, 17] ⟨rfl, rfl⟩ ⟨Nat.le_of_ble_eq_true rfl, Nat.le_of_ble_eq_true rfl⟩ ⟨Nat.zero_le _, Nat.zero_le _⟩ rfl rfl (by decide +kernel) (k_rp rfl (by decide +kernel)) rfl rfl (Nat.le_of_ble_eq_true rfl) dX5_bestPush_5 rfl (fun H locs hP hD hS => ?_)
  obtain ⟨r8, g8, h⟩ := k_bind h
  refine k_callV (As := []) (rest := []) (st1 := [.int r8]) (ws2 := (Wd16 cI cM aN aW aM aK nS.1 nS.2.1 nS.2.2.1 nS.2.2.2.1 nS.2.2.2.2.1 nS.2.2.2.2.2.1 nS.2.2.2.2.2.2.1 nS.2.2.2.2.2.2.2.1 nS.2.2.2.2.2.2.2.2.1 nS.2.2.2.2.2.2.2.2.2.1 r5.1 r5.2.1 r5.2.2.1 r5.2.2.2.1 r5.2.2.2.2.1 r5.2.2.2.2.2.1 r5.2.2.2.2.2.2.1 r5.2.2.2.2.2.2.2.1 r5.2.2.2.2.2.2.2.2.1 r5.2.2.2.2.2.2.2.2.2.1)) hx hb hml hown hts hK hN hA hP hD hS hl (c_City_upright l D cI cM cS cJ aM aK H.size r5.1 r5.2.1 r5.2.2.1 r5.2.2.2.1 r5.2.2.2.2.1 r5.2.2.2.2.2.1 r5.2.2.2.2.2.2.1 r5.2.2.2.2.2.2.2.1 r5.2.2.2.2.2.2.2.2.1 r5.2.2.2.2.2.2.2.2.2.1 g8) gX5_bestPush_X2_upright rfl kdV_X2_upright 0 2 rfl rfl rfl [5, 6, 7, 8, 9, 10, 11, 12, 13, 14, 15, 16, 17] ⟨rfl, rfl⟩ ⟨Nat.le_of_ble_eq_true rfl, Nat.le_of_ble_eq_true rfl⟩ ⟨Nat.zero_le _, Nat.zero_le _⟩ rfl rfl (by decide +kernel) (k_rp rfl (by decide +kernel)) rfl rfl (Nat.le_of_ble_eq_true rfl) dX5_bestPush_8 rfl (fun H locs hP hD hS => ?_)
  refine k_callS (As := [.int r8]) (rest := []) (st1 := [.int (S_J_bitCount r8)]) (ws2 := (Wd16 cI cM aN aW aM aK nS.1 nS.2.1 nS.2.2.1 nS.2.2.2.1 nS.2.2.2.2.1 nS.2.2.2.2.2.1 nS.2.2.2.2.2.2.1 nS.2.2.2.2.2.2.2.1 nS.2.2.2.2.2.2.2.2.1 nS.2.2.2.2.2.2.2.2.2.1 r5.1 r5.2.1 r5.2.2.1 r5.2.2.2.1 r5.2.2.2.2.1 r5.2.2.2.2.2.1 r5.2.2.2.2.2.2.1 r5.2.2.2.2.2.2.2.1 r5.2.2.2.2.2.2.2.2.1 r5.2.2.2.2.2.2.2.2.2.1)) hx hb hml hown hts hK hN hA hP hD hS hl (c_J_bitCount l D cI cM cS cJ H.size r8 rfl) gX5_bestPush_J6_bitCount_0f7a4 rfl kdS_J6_bitCount_0f7a4 [] ⟨rfl, rfl⟩ ⟨Nat.le_of_ble_eq_true rfl, Nat.le_of_ble_eq_true rfl⟩ ⟨Nat.zero_le _, Nat.zero_le _⟩ rfl rfl (by decide +kernel) (k_rp rfl (by decide +kernel)) rfl rfl (Nat.le_of_ble_eq_true rfl) dX5_bestPush_11 rfl (fun H locs hP hD hS => ?_)
  refine lv_istore_n (lv' := [(3, .int (S_J_bitCount r8)), (2, .int (-4)), (0, .ref (aW 0)), (1, .int x1)]) hx hb dX5_bestPush_14 rfl hl (by decide) rfl (fun ls hl => ?_)
  refine lv_iconst (v := 0) hx hb dX5_bestPush_15 (by decide) ?_
  have B18 : ∀ (n18 : Nat) (y2 : Int32) (y3 : Int32) (y4 : Int32) (mS : CS) (H : Heap) (locs : List Loc) (ls : Array Slot), va_P D vwCl (Wd16 cI cM aN aW aM aK nS.1 nS.2.1 nS.2.2.1 nS.2.2.2.1 nS.2.2.2.2.1 nS.2.2.2.2.2.1 nS.2.2.2.2.2.2.1 nS.2.2.2.2.2.2.2.1 nS.2.2.2.2.2.2.2.2.1 nS.2.2.2.2.2.2.2.2.2.1 mS.1 mS.2.1 mS.2.2.1 mS.2.2.2.1 mS.2.2.2.2.1 mS.2.2.2.2.2.1 mS.2.2.2.2.2.2.1 mS.2.2.2.2.2.2.2.1 mS.2.2.2.2.2.2.2.2.1 mS.2.2.2.2.2.2.2.2.2.1) H → va_D A (Wd16 cI cM aN aW aM aK nS.1 nS.2.1 nS.2.2.1 nS.2.2.2.1 nS.2.2.2.2.1 nS.2.2.2.2.2.1 nS.2.2.2.2.2.2.1 nS.2.2.2.2.2.2.2.1 nS.2.2.2.2.2.2.2.2.1 nS.2.2.2.2.2.2.2.2.2.1 mS.1 mS.2.1 mS.2.2.1 mS.2.2.2.1 mS.2.2.2.2.1 mS.2.2.2.2.2.1 mS.2.2.2.2.2.2.1 mS.2.2.2.2.2.2.2.1 mS.2.2.2.2.2.2.2.2.1 mS.2.2.2.2.2.2.2.2.2.1) → va_S A s.heap H locs → lv_has ls 7 [(0, .ref (aW 0)), (1, .int x1), (2, .int y2), (3, .int y3), (4, .int y4)] → S_Mind_bestPush_L18 x1 nS n18 y2 y3 y4 mS = some o → W p l e rm_X5_bestPush s m ([.ref (aW 0), .int x1] : List Value).toArray below meth c H locs 0 0 Q (F0 m 18 ls []) := by
    intro n18
    induction n18 with
    | zero => intro y2 y3 y4 mS H locs ls hP hD hS hl h; exact absurd h (by simp [S_Mind_bestPush_L18])
    | succ n18 ih18 =>
      intro y2 y3 y4 mS H locs ls hP hD hS hl h
      rw [S_Mind_bestPush_L18] at h
      refine lv_iload hx hb dX5_bestPush_18 (lv_at hl 4 rfl) ?_
      refine lv_aload_n hx hb dX5_bestPush_20 rfl (lv_at hl 0 rfl) ?_
      refine va_get (D := D) (ci := 5) (v := .ref (aN 0)) (C := RX5) (T := TX5) (N := 5) hx hb hts hiX5 hown hK hP 0 rfl rfl 0 (by decide) hf21 (fun _ z => z) rfl dX5_bestPush_21 ?_
      refine va_get (D := D) (ci := 2) (v := .int nS.1) (C := RX2) (T := TX2) (N := 12) hx hb hts hiX2 hown hK hP 1 rfl rfl 3 (by decide) hf62 (fun _ z => z) rfl dX5_bestPush_24 ?_
      refine lv_icmp_ge (tgt := 117) hx hb dX5_bestPush_27 (by decide) (fun c27 => ?_) (fun c27 => ?_)
      · have h := k_pos c27 h
        refine lv_iload_n hx hb dX5_bestPush_117 rfl (lv_at hl 2 rfl) ?_
        cases h
        exact hret _ _ _ _ hP hS dX5_bestPush_118
      · have h := k_neg c27 h
        refine lv_iconst (v := 0) hx hb dX5_bestPush_30 (by decide) ?_
        have B33 : ∀ (y4 : Int32) (n33 : Nat) (y2 : Int32) (y3 : Int32) (y5 : Int32) (mS : CS) (H : Heap) (locs : List Loc) (ls : Array Slot), va_P D vwCl (Wd16 cI cM aN aW aM aK nS.1 nS.2.1 nS.2.2.1 nS.2.2.2.1 nS.2.2.2.2.1 nS.2.2.2.2.2.1 nS.2.2.2.2.2.2.1 nS.2.2.2.2.2.2.2.1 nS.2.2.2.2.2.2.2.2.1 nS.2.2.2.2.2.2.2.2.2.1 mS.1 mS.2.1 mS.2.2.1 mS.2.2.2.1 mS.2.2.2.2.1 mS.2.2.2.2.2.1 mS.2.2.2.2.2.2.1 mS.2.2.2.2.2.2.2.1 mS.2.2.2.2.2.2.2.2.1 mS.2.2.2.2.2.2.2.2.2.1) H → va_D A (Wd16 cI cM aN aW aM aK nS.1 nS.2.1 nS.2.2.1 nS.2.2.2.1 nS.2.2.2.2.1 nS.2.2.2.2.2.1 nS.2.2.2.2.2.2.1 nS.2.2.2.2.2.2.2.1 nS.2.2.2.2.2.2.2.2.1 nS.2.2.2.2.2.2.2.2.2.1 mS.1 mS.2.1 mS.2.2.1 mS.2.2.2.1 mS.2.2.2.2.1 mS.2.2.2.2.2.1 mS.2.2.2.2.2.2.1 mS.2.2.2.2.2.2.2.1 mS.2.2.2.2.2.2.2.2.1 mS.2.2.2.2.2.2.2.2.2.1) → va_S A s.heap H locs → lv_has ls 7 [(0, .ref (aW 0)), (1, .int x1), (2, .int y2), (3, .int y3), (4, .int y4), (5, .int y5)] → S_Mind_bestPush_L33 (S_Mind_bestPush_L18 x1 nS n18) x1 y4 nS n33 y2 y3 y5 mS = some o → W p l e rm_X5_bestPush s m ([.ref (aW 0), .int x1] : List Value).toArray below meth c H locs 0 0 Q (F0 m 33 ls []) := by
          intro y4
          intro n33
          induction n33 with
          | zero => intro y2 y3 y5 mS H locs ls hP hD hS hl h; exact absurd h (by simp [S_Mind_bestPush_L33])
          | succ n33 ih33 =>
            intro y2 y3 y5 mS H locs ls hP hD hS hl h
            rw [S_Mind_bestPush_L33] at h
            refine lv_iload hx hb dX5_bestPush_33 (lv_at hl 5 rfl) ?_
            refine lv_bipush (v := 91) hx hb dX5_bestPush_35 (by decide) ?_
            refine lv_icmp_ge (tgt := 111) hx hb dX5_bestPush_37 (by decide) (fun c37 => ?_) (fun c37 => ?_)
            · have h := k_pos c37 h
              refine lv_iinc (v := (y4 + 1)) (lv' := [(4, .int (y4 + 1)), (0, .ref (aW 0)), (1, .int x1), (2, .int y2), (3, .int y3), (5, .int y5)]) hx hb dX5_bestPush_111 hl (k := 4) rfl (by first | rfl | decide) (by decide) rfl (fun ls hl => ?_)
              refine lv_goto (tgt := 18) hx hb dX5_bestPush_114 (by decide) ?_
              exact ih18 y2 y3 (y4 + 1) mS H locs ls hP hD hS (lv_sub hl [1, 2, 3, 4, 0] rfl) h
            · have h := k_neg c37 h
              refine lv_aload_n hx hb dX5_bestPush_40 rfl (lv_at hl 0 rfl) ?_
              refine va_get (D := D) (ci := 5) (v := .ref (aM 0)) (C := RX5) (T := TX5) (N := 5) hx hb hts hiX5 hown hK hP 0 rfl rfl 1 (by decide) hf25 (fun _ z => z) rfl dX5_bestPush_41 ?_
              refine lv_aload_n hx hb dX5_bestPush_44 rfl (lv_at hl 0 rfl) ?_
              refine va_get (D := D) (ci := 5) (v := .ref (aN 0)) (C := RX5) (T := TX5) (N := 5) hx hb hts hiX5 hown hK hP 0 rfl rfl 0 (by decide) hf21 (fun _ z => z) rfl dX5_bestPush_45 ?_
              obtain ⟨r48, g48, h⟩ := k_bind h
              refine k_callV (As := [.ref (aN 0)]) (rest := []) (st1 := []) (ws2 := (Wd16 cI cM aN aW aM aK nS.1 nS.2.1 nS.2.2.1 nS.2.2.2.1 nS.2.2.2.2.1 nS.2.2.2.2.2.1 nS.2.2.2.2.2.2.1 nS.2.2.2.2.2.2.2.1 nS.2.2.2.2.2.2.2.2.1 nS.2.2.2.2.2.2.2.2.2.1 r48.1 r48.2.1 r48.2.2.1 r48.2.2.2.1 r48.2.2.2.2.1 r48.2.2.2.2.2.1 mS.2.2.2.2.2.2.1 r48.2.2.2.2.2.2.1 r48.2.2.2.2.2.2.2.1 r48.2.2.2.2.2.2.2.2)) hx hb hml hown hts hK hN hA hP hD hS hl (c_City_becomes l D cI cM cS cJ aM aN aK H.size mS.1 mS.2.1 mS.2.2.1 mS.2.2.2.1 mS.2.2.2.2.1 mS.2.2.2.2.2.1 mS.2.2.2.2.2.2.1 mS.2.2.2.2.2.2.2.1 mS.2.2.2.2.2.2.2.2.1 mS.2.2.2.2.2.2.2.2.2.1 nS.1 nS.2.1 nS.2.2.1 nS.2.2.2.1 nS.2.2.2.2.1 nS.2.2.2.2.2.1 nS.2.2.2.2.2.2.1 nS.2.2.2.2.2.2.2.1 nS.2.2.2.2.2.2.2.2.1 nS.2.2.2.2.2.2.2.2.2.1 g48) gX5_bestPush_X2_becomes rfl kdV_X2_becomes 0 2 rfl rfl rfl [5, 6, 7, 8, 1, 2, 3, 4] ⟨rfl, rfl⟩ ⟨Nat.le_of_ble_eq_true rfl, Nat.le_of_ble_eq_true rfl⟩ ⟨Nat.zero_le _, Nat.zero_le _⟩ rfl rfl (by decide +kernel) (k_rp rfl (by decide +kernel)) rfl rfl (Nat.le_of_ble_eq_true rfl) dX5_bestPush_48 rfl (fun H locs hP hD hS => ?_)
              refine lv_aload_n hx hb dX5_bestPush_51 rfl (lv_at hl 0 rfl) ?_
              refine va_get (D := D) (ci := 5) (v := .ref (aM 0)) (C := RX5) (T := TX5) (N := 5) hx hb hts hiX5 hown hK hP 0 rfl rfl 1 (by decide) hf25 (fun _ z => z) rfl dX5_bestPush_52 ?_
              refine va_get (D := D) (ci := 2) (v := .ref (aM 3)) (C := RX2) (T := TX2) (N := 12) hx hb hts hiX2 hown hK hP 5 rfl rfl 2 (by decide) hf38 (fun _ z => z) rfl dX5_bestPush_55 ?_
              refine lv_iload hx hb dX5_bestPush_58 (lv_at hl 4 rfl) ?_
              refine lv_iload hx hb dX5_bestPush_60 (lv_at hl 5 rfl) ?_
              refine lv_bipush (v := 45) hx hb dX5_bestPush_62 (by decide) ?_
              refine lv_isub hx hb dX5_bestPush_64 ?_
              obtain ⟨g65, h⟩ := k_guard h
              refine va_iast hx hb hK hP hD hS 8 0 rfl rfl g65 dX5_bestPush_65 (fun H locs hP hD hS => ?_)
              replace hP : va_P D vwCl (Wd16 cI cM aN aW aM aK nS.1 nS.2.1 nS.2.2.1 nS.2.2.2.1 nS.2.2.2.2.1 nS.2.2.2.2.2.1 nS.2.2.2.2.2.2.1 nS.2.2.2.2.2.2.2.1 nS.2.2.2.2.2.2.2.2.1 nS.2.2.2.2.2.2.2.2.2.1 r48.1 r48.2.1 r48.2.2.1 r48.2.2.2.1 r48.2.2.2.2.1 r48.2.2.2.2.2.1 mS.2.2.2.2.2.2.1 r48.2.2.2.2.2.2.1 r48.2.2.2.2.2.2.2.1 (upd r48.2.2.2.2.2.2.2.2 y4.toNatClampNeg (y5 - 45))) H := hP
              replace hD : va_D A (Wd16 cI cM aN aW aM aK nS.1 nS.2.1 nS.2.2.1 nS.2.2.2.1 nS.2.2.2.2.1 nS.2.2.2.2.2.1 nS.2.2.2.2.2.2.1 nS.2.2.2.2.2.2.2.1 nS.2.2.2.2.2.2.2.2.1 nS.2.2.2.2.2.2.2.2.2.1 r48.1 r48.2.1 r48.2.2.1 r48.2.2.2.1 r48.2.2.2.2.1 r48.2.2.2.2.2.1 mS.2.2.2.2.2.2.1 r48.2.2.2.2.2.2.1 r48.2.2.2.2.2.2.2.1 (upd r48.2.2.2.2.2.2.2.2 y4.toNatClampNeg (y5 - 45))) := hD
              refine lv_aload_n hx hb dX5_bestPush_66 rfl (lv_at hl 0 rfl) ?_
              refine va_get (D := D) (ci := 5) (v := .ref (aM 0)) (C := RX5) (T := TX5) (N := 5) hx hb hts hiX5 hown hK hP 0 rfl rfl 1 (by decide) hf25 (fun _ z => z) rfl dX5_bestPush_67 ?_
              refine lv_iload_n hx hb dX5_bestPush_70 rfl (lv_at hl 1 rfl) ?_
              obtain ⟨r71, g71, h⟩ := k_bind h
              refine k_callV (As := [.int x1]) (rest := []) (st1 := [.int r71.1]) (ws2 := (Wd16 cI cM aN aW aM aK nS.1 nS.2.1 nS.2.2.1 nS.2.2.2.1 nS.2.2.2.2.1 nS.2.2.2.2.2.1 nS.2.2.2.2.2.2.1 nS.2.2.2.2.2.2.2.1 nS.2.2.2.2.2.2.2.2.1 nS.2.2.2.2.2.2.2.2.2.1 r48.1 r48.2.1 r71.2.1 r71.2.2.1 r71.2.2.2.1 r71.2.2.2.2.1 r71.2.2.2.2.2.1 r48.2.2.2.2.2.2.1 r48.2.2.2.2.2.2.2.1 r71.2.2.2.2.2.2)) hx hb hml hown hts hK hN hA hP hD hS hl (c_City_passDays l D cI cM cS cJ aM aK H.size x1 r48.1 r48.2.1 r48.2.2.1 r48.2.2.2.1 r48.2.2.2.2.1 r48.2.2.2.2.2.1 mS.2.2.2.2.2.2.1 r48.2.2.2.2.2.2.1 r48.2.2.2.2.2.2.2.1 (upd r48.2.2.2.2.2.2.2.2 y4.toNatClampNeg (y5 - 45)) g71) gX5_bestPush_X2_passDays rfl kdV_X2_passDays 0 2 rfl rfl rfl [5, 6, 7, 8, 9, 10, 11, 12, 13, 14, 15, 16, 17] ⟨rfl, rfl⟩ ⟨Nat.le_of_ble_eq_true rfl, Nat.le_of_ble_eq_true rfl⟩ ⟨Nat.zero_le _, Nat.zero_le _⟩ rfl rfl (by decide +kernel) (k_rp rfl (by decide +kernel)) rfl rfl (Nat.le_of_ble_eq_true rfl) dX5_bestPush_71 rfl (fun H locs hP hD hS => ?_)
              refine lv_pop hx hb dX5_bestPush_74 rfl ?_
              refine lv_aload_n hx hb dX5_bestPush_75 rfl (lv_at hl 0 rfl) ?_
              refine va_get (D := D) (ci := 5) (v := .ref (aM 0)) (C := RX5) (T := TX5) (N := 5) hx hb hts hiX5 hown hK hP 0 rfl rfl 1 (by decide) hf25 (fun _ z => z) rfl dX5_bestPush_76 ?_
              obtain ⟨r79, g79, h⟩ := k_bind h
              refine k_callV (As := []) (rest := []) (st1 := [.int r79]) (ws2 := (Wd16 cI cM aN aW aM aK nS.1 nS.2.1 nS.2.2.1 nS.2.2.2.1 nS.2.2.2.2.1 nS.2.2.2.2.2.1 nS.2.2.2.2.2.2.1 nS.2.2.2.2.2.2.2.1 nS.2.2.2.2.2.2.2.2.1 nS.2.2.2.2.2.2.2.2.2.1 r48.1 r48.2.1 r71.2.1 r71.2.2.1 r71.2.2.2.1 r71.2.2.2.2.1 r71.2.2.2.2.2.1 r48.2.2.2.2.2.2.1 r48.2.2.2.2.2.2.2.1 r71.2.2.2.2.2.2)) hx hb hml hown hts hK hN hA hP hD hS hl (c_City_upright l D cI cM cS cJ aM aK H.size r48.1 r48.2.1 r71.2.1 r71.2.2.1 r71.2.2.2.1 r71.2.2.2.2.1 r71.2.2.2.2.2.1 r48.2.2.2.2.2.2.1 r48.2.2.2.2.2.2.2.1 r71.2.2.2.2.2.2 g79) gX5_bestPush_X2_upright rfl kdV_X2_upright 0 2 rfl rfl rfl [5, 6, 7, 8, 9, 10, 11, 12, 13, 14, 15, 16, 17] ⟨rfl, rfl⟩ ⟨Nat.le_of_ble_eq_true rfl, Nat.le_of_ble_eq_true rfl⟩ ⟨Nat.zero_le _, Nat.zero_le _⟩ rfl rfl (by decide +kernel) (k_rp rfl (by decide +kernel)) rfl rfl (Nat.le_of_ble_eq_true rfl) dX5_bestPush_79 rfl (fun H locs hP hD hS => ?_)
              refine k_callS (As := [.int r79]) (rest := []) (st1 := [.int (S_J_bitCount r79)]) (ws2 := (Wd16 cI cM aN aW aM aK nS.1 nS.2.1 nS.2.2.1 nS.2.2.2.1 nS.2.2.2.2.1 nS.2.2.2.2.2.1 nS.2.2.2.2.2.2.1 nS.2.2.2.2.2.2.2.1 nS.2.2.2.2.2.2.2.2.1 nS.2.2.2.2.2.2.2.2.2.1 r48.1 r48.2.1 r71.2.1 r71.2.2.1 r71.2.2.2.1 r71.2.2.2.2.1 r71.2.2.2.2.2.1 r48.2.2.2.2.2.2.1 r48.2.2.2.2.2.2.2.1 r71.2.2.2.2.2.2)) hx hb hml hown hts hK hN hA hP hD hS hl (c_J_bitCount l D cI cM cS cJ H.size r79 rfl) gX5_bestPush_J6_bitCount_0f7a4 rfl kdS_J6_bitCount_0f7a4 [] ⟨rfl, rfl⟩ ⟨Nat.le_of_ble_eq_true rfl, Nat.le_of_ble_eq_true rfl⟩ ⟨Nat.zero_le _, Nat.zero_le _⟩ rfl rfl (by decide +kernel) (k_rp rfl (by decide +kernel)) rfl rfl (Nat.le_of_ble_eq_true rfl) dX5_bestPush_82 rfl (fun H locs hP hD hS => ?_)
              refine lv_istore (lv' := [(6, .int (S_J_bitCount r79)), (0, .ref (aW 0)), (1, .int x1), (2, .int y2), (3, .int y3), (4, .int y4), (5, .int y5)]) hx hb dX5_bestPush_85 hl (by decide) rfl (fun ls hl => ?_)
              refine lv_iload hx hb dX5_bestPush_87 (lv_at hl 0 rfl) ?_
              refine lv_iload_n hx hb dX5_bestPush_89 rfl (lv_at hl 4 rfl) ?_
              refine lv_icmp_le (tgt := 105) hx hb dX5_bestPush_90 (by decide) (fun c90 => ?_) (fun c90 => ?_)
              · have h := k_pos c90 h
                refine lv_iinc (v := (y5 + 1)) (lv' := [(5, .int (y5 + 1)), (6, .int (S_J_bitCount r79)), (0, .ref (aW 0)), (1, .int x1), (2, .int y2), (3, .int y3), (4, .int y4)]) hx hb dX5_bestPush_105 hl (k := 6) rfl (by first | rfl | decide) (by decide) rfl (fun ls hl => ?_)
                refine lv_goto (tgt := 33) hx hb dX5_bestPush_108 (by decide) ?_
                exact ih33 y2 y3 (y5 + 1) (r48.1, r48.2.1, r71.2.1, r71.2.2.1, r71.2.2.2.1, r71.2.2.2.2.1, r71.2.2.2.2.2.1, r48.2.2.2.2.2.2.1, r48.2.2.2.2.2.2.2.1, r71.2.2.2.2.2.2, mS.2.2.2.2.2.2.2.2.2.2) H locs ls hP hD hS (lv_sub hl [2, 3, 4, 5, 6, 0] rfl) h
              · have h := k_neg c90 h
                refine lv_iload hx hb dX5_bestPush_93 (lv_at hl 0 rfl) ?_
                refine lv_istore_n (lv' := [(3, .int (S_J_bitCount r79)), (6, .int (S_J_bitCount r79)), (0, .ref (aW 0)), (1, .int x1), (2, .int y2), (4, .int y4), (5, .int y5)]) hx hb dX5_bestPush_95 rfl hl (by decide) rfl (fun ls hl => ?_)
                refine lv_bipush (v := 100) hx hb dX5_bestPush_96 (by decide) ?_
                refine lv_iload hx hb dX5_bestPush_98 (lv_at hl 5 rfl) ?_
                refine lv_imul hx hb dX5_bestPush_100 ?_
                refine lv_iload hx hb dX5_bestPush_101 (lv_at hl 6 rfl) ?_
                refine lv_iadd hx hb dX5_bestPush_103 ?_
                refine lv_istore_n (lv' := [(2, .int (((100 : Int32) * y4) + y5)), (3, .int (S_J_bitCount r79)), (6, .int (S_J_bitCount r79)), (0, .ref (aW 0)), (1, .int x1), (4, .int y4), (5, .int y5)]) hx hb dX5_bestPush_104 rfl hl (by decide) rfl (fun ls hl => ?_)
                refine lv_iinc (v := (y5 + 1)) (lv' := [(5, .int (y5 + 1)), (2, .int (((100 : Int32) * y4) + y5)), (3, .int (S_J_bitCount r79)), (6, .int (S_J_bitCount r79)), (0, .ref (aW 0)), (1, .int x1), (4, .int y4)]) hx hb dX5_bestPush_105 hl (k := 6) rfl (by first | rfl | decide) (by decide) rfl (fun ls hl => ?_)
                refine lv_goto (tgt := 33) hx hb dX5_bestPush_108 (by decide) ?_
                exact ih33 (((100 : Int32) * y4) + y5) (S_J_bitCount r79) (y5 + 1) (r48.1, r48.2.1, r71.2.1, r71.2.2.1, r71.2.2.2.1, r71.2.2.2.2.1, r71.2.2.2.2.2.1, r48.2.2.2.2.2.2.1, r48.2.2.2.2.2.2.2.1, r71.2.2.2.2.2.2, mS.2.2.2.2.2.2.2.2.2.2) H locs ls hP hD hS (lv_sub hl [4, 5, 1, 2, 6, 0] rfl) h
        refine lv_istore (lv' := [(5, .int 0), (0, .ref (aW 0)), (1, .int x1), (2, .int y2), (3, .int y3), (4, .int y4)]) hx hb dX5_bestPush_31 hl (by decide) rfl (fun ls hl => ?_)
        exact B33 y4 lfu y2 y3 0 mS H locs ls hP hD hS (lv_sub hl [1, 2, 3, 4, 5, 0] rfl) h
  refine lv_istore (lv' := [(4, .int 0), (3, .int (S_J_bitCount r8)), (2, .int (-4)), (0, .ref (aW 0)), (1, .int x1)]) hx hb dX5_bestPush_16 hl (by decide) rfl (fun ls hl => ?_)
  exact B18 lfu (-4) (S_J_bitCount r8) 0 r5 H locs ls hP hD hS (lv_sub hl [3, 4, 2, 1, 0] rfl) h
abbrev Wd19 (cI : ClassId) (cM : ClassId) (aD : Nat → Nat) (aN : Nat → Nat) (aW : Nat → Nat) (aM : Nat → Nat) (aK : Nat → Nat) (m_men : Int32) (m_propped : Int32) (m_place : Int32) (m_swings : Int32) (m_crashes : Int32) (m_day : Int32) (m_crashedToday : Int32) (m_kind : Nat → Int32) (m_figure : Nat → Int32) (m_lean : Nat → Int32) (d_kind : Int32) (d_figure : Int32) (d_sort : Int32) (d_size : Int32) (d_held : Int32) (d_el : Nat → Int32) : va_W := [((aW 0), .inr (5, [.ref (aN 0), .ref (aM 0), .ref (aW 1), .ref (aW 2), .ref (aW 3)])), ((aM 0), .inr (2, [.ref (aM 1), .ref (aM 2), .ref (aM 3), .int m_men, .int m_propped, .int m_place, .int m_swings, .int m_crashes, .int m_day, .int m_crashedToday, .ref (aK 8), .ref (aM 4)])), ((aM 1), .inl (cI, 8, .inl m_kind)), ((aM 2), .inl (cI, 8, .inl m_figure)), ((aM 3), .inl (cI, 8, .inl m_lean)), ((aD 0), .inr (9, [.ref (aD 1), .int d_kind, .int d_figure, .int d_sort, .int d_size, .int d_held, .ref (aK 8)])), ((aD 1), .inl (cI, 100, .inl d_el)), ((aK 8), .inl (cM, 8, .inr (.inr (.inr (.inr (fun k => some (aK k))))))), ((aK 0), .inr (4, [])), ((aK 1), .inr (0, [])), ((aK 2), .inr (7, [])), ((aK 3), .inr (3, [])), ((aK 4), .inr (1, [])), ((aK 5), .inr (8, [])), ((aK 6), .inr (10, [])), ((aK 7), .inr (6, []))]
theorem kdV_X9_agrees : yX9_agrees.cls = RX9 ∧ yX9_agrees.cls ≠ "java/lang/invoke/MethodHandle" ∧ yX9_agrees.cls ≠ "java/lang/invoke/VarHandle" ∧ (parseMethodDescriptor yX9_agrees.desc).map (fun d => d.parameters.length) = some 2 := by decide +kernel
abbrev rm_X5_leansAsTold : Room := { frames := 4, cells := 0, slots := 0, locals := 105 }
set_option maxHeartbeats 4000000 in
set_option maxRecDepth 100000 in
theorem c_Mind_leansAsTold (l : Launch) (D : va_G) (cI cM cS cJ : ClassId) (aD : Nat → Nat) (aN : Nat → Nat) (aW : Nat → Nat) (aM : Nat → Nat) (aK : Nat → Nat) (sz : Nat) (x1 : Int32) (mS : CS) (d_kind : Int32) (d_figure : Int32) (d_sort : Int32) (d_size : Int32) (d_held : Int32) (d_el : Nat → Int32) {o : (Int32) × (CS)} (hsem : S_Mind_leansAsTold x1 mS d_sort d_size d_el = some o) : kMet l yX5_leansAsTold wsX5_leansAsTold rm_X5_leansAsTold [.ref (aW 0), .int x1, .ref (aD 0)] D (kT cI cM cS cJ) (Wd19 cI cM aD aN aW aM aK mS.1 mS.2.1 mS.2.2.1 mS.2.2.2.1 mS.2.2.2.2.1 mS.2.2.2.2.2.1 mS.2.2.2.2.2.2.1 mS.2.2.2.2.2.2.2.1 mS.2.2.2.2.2.2.2.2.1 mS.2.2.2.2.2.2.2.2.2.1 d_kind d_figure d_sort d_size d_held d_el) sz (some (.int o.1)) (Wd19 cI cM aD aN aW aM aK o.2.1 o.2.2.1 o.2.2.2.1 o.2.2.2.2.1 o.2.2.2.2.2.1 o.2.2.2.2.2.2.1 o.2.2.2.2.2.2.2.1 o.2.2.2.2.2.2.2.2.1 o.2.2.2.2.2.2.2.2.2.1 o.2.2.2.2.2.2.2.2.2.2.1 d_kind d_figure d_sort d_size d_held d_el) := by
  refine k_metZ (by decide) rfl rfl (Nat.le_of_ble_eq_true rfl) ?_
  intro p e s m below meth c ls Q A hx hb hml hts hown hK hN hA hP hD hS hl hsz hnm hret
  have hown : s.vm.findClass RX5 = some m.cls := hown
  have hf95 := hts (.fieldLink RX5 95 "PlumbLine$Shelf" "size" "I") (List.mem_of_getElem? (i := 1) rfl)
  have hf25 := hts (.fieldLink RX5 25 "PlumbLine$Mind" "then" "LPlumbLine$City;") (List.mem_of_getElem? (i := 2) rfl)
  have hf38 := hts (.fieldLink RX5 38 "PlumbLine$City" "lean" "[I") (List.mem_of_getElem? (i := 3) rfl)
  have hiX2 : ∀ w ∈ u_ws RX2 TX2 12, w ∈ wsX5_leansAsTold := fun w h => List.mem_cons_of_mem _ (List.mem_append_right _ h)
  have hiX5 : ∀ w ∈ u_ws RX5 TX5 5, w ∈ wsX5_leansAsTold := fun w h => List.mem_cons_of_mem _ (List.mem_append_left _ (List.mem_append_right _ h))
  have hiX9 : ∀ w ∈ u_ws RX9 TX9 7, w ∈ wsX5_leansAsTold := fun w h => List.mem_cons_of_mem _ (List.mem_append_left _ (List.mem_append_left _ (List.mem_append_right _ h)))
  replace hl : lv_has ls 4 [(0, .ref (aW 0)), (1, .int x1), (2, .ref (aD 0))] := hl
  have h := hsem
  clear hsem
  rw [S_Mind_leansAsTold] at h
  refine lv_iconst (v := 0) hx hb dX5_leansAsTold_0 (by decide) ?_
  have B2 : ∀ (n2 : Nat) (y3 : Int32) (mS : CS) (H : Heap) (locs : List Loc) (ls : Array Slot), va_P D vwCl (Wd19 cI cM aD aN aW aM aK mS.1 mS.2.1 mS.2.2.1 mS.2.2.2.1 mS.2.2.2.2.1 mS.2.2.2.2.2.1 mS.2.2.2.2.2.2.1 mS.2.2.2.2.2.2.2.1 mS.2.2.2.2.2.2.2.2.1 mS.2.2.2.2.2.2.2.2.2.1 d_kind d_figure d_sort d_size d_held d_el) H → va_D A (Wd19 cI cM aD aN aW aM aK mS.1 mS.2.1 mS.2.2.1 mS.2.2.2.1 mS.2.2.2.2.1 mS.2.2.2.2.2.1 mS.2.2.2.2.2.2.1 mS.2.2.2.2.2.2.2.1 mS.2.2.2.2.2.2.2.2.1 mS.2.2.2.2.2.2.2.2.2.1 d_kind d_figure d_sort d_size d_held d_el) → va_S A s.heap H locs → lv_has ls 4 [(0, .ref (aW 0)), (1, .int x1), (2, .ref (aD 0)), (3, .int y3)] → S_Mind_leansAsTold_L2 x1 d_sort d_size d_el n2 y3 mS = some o → W p l e rm_X5_leansAsTold s m ([.ref (aW 0), .int x1, .ref (aD 0)] : List Value).toArray below meth c H locs 0 0 Q (F0 m 2 ls []) := by
    intro n2
    induction n2 with
    | zero => intro y3 mS H locs ls hP hD hS hl h; exact absurd h (by simp [S_Mind_leansAsTold_L2])
    | succ n2 ih2 =>
      intro y3 mS H locs ls hP hD hS hl h
      rw [S_Mind_leansAsTold_L2] at h
      refine lv_iload_n hx hb dX5_leansAsTold_2 rfl (lv_at hl 3 rfl) ?_
      refine lv_aload_n hx hb dX5_leansAsTold_3 rfl (lv_at hl 2 rfl) ?_
      refine va_get (D := D) (ci := 9) (v := .int d_size) (C := RX9) (T := TX9) (N := 7) hx hb hts hiX9 hown hK hP 5 rfl rfl 4 (by decide) hf95 (fun _ z => z) rfl dX5_leansAsTold_4 ?_
      refine lv_icmp_ge (tgt := 42) hx hb dX5_leansAsTold_7 (by decide) (fun c7 => ?_) (fun c7 => ?_)
      · have h := k_pos c7 h
        refine lv_iconst (v := 1) hx hb dX5_leansAsTold_42 (by decide) ?_
        cases h
        exact hret _ _ _ _ (k_z01 (fun z => z (Or.inr rfl))) hP hS dX5_leansAsTold_43
      · have h := k_neg c7 h
        refine lv_aload_n hx hb dX5_leansAsTold_10 rfl (lv_at hl 2 rfl) ?_
        refine lv_iload_n hx hb dX5_leansAsTold_11 rfl (lv_at hl 3 rfl) ?_
        refine lv_aload_n hx hb dX5_leansAsTold_12 rfl (lv_at hl 0 rfl) ?_
        refine va_get (D := D) (ci := 5) (v := .ref (aM 0)) (C := RX5) (T := TX5) (N := 5) hx hb hts hiX5 hown hK hP 0 rfl rfl 1 (by decide) hf25 (fun _ z => z) rfl dX5_leansAsTold_13 ?_
        refine va_get (D := D) (ci := 2) (v := .ref (aM 3)) (C := RX2) (T := TX2) (N := 12) hx hb hts hiX2 hown hK hP 1 rfl rfl 2 (by decide) hf38 (fun _ z => z) rfl dX5_leansAsTold_16 ?_
        refine lv_iload_n hx hb dX5_leansAsTold_19 rfl (lv_at hl 1 rfl) ?_
        obtain ⟨g20, h⟩ := k_guard h
        refine va_iald hx hb hK hP 4 0 rfl rfl g20 dX5_leansAsTold_20 ?_
        obtain ⟨r21, g21, h⟩ := k_bind h
        refine k_callV (As := [.int y3, .int (mS.2.2.2.2.2.2.2.2.2.1 x1.toNatClampNeg)]) (rest := []) (st1 := [.int r21]) (ws2 := (Wd19 cI cM aD aN aW aM aK mS.1 mS.2.1 mS.2.2.1 mS.2.2.2.1 mS.2.2.2.2.1 mS.2.2.2.2.2.1 mS.2.2.2.2.2.2.1 mS.2.2.2.2.2.2.2.1 mS.2.2.2.2.2.2.2.2.1 mS.2.2.2.2.2.2.2.2.2.1 d_kind d_figure d_sort d_size d_held d_el)) hx hb hml hown hts hK hN hA hP hD hS hl (c_Shelf_agrees l D cI cM cS cJ aD aK H.size y3 (mS.2.2.2.2.2.2.2.2.2.1 x1.toNatClampNeg) d_kind d_figure d_sort d_size d_held d_el g21) gX5_leansAsTold_X9_agrees rfl kdV_X9_agrees 0 9 rfl rfl rfl [5, 6] ⟨rfl, rfl⟩ ⟨Nat.le_of_ble_eq_true rfl, Nat.le_of_ble_eq_true rfl⟩ ⟨Nat.zero_le _, Nat.zero_le _⟩ rfl rfl (by decide +kernel) (k_rp rfl (by decide +kernel)) rfl rfl (Nat.le_of_ble_eq_true rfl) dX5_leansAsTold_21 rfl (fun H locs hP hD hS => ?_)
        refine lv_if_ne (tgt := 29) hx hb dX5_leansAsTold_24 (by decide) (fun c24 => ?_) (fun c24 => ?_)
        · have h := k_neg c24 h
          refine lv_aload_n hx hb dX5_leansAsTold_29 rfl (lv_at hl 0 rfl) ?_
          refine va_get (D := D) (ci := 5) (v := .ref (aM 0)) (C := RX5) (T := TX5) (N := 5) hx hb hts hiX5 hown hK hP 0 rfl rfl 1 (by decide) hf25 (fun _ z => z) rfl dX5_leansAsTold_30 ?_
          obtain ⟨r33, g33, h⟩ := k_bind h
          refine k_callV (As := []) (rest := []) (st1 := []) (ws2 := (Wd19 cI cM aD aN aW aM aK mS.1 mS.2.1 r33.1 r33.2.1 r33.2.2.1 r33.2.2.2.1 r33.2.2.2.2.1 mS.2.2.2.2.2.2.2.1 mS.2.2.2.2.2.2.2.2.1 r33.2.2.2.2.2 d_kind d_figure d_sort d_size d_held d_el)) hx hb hml hown hts hK hN hA hP hD hS hl (c_City_passDay l D cI cM cS cJ aM aK H.size mS.1 mS.2.1 mS.2.2.1 mS.2.2.2.1 mS.2.2.2.2.1 mS.2.2.2.2.2.1 mS.2.2.2.2.2.2.1 mS.2.2.2.2.2.2.2.1 mS.2.2.2.2.2.2.2.2.1 mS.2.2.2.2.2.2.2.2.2.1 g33) gX5_leansAsTold_X2_passDay rfl kdV_X2_passDay 0 2 rfl rfl rfl [1, 2, 3, 4, 7, 8, 9, 10, 11, 12, 13, 14, 15] ⟨rfl, rfl⟩ ⟨Nat.le_of_ble_eq_true rfl, Nat.le_of_ble_eq_true rfl⟩ ⟨Nat.zero_le _, Nat.zero_le _⟩ rfl rfl (by decide +kernel) (k_rp rfl (by decide +kernel)) rfl rfl (Nat.le_of_ble_eq_true rfl) dX5_leansAsTold_33 rfl (fun H locs hP hD hS => ?_)
          refine lv_iinc (v := (y3 + 1)) (lv' := [(3, .int (y3 + 1)), (0, .ref (aW 0)), (1, .int x1), (2, .ref (aD 0))]) hx hb dX5_leansAsTold_36 hl (k := 3) rfl (by first | rfl | decide) (by decide) rfl (fun ls hl => ?_)
          refine lv_goto (tgt := 2) hx hb dX5_leansAsTold_39 (by decide) ?_
          exact ih2 (y3 + 1) (mS.1, mS.2.1, r33.1, r33.2.1, r33.2.2.1, r33.2.2.2.1, r33.2.2.2.2.1, mS.2.2.2.2.2.2.2.1, mS.2.2.2.2.2.2.2.2.1, r33.2.2.2.2.2, mS.2.2.2.2.2.2.2.2.2.2) H locs ls hP hD hS (lv_sub hl [1, 2, 3, 0] rfl) h
        · have h := k_pos c24 h
          refine lv_iconst (v := 0) hx hb dX5_leansAsTold_27 (by decide) ?_
          cases h
          exact hret _ _ _ _ (k_z01 (fun z => z (Or.inl rfl))) hP hS dX5_leansAsTold_28
  refine lv_istore_n (lv' := [(3, .int 0), (0, .ref (aW 0)), (1, .int x1), (2, .ref (aD 0))]) hx hb dX5_leansAsTold_1 rfl hl (by decide) rfl (fun ls hl => ?_)
  exact B2 lfu 0 mS s.heap [] ls hP hD hS (lv_sub hl [1, 2, 3, 0] rfl) h
abbrev Wd20 (cI : ClassId) (cM : ClassId) (aD : Nat → Nat) (aN : Nat → Nat) (aW : Nat → Nat) (aM : Nat → Nat) (aK : Nat → Nat) (n_men : Int32) (n_propped : Int32) (n_place : Int32) (n_swings : Int32) (n_crashes : Int32) (n_day : Int32) (n_crashedToday : Int32) (n_kind : Nat → Int32) (n_figure : Nat → Int32) (n_lean : Nat → Int32) (m_men : Int32) (m_propped : Int32) (m_place : Int32) (m_swings : Int32) (m_crashes : Int32) (m_day : Int32) (m_crashedToday : Int32) (m_kind : Nat → Int32) (m_figure : Nat → Int32) (m_lean : Nat → Int32) (d_kind : Int32) (d_figure : Int32) (d_sort : Int32) (d_size : Int32) (d_held : Int32) (d_el : Nat → Int32) : va_W := [((aW 0), .inr (5, [.ref (aN 0), .ref (aM 0), .ref (aW 1), .ref (aW 2), .ref (aW 3)])), ((aN 0), .inr (2, [.ref (aN 1), .ref (aN 2), .ref (aN 3), .int n_men, .int n_propped, .int n_place, .int n_swings, .int n_crashes, .int n_day, .int n_crashedToday, .ref (aK 8), .ref (aN 4)])), ((aN 1), .inl (cI, 8, .inl n_kind)), ((aN 2), .inl (cI, 8, .inl n_figure)), ((aN 3), .inl (cI, 8, .inl n_lean)), ((aM 0), .inr (2, [.ref (aM 1), .ref (aM 2), .ref (aM 3), .int m_men, .int m_propped, .int m_place, .int m_swings, .int m_crashes, .int m_day, .int m_crashedToday, .ref (aK 8), .ref (aM 4)])), ((aM 1), .inl (cI, 8, .inl m_kind)), ((aM 2), .inl (cI, 8, .inl m_figure)), ((aM 3), .inl (cI, 8, .inl m_lean)), ((aD 0), .inr (9, [.ref (aD 1), .int d_kind, .int d_figure, .int d_sort, .int d_size, .int d_held, .ref (aK 8)])), ((aD 1), .inl (cI, 100, .inl d_el)), ((aK 8), .inl (cM, 8, .inr (.inr (.inr (.inr (fun k => some (aK k))))))), ((aK 0), .inr (4, [])), ((aK 1), .inr (0, [])), ((aK 2), .inr (7, [])), ((aK 3), .inr (3, [])), ((aK 4), .inr (1, [])), ((aK 5), .inr (8, [])), ((aK 6), .inr (10, [])), ((aK 7), .inr (6, []))]
theorem kdV_X5_leansAsTold : yX5_leansAsTold.cls = RX5 ∧ yX5_leansAsTold.cls ≠ "java/lang/invoke/MethodHandle" ∧ yX5_leansAsTold.cls ≠ "java/lang/invoke/VarHandle" ∧ (parseMethodDescriptor yX5_leansAsTold.desc).map (fun d => d.parameters.length) = some 2 := by decide +kernel
abbrev rm_X5_kindsThatDid : Room := { frames := 5, cells := 0, slots := 0, locals := 128 }
set_option maxHeartbeats 4000000 in
set_option maxRecDepth 100000 in
theorem c_Mind_kindsThatDid (l : Launch) (D : va_G) (cI cM cS cJ : ClassId) (aD : Nat → Nat) (aN : Nat → Nat) (aW : Nat → Nat) (aM : Nat → Nat) (aK : Nat → Nat) (sz : Nat) (x1 : Int32) (nS : CS) (mS : CS) (d_kind : Int32) (d_figure : Int32) (d_sort : Int32) (d_size : Int32) (d_held : Int32) (d_el : Nat → Int32) {o : (Int32) × (CS)} (hsem : S_Mind_kindsThatDid x1 nS mS d_sort d_size d_el = some o) : kMet l yX5_kindsThatDid wsX5_kindsThatDid rm_X5_kindsThatDid [.ref (aW 0), .int x1, .ref (aD 0)] D (kT cI cM cS cJ) (Wd20 cI cM aD aN aW aM aK nS.1 nS.2.1 nS.2.2.1 nS.2.2.2.1 nS.2.2.2.2.1 nS.2.2.2.2.2.1 nS.2.2.2.2.2.2.1 nS.2.2.2.2.2.2.2.1 nS.2.2.2.2.2.2.2.2.1 nS.2.2.2.2.2.2.2.2.2.1 mS.1 mS.2.1 mS.2.2.1 mS.2.2.2.1 mS.2.2.2.2.1 mS.2.2.2.2.2.1 mS.2.2.2.2.2.2.1 mS.2.2.2.2.2.2.2.1 mS.2.2.2.2.2.2.2.2.1 mS.2.2.2.2.2.2.2.2.2.1 d_kind d_figure d_sort d_size d_held d_el) sz (some (.int o.1)) (Wd20 cI cM aD aN aW aM aK nS.1 nS.2.1 nS.2.2.1 nS.2.2.2.1 nS.2.2.2.2.1 nS.2.2.2.2.2.1 nS.2.2.2.2.2.2.1 nS.2.2.2.2.2.2.2.1 nS.2.2.2.2.2.2.2.2.1 nS.2.2.2.2.2.2.2.2.2.1 o.2.1 o.2.2.1 o.2.2.2.1 o.2.2.2.2.1 o.2.2.2.2.2.1 o.2.2.2.2.2.2.1 o.2.2.2.2.2.2.2.1 o.2.2.2.2.2.2.2.2.1 o.2.2.2.2.2.2.2.2.2.1 o.2.2.2.2.2.2.2.2.2.2.1 d_kind d_figure d_sort d_size d_held d_el) := by
  refine k_metI (by decide) rfl rfl (Nat.le_of_ble_eq_true rfl) ?_
  intro p e s m below meth c ls Q A hx hb hml hts hown hK hN hA hP hD hS hl hsz hnm hret
  have hown : s.vm.findClass RX5 = some m.cls := hown
  have hf25 := hts (.fieldLink RX5 25 "PlumbLine$Mind" "then" "LPlumbLine$City;") (List.mem_of_getElem? (i := 1) rfl)
  have hf21 := hts (.fieldLink RX5 21 "PlumbLine$Mind" "now" "LPlumbLine$City;") (List.mem_of_getElem? (i := 2) rfl)
  have hf85 := hts (.fieldLink RX5 85 "PlumbLine$City" "kind" "[I") (List.mem_of_getElem? (i := 3) rfl)
  have hiX2 : ∀ w ∈ u_ws RX2 TX2 12, w ∈ wsX5_kindsThatDid := fun w h => List.mem_cons_of_mem _ (List.mem_append_left _ (List.mem_append_right _ h))
  have hiX5 : ∀ w ∈ u_ws RX5 TX5 5, w ∈ wsX5_kindsThatDid := fun w h => List.mem_cons_of_mem _ (List.mem_append_left _ (List.mem_append_left _ (List.mem_append_right _ h)))
  replace hl : lv_has ls 5 [(0, .ref (aW 0)), (1, .int x1), (2, .ref (aD 0))] := hl
  have h := hsem
  clear hsem
  rw [S_Mind_kindsThatDid] at h
  refine lv_iconst (v := 0) hx hb dX5_kindsThatDid_0 (by decide) ?_
  refine lv_istore_n (lv' := [(3, .int 0), (0, .ref (aW 0)), (1, .int x1), (2, .ref (aD 0))]) hx hb dX5_kindsThatDid_1 rfl hl (by decide) rfl (fun ls hl => ?_)
  refine lv_iconst (v := 0) hx hb dX5_kindsThatDid_2 (by decide) ?_
  have B5 : ∀ (n5 : Nat) (y3 : Int32) (y4 : Int32) (mS : CS) (H : Heap) (locs : List Loc) (ls : Array Slot), va_P D vwCl (Wd20 cI cM aD aN aW aM aK nS.1 nS.2.1 nS.2.2.1 nS.2.2.2.1 nS.2.2.2.2.1 nS.2.2.2.2.2.1 nS.2.2.2.2.2.2.1 nS.2.2.2.2.2.2.2.1 nS.2.2.2.2.2.2.2.2.1 nS.2.2.2.2.2.2.2.2.2.1 mS.1 mS.2.1 mS.2.2.1 mS.2.2.2.1 mS.2.2.2.2.1 mS.2.2.2.2.2.1 mS.2.2.2.2.2.2.1 mS.2.2.2.2.2.2.2.1 mS.2.2.2.2.2.2.2.2.1 mS.2.2.2.2.2.2.2.2.2.1 d_kind d_figure d_sort d_size d_held d_el) H → va_D A (Wd20 cI cM aD aN aW aM aK nS.1 nS.2.1 nS.2.2.1 nS.2.2.2.1 nS.2.2.2.2.1 nS.2.2.2.2.2.1 nS.2.2.2.2.2.2.1 nS.2.2.2.2.2.2.2.1 nS.2.2.2.2.2.2.2.2.1 nS.2.2.2.2.2.2.2.2.2.1 mS.1 mS.2.1 mS.2.2.1 mS.2.2.2.1 mS.2.2.2.2.1 mS.2.2.2.2.2.1 mS.2.2.2.2.2.2.1 mS.2.2.2.2.2.2.2.1 mS.2.2.2.2.2.2.2.2.1 mS.2.2.2.2.2.2.2.2.2.1 d_kind d_figure d_sort d_size d_held d_el) → va_S A s.heap H locs → lv_has ls 5 [(0, .ref (aW 0)), (1, .int x1), (2, .ref (aD 0)), (3, .int y3), (4, .int y4)] → S_Mind_kindsThatDid_L5 x1 nS d_sort d_size d_el n5 y3 y4 mS = some o → W p l e rm_X5_kindsThatDid s m ([.ref (aW 0), .int x1, .ref (aD 0)] : List Value).toArray below meth c H locs 0 0 Q (F0 m 5 ls []) := by
    intro n5
    induction n5 with
    | zero => intro y3 y4 mS H locs ls hP hD hS hl h; exact absurd h (by simp [S_Mind_kindsThatDid_L5])
    | succ n5 ih5 =>
      intro y3 y4 mS H locs ls hP hD hS hl h
      rw [S_Mind_kindsThatDid_L5] at h
      refine lv_iload hx hb dX5_kindsThatDid_5 (lv_at hl 4 rfl) ?_
      refine lv_bipush (v := 8) hx hb dX5_kindsThatDid_7 (by decide) ?_
      refine lv_icmp_ge (tgt := 56) hx hb dX5_kindsThatDid_9 (by decide) (fun c9 => ?_) (fun c9 => ?_)
      · have h := k_pos c9 h
        refine lv_iload_n hx hb dX5_kindsThatDid_56 rfl (lv_at hl 3 rfl) ?_
        cases h
        exact hret _ _ _ _ hP hS dX5_kindsThatDid_57
      · have h := k_neg c9 h
        refine lv_aload_n hx hb dX5_kindsThatDid_12 rfl (lv_at hl 0 rfl) ?_
        refine va_get (D := D) (ci := 5) (v := .ref (aM 0)) (C := RX5) (T := TX5) (N := 5) hx hb hts hiX5 hown hK hP 0 rfl rfl 1 (by decide) hf25 (fun _ z => z) rfl dX5_kindsThatDid_13 ?_
        refine lv_aload_n hx hb dX5_kindsThatDid_16 rfl (lv_at hl 0 rfl) ?_
        refine va_get (D := D) (ci := 5) (v := .ref (aN 0)) (C := RX5) (T := TX5) (N := 5) hx hb hts hiX5 hown hK hP 0 rfl rfl 0 (by decide) hf21 (fun _ z => z) rfl dX5_kindsThatDid_17 ?_
        obtain ⟨r20, g20, h⟩ := k_bind h
        refine k_callV (As := [.ref (aN 0)]) (rest := []) (st1 := []) (ws2 := (Wd20 cI cM aD aN aW aM aK nS.1 nS.2.1 nS.2.2.1 nS.2.2.2.1 nS.2.2.2.2.1 nS.2.2.2.2.2.1 nS.2.2.2.2.2.2.1 nS.2.2.2.2.2.2.2.1 nS.2.2.2.2.2.2.2.2.1 nS.2.2.2.2.2.2.2.2.2.1 r20.1 r20.2.1 r20.2.2.1 r20.2.2.2.1 r20.2.2.2.2.1 r20.2.2.2.2.2.1 mS.2.2.2.2.2.2.1 r20.2.2.2.2.2.2.1 r20.2.2.2.2.2.2.2.1 r20.2.2.2.2.2.2.2.2 d_kind d_figure d_sort d_size d_held d_el)) hx hb hml hown hts hK hN hA hP hD hS hl (c_City_becomes l D cI cM cS cJ aM aN aK H.size mS.1 mS.2.1 mS.2.2.1 mS.2.2.2.1 mS.2.2.2.2.1 mS.2.2.2.2.2.1 mS.2.2.2.2.2.2.1 mS.2.2.2.2.2.2.2.1 mS.2.2.2.2.2.2.2.2.1 mS.2.2.2.2.2.2.2.2.2.1 nS.1 nS.2.1 nS.2.2.1 nS.2.2.2.1 nS.2.2.2.2.1 nS.2.2.2.2.2.1 nS.2.2.2.2.2.2.1 nS.2.2.2.2.2.2.2.1 nS.2.2.2.2.2.2.2.2.1 nS.2.2.2.2.2.2.2.2.2.1 g20) gX5_kindsThatDid_X2_becomes rfl kdV_X2_becomes 0 2 rfl rfl rfl [5, 6, 7, 8, 1, 2, 3, 4] ⟨rfl, rfl⟩ ⟨Nat.le_of_ble_eq_true rfl, Nat.le_of_ble_eq_true rfl⟩ ⟨Nat.zero_le _, Nat.zero_le _⟩ rfl rfl (by decide +kernel) (k_rp rfl (by decide +kernel)) rfl rfl (Nat.le_of_ble_eq_true rfl) dX5_kindsThatDid_20 rfl (fun H locs hP hD hS => ?_)
        refine lv_aload_n hx hb dX5_kindsThatDid_23 rfl (lv_at hl 0 rfl) ?_
        refine va_get (D := D) (ci := 5) (v := .ref (aM 0)) (C := RX5) (T := TX5) (N := 5) hx hb hts hiX5 hown hK hP 0 rfl rfl 1 (by decide) hf25 (fun _ z => z) rfl dX5_kindsThatDid_24 ?_
        refine va_get (D := D) (ci := 2) (v := .ref (aM 1)) (C := RX2) (T := TX2) (N := 12) hx hb hts hiX2 hown hK hP 5 rfl rfl 0 (by decide) hf85 (fun _ z => z) rfl dX5_kindsThatDid_27 ?_
        refine lv_iload_n hx hb dX5_kindsThatDid_30 rfl (lv_at hl 1 rfl) ?_
        refine lv_iload hx hb dX5_kindsThatDid_31 (lv_at hl 4 rfl) ?_
        obtain ⟨g33, h⟩ := k_guard h
        refine va_iast hx hb hK hP hD hS 6 0 rfl rfl g33 dX5_kindsThatDid_33 (fun H locs hP hD hS => ?_)
        replace hP : va_P D vwCl (Wd20 cI cM aD aN aW aM aK nS.1 nS.2.1 nS.2.2.1 nS.2.2.2.1 nS.2.2.2.2.1 nS.2.2.2.2.2.1 nS.2.2.2.2.2.2.1 nS.2.2.2.2.2.2.2.1 nS.2.2.2.2.2.2.2.2.1 nS.2.2.2.2.2.2.2.2.2.1 r20.1 r20.2.1 r20.2.2.1 r20.2.2.2.1 r20.2.2.2.2.1 r20.2.2.2.2.2.1 mS.2.2.2.2.2.2.1 (upd r20.2.2.2.2.2.2.1 x1.toNatClampNeg y4) r20.2.2.2.2.2.2.2.1 r20.2.2.2.2.2.2.2.2 d_kind d_figure d_sort d_size d_held d_el) H := hP
        replace hD : va_D A (Wd20 cI cM aD aN aW aM aK nS.1 nS.2.1 nS.2.2.1 nS.2.2.2.1 nS.2.2.2.2.1 nS.2.2.2.2.2.1 nS.2.2.2.2.2.2.1 nS.2.2.2.2.2.2.2.1 nS.2.2.2.2.2.2.2.2.1 nS.2.2.2.2.2.2.2.2.2.1 r20.1 r20.2.1 r20.2.2.1 r20.2.2.2.1 r20.2.2.2.2.1 r20.2.2.2.2.2.1 mS.2.2.2.2.2.2.1 (upd r20.2.2.2.2.2.2.1 x1.toNatClampNeg y4) r20.2.2.2.2.2.2.2.1 r20.2.2.2.2.2.2.2.2 d_kind d_figure d_sort d_size d_held d_el) := hD
        refine lv_aload_n hx hb dX5_kindsThatDid_34 rfl (lv_at hl 0 rfl) ?_
        refine lv_iload_n hx hb dX5_kindsThatDid_35 rfl (lv_at hl 1 rfl) ?_
        refine lv_aload_n hx hb dX5_kindsThatDid_36 rfl (lv_at hl 2 rfl) ?_
        obtain ⟨r37, g37, h⟩ := k_bind h
        refine k_callV (As := [.int x1, .ref (aD 0)]) (rest := []) (st1 := [.int r37.1]) (ws2 := (Wd20 cI cM aD aN aW aM aK nS.1 nS.2.1 nS.2.2.1 nS.2.2.2.1 nS.2.2.2.2.1 nS.2.2.2.2.2.1 nS.2.2.2.2.2.2.1 nS.2.2.2.2.2.2.2.1 nS.2.2.2.2.2.2.2.2.1 nS.2.2.2.2.2.2.2.2.2.1 r37.2.1 r37.2.2.1 r37.2.2.2.1 r37.2.2.2.2.1 r37.2.2.2.2.2.1 r37.2.2.2.2.2.2.1 r37.2.2.2.2.2.2.2.1 r37.2.2.2.2.2.2.2.2.1 r37.2.2.2.2.2.2.2.2.2.1 r37.2.2.2.2.2.2.2.2.2.2.1 d_kind d_figure d_sort d_size d_held d_el)) hx hb hml hown hts hK hN hA hP hD hS hl (c_Mind_leansAsTold l D cI cM cS cJ aD aN aW aM aK H.size x1 (r20.1, r20.2.1, r20.2.2.1, r20.2.2.2.1, r20.2.2.2.2.1, r20.2.2.2.2.2.1, mS.2.2.2.2.2.2.1, (upd r20.2.2.2.2.2.2.1 x1.toNatClampNeg y4), r20.2.2.2.2.2.2.2.1, r20.2.2.2.2.2.2.2.2, mS.2.2.2.2.2.2.2.2.2.2) d_kind d_figure d_sort d_size d_held d_el g37) gX5_kindsThatDid_X5_leansAsTold rfl kdV_X5_leansAsTold 0 5 rfl rfl rfl [0, 5, 6, 7, 8, 9, 10, 11, 12, 13, 14, 15, 16, 17, 18, 19] ⟨rfl, rfl⟩ ⟨Nat.le_of_ble_eq_true rfl, Nat.le_of_ble_eq_true rfl⟩ ⟨Nat.zero_le _, Nat.zero_le _⟩ rfl rfl (by decide +kernel) (k_rp rfl (by decide +kernel)) rfl rfl (Nat.le_of_ble_eq_true rfl) dX5_kindsThatDid_37 rfl (fun H locs hP hD hS => ?_)
        refine lv_if_eq (tgt := 50) hx hb dX5_kindsThatDid_40 (by decide) (fun c40 => ?_) (fun c40 => ?_)
        · have h := k_pos c40 h
          refine lv_iinc (v := (y4 + 1)) (lv' := [(4, .int (y4 + 1)), (0, .ref (aW 0)), (1, .int x1), (2, .ref (aD 0)), (3, .int y3)]) hx hb dX5_kindsThatDid_50 hl (k := 4) rfl (by first | rfl | decide) (by decide) rfl (fun ls hl => ?_)
          refine lv_goto (tgt := 5) hx hb dX5_kindsThatDid_53 (by decide) ?_
          exact ih5 y3 (y4 + 1) r37.2 H locs ls hP hD hS (lv_sub hl [1, 2, 3, 4, 0] rfl) h
        · have h := k_neg c40 h
          refine lv_iload_n hx hb dX5_kindsThatDid_43 rfl (lv_at hl 3 rfl) ?_
          refine lv_iconst (v := 1) hx hb dX5_kindsThatDid_44 (by decide) ?_
          refine lv_iload hx hb dX5_kindsThatDid_45 (lv_at hl 4 rfl) ?_
          refine lv_ishl hx hb dX5_kindsThatDid_47 ?_
          refine lv_ior hx hb dX5_kindsThatDid_48 ?_
          refine lv_istore_n (lv' := [(3, .int (y3 ||| ((1 : Int32) <<< (y4 &&& 31)))), (0, .ref (aW 0)), (1, .int x1), (2, .ref (aD 0)), (4, .int y4)]) hx hb dX5_kindsThatDid_49 rfl hl (by decide) rfl (fun ls hl => ?_)
          refine lv_iinc (v := (y4 + 1)) (lv' := [(4, .int (y4 + 1)), (3, .int (y3 ||| ((1 : Int32) <<< (y4 &&& 31)))), (0, .ref (aW 0)), (1, .int x1), (2, .ref (aD 0))]) hx hb dX5_kindsThatDid_50 hl (k := 4) rfl (by first | rfl | decide) (by decide) rfl (fun ls hl => ?_)
          refine lv_goto (tgt := 5) hx hb dX5_kindsThatDid_53 (by decide) ?_
          exact ih5 (y3 ||| ((1 : Int32) <<< (y4 &&& 31))) (y4 + 1) r37.2 H locs ls hP hD hS (lv_sub hl [2, 3, 4, 1, 0] rfl) h
  refine lv_istore (lv' := [(4, .int 0), (3, .int 0), (0, .ref (aW 0)), (1, .int x1), (2, .ref (aD 0))]) hx hb dX5_kindsThatDid_3 hl (by decide) rfl (fun ls hl => ?_)
  exact B5 lfu 0 0 mS s.heap [] ls hP hD hS (lv_sub hl [2, 3, 4, 1, 0] rfl) h
