abbrev rm_X12_isIn : Room := { frames := 0, cells := 0, slots := 0, locals := 0 }
set_option maxHeartbeats 4000000 in
set_option maxRecDepth 100000 in
theorem c_MD_isIn (l : Launch) (D : va_G) (cI cM cS cJ : ClassId) (sz : Nat) (x0 : Int32) (x1 : Int32) (x2 : Int32) {o : (Int32)} (hsem : S_MD_isIn x0 x1 x2 = o) : kMet l yX12_isIn wsX12_isIn rm_X12_isIn [.int x0, .int x1, .int x2] D (kT cI cM cS cJ) (Wd0) sz (some (.int o)) (Wd0) := by
  refine k_metZ (by decide) rfl rfl (Nat.le_of_ble_eq_true rfl) ?_
  intro p e s m below meth c ls Q A hx hb hml hts hown hK hN hA hP hD hS hl hsz hnm hret
  have hown : s.vm.findClass RX12 = some m.cls := hown
  replace hl : lv_has ls 3 [(0, .int x0), (1, .int x1), (2, .int x2)] := hl
  have h := hsem
  clear hsem
  rw [S_MD_isIn] at h
  refine lv_iload_n hx hb dX12_isIn_0 rfl (lv_at hl 0 rfl) ?_
  refine lv_iload_n hx hb dX12_isIn_1 rfl (lv_at hl 1 rfl) ?_
  refine lv_icmp_lt (tgt := 14) hx hb dX12_isIn_2 (by decide) (fun c2 => ?_) (fun c2 => ?_)
  · have h := k_pos c2 h
    refine lv_iconst (v := 0) hx hb dX12_isIn_14 (by decide) ?_
    cases h
    exact hret _ _ _ _ rfl hP hS dX12_isIn_15
  · have h := k_neg c2 h
    refine lv_iload_n hx hb dX12_isIn_5 rfl (lv_at hl 0 rfl) ?_
    refine lv_iload_n hx hb dX12_isIn_6 rfl (lv_at hl 2 rfl) ?_
    refine lv_icmp_gt (tgt := 14) hx hb dX12_isIn_7 (by decide) (fun c7 => ?_) (fun c7 => ?_)
    · have h := k_pos c7 h
      refine lv_iconst (v := 0) hx hb dX12_isIn_14 (by decide) ?_
      cases h
      exact hret _ _ _ _ rfl hP hS dX12_isIn_15
    · have h := k_neg c7 h
      refine lv_iconst (v := 1) hx hb dX12_isIn_10 (by decide) ?_
      refine lv_goto (tgt := 15) hx hb dX12_isIn_11 (by decide) ?_
      cases h
      exact hret _ _ _ _ rfl hP hS dX12_isIn_15
abbrev rm_X12_sized : Room := { frames := 0, cells := 0, slots := 0, locals := 0 }
set_option maxHeartbeats 4000000 in
set_option maxRecDepth 100000 in
theorem c_MD_sized (l : Launch) (D : va_G) (cI cM cS cJ : ClassId) (sz : Nat) (x0 : Int32) {o : (Int32)} (hsem : S_MD_sized x0 = o) : kMet l yX12_sized wsX12_sized rm_X12_sized [.int x0] D (kT cI cM cS cJ) (Wd0) sz (some (.int o)) (Wd0) := by
  refine k_metI (by decide) rfl rfl (Nat.le_of_ble_eq_true rfl) ?_
  intro p e s m below meth c ls Q A hx hb hml hts hown hK hN hA hP hD hS hl hsz hnm hret
  have hown : s.vm.findClass RX12 = some m.cls := hown
  replace hl : lv_has ls 1 [(0, .int x0)] := hl
  have h := hsem
  clear hsem
  rw [S_MD_sized] at h
  refine lv_iload_n hx hb dX12_sized_0 rfl (lv_at hl 0 rfl) ?_
  refine lv_if_ge (tgt := 9) hx hb dX12_sized_1 (by decide) (fun c1 => ?_) (fun c1 => ?_)
  · have h := k_pos c1 h
    refine lv_iload_n hx hb dX12_sized_9 rfl (lv_at hl 0 rfl) ?_
    cases h
    exact hret _ _ _ _ hP hS dX12_sized_10
  · have h := k_neg c1 h
    refine lv_iload_n hx hb dX12_sized_4 rfl (lv_at hl 0 rfl) ?_
    refine lv_ineg hx hb dX12_sized_5 ?_
    refine lv_goto (tgt := 10) hx hb dX12_sized_6 (by decide) ?_
    cases h
    exact hret _ _ _ _ hP hS dX12_sized_10
abbrev rm_X12_signOf : Room := { frames := 0, cells := 0, slots := 0, locals := 0 }
set_option maxHeartbeats 4000000 in
set_option maxRecDepth 100000 in
theorem c_MD_signOf (l : Launch) (D : va_G) (cI cM cS cJ : ClassId) (sz : Nat) (x0 : Int32) {o : (Int32)} (hsem : S_MD_signOf x0 = o) : kMet l yX12_signOf wsX12_signOf rm_X12_signOf [.int x0] D (kT cI cM cS cJ) (Wd0) sz (some (.int o)) (Wd0) := by
  refine k_metI (by decide) rfl rfl (Nat.le_of_ble_eq_true rfl) ?_
  intro p e s m below meth c ls Q A hx hb hml hts hown hK hN hA hP hD hS hl hsz hnm hret
  have hown : s.vm.findClass RX12 = some m.cls := hown
  replace hl : lv_has ls 1 [(0, .int x0)] := hl
  have h := hsem
  clear hsem
  rw [S_MD_signOf] at h
  refine lv_iload_n hx hb dX12_signOf_0 rfl (lv_at hl 0 rfl) ?_
  refine lv_if_le (tgt := 8) hx hb dX12_signOf_1 (by decide) (fun c1 => ?_) (fun c1 => ?_)
  · have h := k_pos c1 h
    refine lv_iload_n hx hb dX12_signOf_8 rfl (lv_at hl 0 rfl) ?_
    refine lv_if_ge (tgt := 16) hx hb dX12_signOf_9 (by decide) (fun c9 => ?_) (fun c9 => ?_)
    · have h := k_pos c9 h
      refine lv_iconst (v := 0) hx hb dX12_signOf_16 (by decide) ?_
      cases h
      exact hret _ _ _ _ hP hS dX12_signOf_17
    · have h := k_neg c9 h
      refine lv_iconst (v := (-1)) hx hb dX12_signOf_12 (by decide) ?_
      refine lv_goto (tgt := 17) hx hb dX12_signOf_13 (by decide) ?_
      cases h
      exact hret _ _ _ _ hP hS dX12_signOf_17
  · have h := k_neg c1 h
    refine lv_iconst (v := 1) hx hb dX12_signOf_4 (by decide) ?_
    refine lv_goto (tgt := 17) hx hb dX12_signOf_5 (by decide) ?_
    cases h
    exact hret _ _ _ _ hP hS dX12_signOf_17
abbrev rm_X12_least : Room := { frames := 0, cells := 0, slots := 0, locals := 0 }
set_option maxHeartbeats 4000000 in
set_option maxRecDepth 100000 in
theorem c_MD_least (l : Launch) (D : va_G) (cI cM cS cJ : ClassId) (sz : Nat) (x0 : Int32) (x1 : Int32) {o : (Int32)} (hsem : S_MD_least x0 x1 = o) : kMet l yX12_least wsX12_least rm_X12_least [.int x0, .int x1] D (kT cI cM cS cJ) (Wd0) sz (some (.int o)) (Wd0) := by
  refine k_metI (by decide) rfl rfl (Nat.le_of_ble_eq_true rfl) ?_
  intro p e s m below meth c ls Q A hx hb hml hts hown hK hN hA hP hD hS hl hsz hnm hret
  have hown : s.vm.findClass RX12 = some m.cls := hown
  replace hl : lv_has ls 2 [(0, .int x0), (1, .int x1)] := hl
  have h := hsem
  clear hsem
  rw [S_MD_least] at h
  refine lv_iload_n hx hb dX12_least_0 rfl (lv_at hl 0 rfl) ?_
  refine lv_iload_n hx hb dX12_least_1 rfl (lv_at hl 1 rfl) ?_
  refine lv_icmp_ge (tgt := 9) hx hb dX12_least_2 (by decide) (fun c2 => ?_) (fun c2 => ?_)
  · have h := k_pos c2 h
    refine lv_iload_n hx hb dX12_least_9 rfl (lv_at hl 1 rfl) ?_
    cases h
    exact hret _ _ _ _ hP hS dX12_least_10
  · have h := k_neg c2 h
    refine lv_iload_n hx hb dX12_least_5 rfl (lv_at hl 0 rfl) ?_
    refine lv_goto (tgt := 10) hx hb dX12_least_6 (by decide) ?_
    cases h
    exact hret _ _ _ _ hP hS dX12_least_10
abbrev rm_X12_held : Room := { frames := 0, cells := 0, slots := 0, locals := 0 }
set_option maxHeartbeats 4000000 in
set_option maxRecDepth 100000 in
theorem c_MD_held (l : Launch) (D : va_G) (cI cM cS cJ : ClassId) (sz : Nat) (x0 : Int32) {o : (Int32)} (hsem : S_MD_held x0 = o) : kMet l yX12_held wsX12_held rm_X12_held [.int x0] D (kT cI cM cS cJ) (Wd0) sz (some (.int o)) (Wd0) := by
  refine k_metI (by decide) rfl rfl (Nat.le_of_ble_eq_true rfl) ?_
  intro p e s m below meth c ls Q A hx hb hml hts hown hK hN hA hP hD hS hl hsz hnm hret
  have hown : s.vm.findClass RX12 = some m.cls := hown
  replace hl : lv_has ls 1 [(0, .int x0)] := hl
  have h := hsem
  clear hsem
  rw [S_MD_held] at h
  refine lv_iload_n hx hb dX12_held_0 rfl (lv_at hl 0 rfl) ?_
  refine lv_bipush (v := (-45)) hx hb dX12_held_1 (by decide) ?_
  refine lv_icmp_ge (tgt := 11) hx hb dX12_held_3 (by decide) (fun c3 => ?_) (fun c3 => ?_)
  · have h := k_pos c3 h
    refine lv_iload_n hx hb dX12_held_11 rfl (lv_at hl 0 rfl) ?_
    refine lv_bipush (v := 45) hx hb dX12_held_12 (by decide) ?_
    refine lv_icmp_le (tgt := 22) hx hb dX12_held_14 (by decide) (fun c14 => ?_) (fun c14 => ?_)
    · have h := k_pos c14 h
      refine lv_iload_n hx hb dX12_held_22 rfl (lv_at hl 0 rfl) ?_
      cases h
      exact hret _ _ _ _ hP hS dX12_held_23
    · have h := k_neg c14 h
      refine lv_bipush (v := 45) hx hb dX12_held_17 (by decide) ?_
      refine lv_goto (tgt := 23) hx hb dX12_held_19 (by decide) ?_
      cases h
      exact hret _ _ _ _ hP hS dX12_held_23
  · have h := k_neg c3 h
    refine lv_bipush (v := (-45)) hx hb dX12_held_6 (by decide) ?_
    refine lv_goto (tgt := 23) hx hb dX12_held_8 (by decide) ?_
    cases h
    exact hret _ _ _ _ hP hS dX12_held_23
abbrev Wd39 (cI : ClassId) (a0 : Nat) (a1 : Nat) (r0_a : Nat → Int32) (r1_a : Nat → Int32) : va_W := [(a0, .inl (cI, 37, .inl r0_a)), (a1, .inl (cI, 37, .inl r1_a))]
abbrev rm_X12_copies : Room := { frames := 0, cells := 0, slots := 0, locals := 0 }
set_option maxHeartbeats 4000000 in
set_option maxRecDepth 100000 in
theorem c_MD_copies (l : Launch) (D : va_G) (cI cM cS cJ : ClassId) (a0 : Nat) (a1 : Nat) (sz : Nat) (r0_a : Nat → Int32) (r1_a : Nat → Int32) {o : (Nat → Int32)} (hsem : S_MD_copies r0_a r1_a = some o) : kMet l yX12_copies wsX12_copies rm_X12_copies [.ref a0, .ref a1] D (kT cI cM cS cJ) (Wd39 cI a0 a1 r0_a r1_a) sz none (Wd39 cI a0 a1 r0_a o) := by
  refine k_metV (by decide) rfl rfl (Nat.le_of_ble_eq_true rfl) ?_
  intro p e s m below meth c ls Q A hx hb hml hts hown hK hN hA hP hD hS hl hsz hnm hret
  have hown : s.vm.findClass RX12 = some m.cls := hown
  replace hl : lv_has ls 3 [(0, .ref a0), (1, .ref a1)] := hl
  have h := hsem
  clear hsem
  rw [S_MD_copies] at h
  refine lv_iconst (v := 0) hx hb dX12_copies_0 (by decide) ?_
  have B2 : ∀ (n2 : Nat) (y2 : Int32) (r1_a : Nat → Int32) (H : Heap) (locs : List Loc) (ls : Array Slot), va_P D vwCl (Wd39 cI a0 a1 r0_a r1_a) H → va_D A (Wd39 cI a0 a1 r0_a r1_a) → va_S A s.heap H locs → lv_has ls 3 [(0, .ref a0), (1, .ref a1), (2, .int y2)] → S_MD_copies_L2 r0_a n2 y2 r1_a = some o → W p l e rm_X12_copies s m ([.ref a0, .ref a1] : List Value).toArray below meth c H locs 0 0 Q (F0 m 2 ls []) := by
    intro n2
    induction n2 with
    | zero => intro y2 r1_a H locs ls hP hD hS hl h; exact absurd h (by simp [S_MD_copies_L2])
    | succ n2 ih2 =>
      intro y2 r1_a H locs ls hP hD hS hl h
      rw [S_MD_copies_L2] at h
      refine lv_iload_n hx hb dX12_copies_2 rfl (lv_at hl 2 rfl) ?_
      refine lv_bipush (v := 37) hx hb dX12_copies_3 (by decide) ?_
      refine lv_icmp_ge (tgt := 20) hx hb dX12_copies_5 (by decide) (fun c5 => ?_) (fun c5 => ?_)
      · have h := k_pos c5 h
        cases h
        exact hret _ _ _ _ hP hS dX12_copies_20
      · have h := k_neg c5 h
        refine lv_aload_n hx hb dX12_copies_8 rfl (lv_at hl 1 rfl) ?_
        refine lv_iload_n hx hb dX12_copies_9 rfl (lv_at hl 2 rfl) ?_
        refine lv_aload_n hx hb dX12_copies_10 rfl (lv_at hl 0 rfl) ?_
        refine lv_iload_n hx hb dX12_copies_11 rfl (lv_at hl 2 rfl) ?_
        obtain ⟨g12, h⟩ := k_guard h
        refine va_iald hx hb hK hP 0 0 rfl rfl g12 dX12_copies_12 ?_
        refine va_iast hx hb hK hP hD hS 1 0 rfl rfl g12 dX12_copies_13 (fun H locs hP hD hS => ?_)
        replace hP : va_P D vwCl (Wd39 cI a0 a1 r0_a (upd r1_a y2.toNatClampNeg (r0_a y2.toNatClampNeg))) H := hP
        replace hD : va_D A (Wd39 cI a0 a1 r0_a (upd r1_a y2.toNatClampNeg (r0_a y2.toNatClampNeg))) := hD
        refine lv_iinc (v := (y2 + 1)) (lv' := [(2, .int (y2 + 1)), (0, .ref a0), (1, .ref a1)]) hx hb dX12_copies_14 hl (k := 2) rfl (by first | rfl | decide) (by decide) rfl (fun ls hl => ?_)
        refine lv_goto (tgt := 2) hx hb dX12_copies_17 (by decide) ?_
        exact ih2 (y2 + 1) (upd r1_a y2.toNatClampNeg (r0_a y2.toNatClampNeg)) H locs ls hP hD hS (lv_sub hl [1, 2, 0] rfl) h
  refine lv_istore_n (lv' := [(2, .int 0), (0, .ref a0), (1, .ref a1)]) hx hb dX12_copies_1 rfl hl (by decide) rfl (fun ls hl => ?_)
  exact B2 lfu 0 r1_a s.heap [] ls hP hD hS (lv_sub hl [1, 2, 0] rfl) h
abbrev rm_X12_of : Room := { frames := 0, cells := 0, slots := 0, locals := 0 }
set_option maxHeartbeats 4000000 in
set_option maxRecDepth 100000 in
theorem c_MD_of (l : Launch) (D : va_G) (cI cM cS cJ : ClassId) (sz : Nat) (x0 : Int32) (x1 : Int32) {o : (Int32)} (hsem : S_MD_of x0 x1 = o) : kMet l yX12_of wsX12_of rm_X12_of [.int x0, .int x1] D (kT cI cM cS cJ) (Wd0) sz (some (.int o)) (Wd0) := by
  refine k_metI (by decide) rfl rfl (Nat.le_of_ble_eq_true rfl) ?_
  intro p e s m below meth c ls Q A hx hb hml hts hown hK hN hA hP hD hS hl hsz hnm hret
  have hown : s.vm.findClass RX12 = some m.cls := hown
  replace hl : lv_has ls 2 [(0, .int x0), (1, .int x1)] := hl
  have h := hsem
  clear hsem
  rw [S_MD_of] at h
  refine lv_iconst (v := 5) hx hb dX12_of_0 (by decide) ?_
  refine lv_iconst (v := 4) hx hb dX12_of_1 (by decide) ?_
  refine lv_iload_n hx hb dX12_of_2 rfl (lv_at hl 0 rfl) ?_
  refine lv_imul hx hb dX12_of_3 ?_
  refine lv_iadd hx hb dX12_of_4 ?_
  refine lv_iload_n hx hb dX12_of_5 rfl (lv_at hl 1 rfl) ?_
  refine lv_iadd hx hb dX12_of_6 ?_
  cases h
  exact hret _ _ _ _ hP hS dX12_of_7
abbrev Wd40 (cI : ClassId) (aR : Nat → Nat) (q_hasImage : Int32) (q_place : Int32) (q_rowAt : Int32) (q_rowEnd : Int32) (q_seed : Int32) (q_thrown : Int32) (q_s : Nat → Int32) : va_W := [((aR 0), .inr (12, [.ref (aR 1), .ref (aR 2), .ref (aR 3), .ref (aR 4), .int q_hasImage, .int q_place, .int q_rowAt, .int q_rowEnd, .ref (aR 5), .ref (aR 6), .int q_seed, .ref (aR 7), .ref (aR 8), .ref (aR 9), .ref (aR 10), .ref (aR 11), .ref (aR 12), .int q_thrown])), ((aR 1), .inl (cI, 37, .inl q_s))]
theorem kdS_X12_isIn : yX12_isIn.cls ≠ "java/lang/invoke/MethodHandle" ∧ yX12_isIn.cls ≠ "java/lang/invoke/VarHandle" ∧ (parseMethodDescriptor yX12_isIn.desc).map (fun d => d.parameters.length) = some 3 := by decide +kernel
abbrev rm_X12_isMan : Room := { frames := 1, cells := 0, slots := 0, locals := 22 }
set_option maxHeartbeats 4000000 in
set_option maxRecDepth 100000 in
theorem c_MD_isMan (l : Launch) (D : va_G) (cI cM cS cJ : ClassId) (aR : Nat → Nat) (sz : Nat) (x1 : Int32) (q_hasImage : Int32) (q_place : Int32) (q_rowAt : Int32) (q_rowEnd : Int32) (q_seed : Int32) (q_thrown : Int32) (q_s : Nat → Int32) {o : (Int32)} (hsem : S_MD_isMan x1 q_s = some o) : kMet l yX12_isMan wsX12_isMan rm_X12_isMan [.ref (aR 0), .int x1] D (kT cI cM cS cJ) (Wd40 cI aR q_hasImage q_place q_rowAt q_rowEnd q_seed q_thrown q_s) sz (some (.int o)) (Wd40 cI aR q_hasImage q_place q_rowAt q_rowEnd q_seed q_thrown q_s) := by
  refine k_metZ (by decide) rfl rfl (Nat.le_of_ble_eq_true rfl) ?_
  intro p e s m below meth c ls Q A hx hb hml hts hown hK hN hA hP hD hS hl hsz hnm hret
  have hown : s.vm.findClass RX12 = some m.cls := hown
  have hf9 := hts (.fieldLink RX12 9 "PlumbLineModel" "s" "[I") (List.mem_of_getElem? (i := 1) rfl)
  have hiX12 : ∀ w ∈ u_ws RX12 TX12 18, w ∈ wsX12_isMan := fun w h => List.mem_cons_of_mem _ (List.mem_append_right _ h)
  replace hl : lv_has ls 2 [(0, .ref (aR 0)), (1, .int x1)] := hl
  have h := hsem
  clear hsem
  rw [S_MD_isMan] at h
  refine lv_iload_n hx hb dX12_isMan_0 rfl (lv_at hl 1 rfl) ?_
  refine lv_iconst (v := 0) hx hb dX12_isMan_1 (by decide) ?_
  refine lv_aload_n hx hb dX12_isMan_2 rfl (lv_at hl 0 rfl) ?_
  refine va_get (D := D) (ci := 12) (v := .ref (aR 1)) (C := RX12) (T := TX12) (N := 18) hx hb hts hiX12 hown hK hP 0 rfl rfl 0 (by decide) hf9 (fun _ z => z) rfl dX12_isMan_3 ?_
  refine lv_iconst (v := 0) hx hb dX12_isMan_6 (by decide) ?_
  refine va_iald hx hb hK hP 1 0 rfl rfl (by decide) dX12_isMan_7 ?_
  refine lv_iconst (v := 1) hx hb dX12_isMan_8 (by decide) ?_
  refine lv_isub hx hb dX12_isMan_9 ?_
  refine k_callS (As := [.int x1, .int 0, .int ((q_s (0 : Int32).toNatClampNeg) - 1)]) (rest := []) (st1 := [.int (S_MD_isIn x1 0 ((q_s (0 : Int32).toNatClampNeg) - 1))]) (ws2 := (Wd40 cI aR q_hasImage q_place q_rowAt q_rowEnd q_seed q_thrown q_s)) hx hb hml hown hts hK hN hA hP hD hS hl (c_MD_isIn l D cI cM cS cJ s.heap.size x1 0 ((q_s (0 : Int32).toNatClampNeg) - 1) rfl) gX12_isMan_X12_isIn rfl kdS_X12_isIn [] ⟨rfl, rfl⟩ ⟨Nat.le_of_ble_eq_true rfl, Nat.le_of_ble_eq_true rfl⟩ ⟨Nat.zero_le _, Nat.zero_le _⟩ rfl rfl (by decide +kernel) rfl rfl rfl (Nat.le_of_ble_eq_true rfl) dX12_isMan_10 rfl (fun H locs hP hD hS => ?_)
  obtain ⟨g13, h⟩ := k_guard h
  cases h
  exact hret _ _ _ _ (k_z01 g13) hP hS dX12_isMan_13
theorem kdV_X12_isMan : yX12_isMan.cls = RX12 ∧ yX12_isMan.cls ≠ "java/lang/invoke/MethodHandle" ∧ yX12_isMan.cls ≠ "java/lang/invoke/VarHandle" ∧ (parseMethodDescriptor yX12_isMan.desc).map (fun d => d.parameters.length) = some 1 := by decide +kernel
abbrev rm_X12_areTwo : Room := { frames := 2, cells := 0, slots := 0, locals := 43 }
set_option maxHeartbeats 4000000 in
set_option maxRecDepth 100000 in
theorem c_MD_areTwo (l : Launch) (D : va_G) (cI cM cS cJ : ClassId) (aR : Nat → Nat) (sz : Nat) (x1 : Int32) (x2 : Int32) (q_hasImage : Int32) (q_place : Int32) (q_rowAt : Int32) (q_rowEnd : Int32) (q_seed : Int32) (q_thrown : Int32) (q_s : Nat → Int32) {o : (Int32)} (hsem : S_MD_areTwo x1 x2 q_s = some o) : kMet l yX12_areTwo wsX12_areTwo rm_X12_areTwo [.ref (aR 0), .int x1, .int x2] D (kT cI cM cS cJ) (Wd40 cI aR q_hasImage q_place q_rowAt q_rowEnd q_seed q_thrown q_s) sz (some (.int o)) (Wd40 cI aR q_hasImage q_place q_rowAt q_rowEnd q_seed q_thrown q_s) := by
  refine k_metZ (by decide) rfl rfl (Nat.le_of_ble_eq_true rfl) ?_
  intro p e s m below meth c ls Q A hx hb hml hts hown hK hN hA hP hD hS hl hsz hnm hret
  have hown : s.vm.findClass RX12 = some m.cls := hown
  replace hl : lv_has ls 3 [(0, .ref (aR 0)), (1, .int x1), (2, .int x2)] := hl
  have h := hsem
  clear hsem
  rw [S_MD_areTwo] at h
  refine lv_aload_n hx hb dX12_areTwo_0 rfl (lv_at hl 0 rfl) ?_
  refine lv_iload_n hx hb dX12_areTwo_1 rfl (lv_at hl 1 rfl) ?_
  obtain ⟨r2, g2, h⟩ := k_bind h
  refine k_callV (As := [.int x1]) (rest := []) (st1 := [.int r2]) (ws2 := (Wd40 cI aR q_hasImage q_place q_rowAt q_rowEnd q_seed q_thrown q_s)) hx hb hml hown hts hK hN hA hP hD hS hl (c_MD_isMan l D cI cM cS cJ aR s.heap.size x1 q_hasImage q_place q_rowAt q_rowEnd q_seed q_thrown q_s g2) gX12_areTwo_X12_isMan rfl kdV_X12_isMan 0 12 rfl rfl rfl [0, 1] ⟨rfl, rfl⟩ ⟨Nat.le_of_ble_eq_true rfl, Nat.le_of_ble_eq_true rfl⟩ ⟨Nat.zero_le _, Nat.zero_le _⟩ rfl rfl (by decide +kernel) rfl rfl rfl (Nat.le_of_ble_eq_true rfl) dX12_areTwo_2 rfl (fun H locs hP hD hS => ?_)
  refine lv_if_eq (tgt := 25) hx hb dX12_areTwo_5 (by decide) (fun c5 => ?_) (fun c5 => ?_)
  · have h := k_pos c5 h
    refine lv_iconst (v := 0) hx hb dX12_areTwo_25 (by decide) ?_
    cases h
    exact hret _ _ _ _ rfl hP hS dX12_areTwo_26
  · have h := k_neg c5 h
    refine lv_aload_n hx hb dX12_areTwo_8 rfl (lv_at hl 0 rfl) ?_
    refine lv_iload_n hx hb dX12_areTwo_9 rfl (lv_at hl 2 rfl) ?_
    obtain ⟨r10, g10, h⟩ := k_bind h
    refine k_callV (As := [.int x2]) (rest := []) (st1 := [.int r10]) (ws2 := (Wd40 cI aR q_hasImage q_place q_rowAt q_rowEnd q_seed q_thrown q_s)) hx hb hml hown hts hK hN hA hP hD hS hl (c_MD_isMan l D cI cM cS cJ aR H.size x2 q_hasImage q_place q_rowAt q_rowEnd q_seed q_thrown q_s g10) gX12_areTwo_X12_isMan rfl kdV_X12_isMan 0 12 rfl rfl rfl [0, 1] ⟨rfl, rfl⟩ ⟨Nat.le_of_ble_eq_true rfl, Nat.le_of_ble_eq_true rfl⟩ ⟨Nat.zero_le _, Nat.zero_le _⟩ rfl rfl (by decide +kernel) rfl rfl rfl (Nat.le_of_ble_eq_true rfl) dX12_areTwo_10 rfl (fun H locs hP hD hS => ?_)
    refine lv_if_eq (tgt := 25) hx hb dX12_areTwo_13 (by decide) (fun c13 => ?_) (fun c13 => ?_)
    · have h := k_pos c13 h
      refine lv_iconst (v := 0) hx hb dX12_areTwo_25 (by decide) ?_
      cases h
      exact hret _ _ _ _ rfl hP hS dX12_areTwo_26
    · have h := k_neg c13 h
      refine lv_iload_n hx hb dX12_areTwo_16 rfl (lv_at hl 1 rfl) ?_
      refine lv_iload_n hx hb dX12_areTwo_17 rfl (lv_at hl 2 rfl) ?_
      refine lv_icmp_eq (tgt := 25) hx hb dX12_areTwo_18 (by decide) (fun c18 => ?_) (fun c18 => ?_)
      · have h := k_pos c18 h
        refine lv_iconst (v := 0) hx hb dX12_areTwo_25 (by decide) ?_
        cases h
        exact hret _ _ _ _ rfl hP hS dX12_areTwo_26
      · have h := k_neg c18 h
        refine lv_iconst (v := 1) hx hb dX12_areTwo_21 (by decide) ?_
        refine lv_goto (tgt := 26) hx hb dX12_areTwo_22 (by decide) ?_
        cases h
        exact hret _ _ _ _ rfl hP hS dX12_areTwo_26
abbrev rm_X12_isLean : Room := { frames := 1, cells := 0, slots := 0, locals := 22 }
set_option maxHeartbeats 4000000 in
set_option maxRecDepth 100000 in
theorem c_MD_isLean (l : Launch) (D : va_G) (cI cM cS cJ : ClassId) (sz : Nat) (x0 : Int32) {o : (Int32)} (hsem : S_MD_isLean x0 = some o) : kMet l yX12_isLean wsX12_isLean rm_X12_isLean [.int x0] D (kT cI cM cS cJ) (Wd0) sz (some (.int o)) (Wd0) := by
  refine k_metZ (by decide) rfl rfl (Nat.le_of_ble_eq_true rfl) ?_
  intro p e s m below meth c ls Q A hx hb hml hts hown hK hN hA hP hD hS hl hsz hnm hret
  have hown : s.vm.findClass RX12 = some m.cls := hown
  replace hl : lv_has ls 1 [(0, .int x0)] := hl
  have h := hsem
  clear hsem
  rw [S_MD_isLean] at h
  refine lv_iload_n hx hb dX12_isLean_0 rfl (lv_at hl 0 rfl) ?_
  refine lv_bipush (v := (-45)) hx hb dX12_isLean_1 (by decide) ?_
  refine lv_bipush (v := 45) hx hb dX12_isLean_3 (by decide) ?_
  refine k_callS (As := [.int x0, .int (-45), .int 45]) (rest := []) (st1 := [.int (S_MD_isIn x0 (-45) 45)]) (ws2 := (Wd0)) hx hb hml hown hts hK hN hA hP hD hS hl (c_MD_isIn l D cI cM cS cJ s.heap.size x0 (-45) 45 rfl) gX12_isLean_X12_isIn rfl kdS_X12_isIn [] ⟨rfl, rfl⟩ ⟨Nat.le_of_ble_eq_true rfl, Nat.le_of_ble_eq_true rfl⟩ ⟨Nat.zero_le _, Nat.zero_le _⟩ rfl rfl (by decide +kernel) rfl rfl rfl (Nat.le_of_ble_eq_true rfl) dX12_isLean_5 rfl (fun H locs hP hD hS => ?_)
  obtain ⟨g8, h⟩ := k_guard h
  cases h
  exact hret _ _ _ _ (k_z01 g8) hP hS dX12_isLean_8
abbrev rm_X12_has : Room := { frames := 0, cells := 0, slots := 0, locals := 0 }
set_option maxHeartbeats 4000000 in
set_option maxRecDepth 100000 in
theorem c_MD_has (l : Launch) (D : va_G) (cI cM cS cJ : ClassId) (sz : Nat) (x0 : Int32) (x1 : Int32) {o : (Int32)} (hsem : S_MD_has x0 x1 = o) : kMet l yX12_has wsX12_has rm_X12_has [.int x0, .int x1] D (kT cI cM cS cJ) (Wd0) sz (some (.int o)) (Wd0) := by
  refine k_metZ (by decide) rfl rfl (Nat.le_of_ble_eq_true rfl) ?_
  intro p e s m below meth c ls Q A hx hb hml hts hown hK hN hA hP hD hS hl hsz hnm hret
  have hown : s.vm.findClass RX12 = some m.cls := hown
  replace hl : lv_has ls 2 [(0, .int x0), (1, .int x1)] := hl
  have h := hsem
  clear hsem
  rw [S_MD_has] at h
  refine lv_iload_n hx hb dX12_has_0 rfl (lv_at hl 0 rfl) ?_
  refine lv_iload_n hx hb dX12_has_1 rfl (lv_at hl 1 rfl) ?_
  refine lv_ishr hx hb dX12_has_2 ?_
  refine lv_iconst (v := 1) hx hb dX12_has_3 (by decide) ?_
  refine lv_iand hx hb dX12_has_4 ?_
  refine lv_iconst (v := 1) hx hb dX12_has_5 (by decide) ?_
  refine lv_icmp_ne (tgt := 13) hx hb dX12_has_6 (by decide) (fun c6 => ?_) (fun c6 => ?_)
  · have h := k_neg c6 h
    refine lv_iconst (v := 0) hx hb dX12_has_13 (by decide) ?_
    cases h
    exact hret _ _ _ _ rfl hP hS dX12_has_14
  · have h := k_pos c6 h
    refine lv_iconst (v := 1) hx hb dX12_has_9 (by decide) ?_
    refine lv_goto (tgt := 14) hx hb dX12_has_10 (by decide) ?_
    cases h
    exact hret _ _ _ _ rfl hP hS dX12_has_14
abbrev rm_X12_bits : Room := { frames := 0, cells := 0, slots := 0, locals := 0 }
set_option maxHeartbeats 4000000 in
set_option maxRecDepth 100000 in
theorem c_MD_bits (l : Launch) (D : va_G) (cI cM cS cJ : ClassId) (sz : Nat) (x0 : Int32) {o : (Int32)} (hsem : S_MD_bits x0 = some o) : kMet l yX12_bits wsX12_bits rm_X12_bits [.int x0] D (kT cI cM cS cJ) (Wd0) sz (some (.int o)) (Wd0) := by
  refine k_metI (by decide) rfl rfl (Nat.le_of_ble_eq_true rfl) ?_
  intro p e s m below meth c ls Q A hx hb hml hts hown hK hN hA hP hD hS hl hsz hnm hret
  have hown : s.vm.findClass RX12 = some m.cls := hown
  replace hl : lv_has ls 3 [(0, .int x0)] := hl
  have h := hsem
  clear hsem
  rw [S_MD_bits] at h
  refine lv_iconst (v := 0) hx hb dX12_bits_0 (by decide) ?_
  refine lv_istore_n (lv' := [(1, .int 0), (0, .int x0)]) hx hb dX12_bits_1 rfl hl (by decide) rfl (fun ls hl => ?_)
  refine lv_iconst (v := 0) hx hb dX12_bits_2 (by decide) ?_
  have B4 : ∀ (n4 : Nat) (y1 : Int32) (y2 : Int32) (H : Heap) (locs : List Loc) (ls : Array Slot), va_P D vwCl (Wd0) H → va_D A (Wd0) → va_S A s.heap H locs → lv_has ls 3 [(0, .int x0), (1, .int y1), (2, .int y2)] → S_MD_bits_L4 x0 n4 y1 y2 = some o → W p l e rm_X12_bits s m ([.int x0] : List Value).toArray below meth c H locs 0 0 Q (F0 m 4 ls []) := by
    intro n4
    induction n4 with
    | zero => intro y1 y2 H locs ls hP hD hS hl h; exact absurd h (by simp [S_MD_bits_L4])
    | succ n4 ih4 =>
      intro y1 y2 H locs ls hP hD hS hl h
      rw [S_MD_bits_L4] at h
      refine lv_iload_n hx hb dX12_bits_4 rfl (lv_at hl 2 rfl) ?_
      refine lv_bipush (v := 8) hx hb dX12_bits_5 (by decide) ?_
      refine lv_icmp_ge (tgt := 24) hx hb dX12_bits_7 (by decide) (fun c7 => ?_) (fun c7 => ?_)
      · have h := k_pos c7 h
        refine lv_iload_n hx hb dX12_bits_24 rfl (lv_at hl 1 rfl) ?_
        cases h
        exact hret _ _ _ _ hP hS dX12_bits_25
      · have h := k_neg c7 h
        refine lv_iload_n hx hb dX12_bits_10 rfl (lv_at hl 1 rfl) ?_
        refine lv_iload_n hx hb dX12_bits_11 rfl (lv_at hl 0 rfl) ?_
        refine lv_iload_n hx hb dX12_bits_12 rfl (lv_at hl 2 rfl) ?_
        refine lv_ishr hx hb dX12_bits_13 ?_
        refine lv_iconst (v := 1) hx hb dX12_bits_14 (by decide) ?_
        refine lv_iand hx hb dX12_bits_15 ?_
        refine lv_iadd hx hb dX12_bits_16 ?_
        refine lv_istore_n (lv' := [(1, .int (y1 + ((x0 >>> (y2 &&& 31)) &&& 1))), (0, .int x0), (2, .int y2)]) hx hb dX12_bits_17 rfl hl (by decide) rfl (fun ls hl => ?_)
        refine lv_iinc (v := (y2 + 1)) (lv' := [(2, .int (y2 + 1)), (1, .int (y1 + ((x0 >>> (y2 &&& 31)) &&& 1))), (0, .int x0)]) hx hb dX12_bits_18 hl (k := 2) rfl (by first | rfl | decide) (by decide) rfl (fun ls hl => ?_)
        refine lv_goto (tgt := 4) hx hb dX12_bits_21 (by decide) ?_
        exact ih4 (y1 + ((x0 >>> (y2 &&& 31)) &&& 1)) (y2 + 1) H locs ls hP hD hS (lv_sub hl [2, 1, 0] rfl) h
  refine lv_istore_n (lv' := [(2, .int 0), (1, .int 0), (0, .int x0)]) hx hb dX12_bits_3 rfl hl (by decide) rfl (fun ls hl => ?_)
  exact B4 lfu 0 0 s.heap [] ls hP hD hS (lv_sub hl [2, 1, 0] rfl) h
theorem kdS_X12_signOf : yX12_signOf.cls ≠ "java/lang/invoke/MethodHandle" ∧ yX12_signOf.cls ≠ "java/lang/invoke/VarHandle" ∧ (parseMethodDescriptor yX12_signOf.desc).map (fun d => d.parameters.length) = some 1 := by decide +kernel
theorem kdS_X12_sized : yX12_sized.cls ≠ "java/lang/invoke/MethodHandle" ∧ yX12_sized.cls ≠ "java/lang/invoke/VarHandle" ∧ (parseMethodDescriptor yX12_sized.desc).map (fun d => d.parameters.length) = some 1 := by decide +kernel
theorem kdS_X12_least : yX12_least.cls ≠ "java/lang/invoke/MethodHandle" ∧ yX12_least.cls ≠ "java/lang/invoke/VarHandle" ∧ (parseMethodDescriptor yX12_least.desc).map (fun d => d.parameters.length) = some 2 := by decide +kernel
abbrev rm_X12_towards : Room := { frames := 1, cells := 0, slots := 0, locals := 21 }
set_option maxHeartbeats 4000000 in
set_option maxRecDepth 100000 in
theorem c_MD_towards (l : Launch) (D : va_G) (cI cM cS cJ : ClassId) (sz : Nat) (x0 : Int32) (x1 : Int32) (x2 : Int32) {o : (Int32)} (hsem : S_MD_towards x0 x1 x2 = o) : kMet l yX12_towards wsX12_towards rm_X12_towards [.int x0, .int x1, .int x2] D (kT cI cM cS cJ) (Wd0) sz (some (.int o)) (Wd0) := by
  refine k_metI (by decide) rfl rfl (Nat.le_of_ble_eq_true rfl) ?_
  intro p e s m below meth c ls Q A hx hb hml hts hown hK hN hA hP hD hS hl hsz hnm hret
  have hown : s.vm.findClass RX12 = some m.cls := hown
  replace hl : lv_has ls 3 [(0, .int x0), (1, .int x1), (2, .int x2)] := hl
  have h := hsem
  clear hsem
  rw [S_MD_towards] at h
  refine lv_iload_n hx hb dX12_towards_0 rfl (lv_at hl 1 rfl) ?_
  refine lv_iload_n hx hb dX12_towards_1 rfl (lv_at hl 0 rfl) ?_
  refine lv_isub hx hb dX12_towards_2 ?_
  refine k_callS (As := [.int (x1 - x0)]) (rest := []) (st1 := [.int (S_MD_signOf (x1 - x0))]) (ws2 := (Wd0)) hx hb hml hown hts hK hN hA hP hD hS hl (c_MD_signOf l D cI cM cS cJ s.heap.size (x1 - x0) rfl) gX12_towards_X12_signOf rfl kdS_X12_signOf [] ⟨rfl, rfl⟩ ⟨Nat.le_of_ble_eq_true rfl, Nat.le_of_ble_eq_true rfl⟩ ⟨Nat.zero_le _, Nat.zero_le _⟩ rfl rfl (by decide +kernel) rfl rfl rfl (Nat.le_of_ble_eq_true rfl) dX12_towards_3 rfl (fun H locs hP hD hS => ?_)
  refine lv_iload_n hx hb dX12_towards_6 rfl (lv_at hl 2 rfl) ?_
  refine lv_iload_n hx hb dX12_towards_7 rfl (lv_at hl 1 rfl) ?_
  refine lv_iload_n hx hb dX12_towards_8 rfl (lv_at hl 0 rfl) ?_
  refine lv_isub hx hb dX12_towards_9 ?_
  refine k_callS (As := [.int (x1 - x0)]) (rest := [.int x2, .int (S_MD_signOf (x1 - x0))]) (st1 := [.int (S_MD_sized (x1 - x0)), .int x2, .int (S_MD_signOf (x1 - x0))]) (ws2 := (Wd0)) hx hb hml hown hts hK hN hA hP hD hS hl (c_MD_sized l D cI cM cS cJ H.size (x1 - x0) rfl) gX12_towards_X12_sized rfl kdS_X12_sized [] ⟨rfl, rfl⟩ ⟨Nat.le_of_ble_eq_true rfl, Nat.le_of_ble_eq_true rfl⟩ ⟨Nat.zero_le _, Nat.zero_le _⟩ rfl rfl (by decide +kernel) rfl rfl rfl (Nat.le_of_ble_eq_true rfl) dX12_towards_10 rfl (fun H locs hP hD hS => ?_)
  refine k_callS (As := [.int x2, .int (S_MD_sized (x1 - x0))]) (rest := [.int (S_MD_signOf (x1 - x0))]) (st1 := [.int (S_MD_least x2 (S_MD_sized (x1 - x0))), .int (S_MD_signOf (x1 - x0))]) (ws2 := (Wd0)) hx hb hml hown hts hK hN hA hP hD hS hl (c_MD_least l D cI cM cS cJ H.size x2 (S_MD_sized (x1 - x0)) rfl) gX12_towards_X12_least rfl kdS_X12_least [] ⟨rfl, rfl⟩ ⟨Nat.le_of_ble_eq_true rfl, Nat.le_of_ble_eq_true rfl⟩ ⟨Nat.zero_le _, Nat.zero_le _⟩ rfl rfl (by decide +kernel) rfl rfl rfl (Nat.le_of_ble_eq_true rfl) dX12_towards_13 rfl (fun H locs hP hD hS => ?_)
  refine lv_imul hx hb dX12_towards_16 ?_
  cases h
  exact hret _ _ _ _ hP hS dX12_towards_17
abbrev rm_X12_awayBy : Room := { frames := 0, cells := 0, slots := 0, locals := 0 }
set_option maxHeartbeats 4000000 in
set_option maxRecDepth 100000 in
theorem c_MD_awayBy (l : Launch) (D : va_G) (cI cM cS cJ : ClassId) (sz : Nat) (x0 : Int32) (x1 : Int32) {o : (Int32)} (hsem : S_MD_awayBy x0 x1 = o) : kMet l yX12_awayBy wsX12_awayBy rm_X12_awayBy [.int x0, .int x1] D (kT cI cM cS cJ) (Wd0) sz (some (.int o)) (Wd0) := by
  refine k_metI (by decide) rfl rfl (Nat.le_of_ble_eq_true rfl) ?_
  intro p e s m below meth c ls Q A hx hb hml hts hown hK hN hA hP hD hS hl hsz hnm hret
  have hown : s.vm.findClass RX12 = some m.cls := hown
  replace hl : lv_has ls 2 [(0, .int x0), (1, .int x1)] := hl
  have h := hsem
  clear hsem
  rw [S_MD_awayBy] at h
  refine lv_iload_n hx hb dX12_awayBy_0 rfl (lv_at hl 0 rfl) ?_
  refine lv_if_ge (tgt := 9) hx hb dX12_awayBy_1 (by decide) (fun c1 => ?_) (fun c1 => ?_)
  · have h := k_pos c1 h
    refine lv_iload_n hx hb dX12_awayBy_9 rfl (lv_at hl 1 rfl) ?_
    cases h
    exact hret _ _ _ _ hP hS dX12_awayBy_10
  · have h := k_neg c1 h
    refine lv_iload_n hx hb dX12_awayBy_4 rfl (lv_at hl 1 rfl) ?_
    refine lv_ineg hx hb dX12_awayBy_5 ?_
    refine lv_goto (tgt := 10) hx hb dX12_awayBy_6 (by decide) ?_
    cases h
    exact hret _ _ _ _ hP hS dX12_awayBy_10
theorem kdS_X12_towards : yX12_towards.cls ≠ "java/lang/invoke/MethodHandle" ∧ yX12_towards.cls ≠ "java/lang/invoke/VarHandle" ∧ (parseMethodDescriptor yX12_towards.desc).map (fun d => d.parameters.length) = some 3 := by decide +kernel
theorem kdS_X12_awayBy : yX12_awayBy.cls ≠ "java/lang/invoke/MethodHandle" ∧ yX12_awayBy.cls ≠ "java/lang/invoke/VarHandle" ∧ (parseMethodDescriptor yX12_awayBy.desc).map (fun d => d.parameters.length) = some 2 := by decide +kernel
abbrev rm_X12_movesBy : Room := { frames := 2, cells := 0, slots := 0, locals := 43 }
set_option maxHeartbeats 4000000 in
set_option maxRecDepth 100000 in
theorem c_MD_movesBy (l : Launch) (D : va_G) (cI cM cS cJ : ClassId) (sz : Nat) (x0 : Int32) (x1 : Int32) (x2 : Int32) (x3 : Int32) (x4 : Int32) {o : (Int32)} (hsem : S_MD_movesBy x0 x1 x2 x3 x4 = o) : kMet l yX12_movesBy wsX12_movesBy rm_X12_movesBy [.int x0, .int x1, .int x2, .int x3, .int x4] D (kT cI cM cS cJ) (Wd0) sz (some (.int o)) (Wd0) := by
  refine k_metI (by decide) rfl rfl (Nat.le_of_ble_eq_true rfl) ?_
  intro p e s m below meth c ls Q A hx hb hml hts hown hK hN hA hP hD hS hl hsz hnm hret
  have hown : s.vm.findClass RX12 = some m.cls := hown
  replace hl : lv_has ls 5 [(0, .int x0), (1, .int x1), (2, .int x2), (3, .int x3), (4, .int x4)] := hl
  have h := hsem
  clear hsem
  rw [S_MD_movesBy] at h
  refine lv_iload_n hx hb dX12_movesBy_0 rfl (lv_at hl 0 rfl) ?_
  by_cases s1_1 : x0 = 1
  · refine k_tblI (tgt := 44) (v := 1) hx hb dX12_movesBy_1 s1_1 (by decide) (by decide) rfl (by decide) ?_
    have h := k_pos s1_1 h
    refine lv_iconst (v := 0) hx hb dX12_movesBy_44 (by decide) ?_
    cases h
    exact hret _ _ _ _ hP hS dX12_movesBy_45
  · have h := k_neg s1_1 h
    by_cases s1_2 : x0 = 2
    · refine k_tblI (tgt := 46) (v := 2) hx hb dX12_movesBy_1 s1_2 (by decide) (by decide) rfl (by decide) ?_
      have h := k_pos s1_2 h
      refine lv_iload_n hx hb dX12_movesBy_46 rfl (lv_at hl 2 rfl) ?_
      refine lv_iconst (v := 0) hx hb dX12_movesBy_47 (by decide) ?_
      refine lv_iconst (v := 1) hx hb dX12_movesBy_48 (by decide) ?_
      refine k_callS (As := [.int x2, .int 0, .int 1]) (rest := []) (st1 := [.int (S_MD_towards x2 0 1)]) (ws2 := (Wd0)) hx hb hml hown hts hK hN hA hP hD hS hl (c_MD_towards l D cI cM cS cJ s.heap.size x2 0 1 rfl) gX12_movesBy_X12_towards rfl kdS_X12_towards [] ⟨rfl, rfl⟩ ⟨Nat.le_of_ble_eq_true rfl, Nat.le_of_ble_eq_true rfl⟩ ⟨Nat.zero_le _, Nat.zero_le _⟩ rfl rfl (by decide +kernel) rfl rfl rfl (Nat.le_of_ble_eq_true rfl) dX12_movesBy_49 rfl (fun H locs hP hD hS => ?_)
      cases h
      exact hret _ _ _ _ hP hS dX12_movesBy_52
    · have h := k_neg s1_2 h
      by_cases s1_3 : x0 = 3
      · refine k_tblI (tgt := 53) (v := 3) hx hb dX12_movesBy_1 s1_3 (by decide) (by decide) rfl (by decide) ?_
        have h := k_pos s1_3 h
        refine lv_iload_n hx hb dX12_movesBy_53 rfl (lv_at hl 2 rfl) ?_
        refine lv_iload_n hx hb dX12_movesBy_54 rfl (lv_at hl 3 rfl) ?_
        refine lv_iconst (v := 2) hx hb dX12_movesBy_55 (by decide) ?_
        refine k_callS (As := [.int x2, .int x3, .int 2]) (rest := []) (st1 := [.int (S_MD_towards x2 x3 2)]) (ws2 := (Wd0)) hx hb hml hown hts hK hN hA hP hD hS hl (c_MD_towards l D cI cM cS cJ s.heap.size x2 x3 2 rfl) gX12_movesBy_X12_towards rfl kdS_X12_towards [] ⟨rfl, rfl⟩ ⟨Nat.le_of_ble_eq_true rfl, Nat.le_of_ble_eq_true rfl⟩ ⟨Nat.zero_le _, Nat.zero_le _⟩ rfl rfl (by decide +kernel) rfl rfl rfl (Nat.le_of_ble_eq_true rfl) dX12_movesBy_56 rfl (fun H locs hP hD hS => ?_)
        cases h
        exact hret _ _ _ _ hP hS dX12_movesBy_59
      · have h := k_neg s1_3 h
        by_cases s1_4 : x0 = 4
        · refine k_tblI (tgt := 60) (v := 4) hx hb dX12_movesBy_1 s1_4 (by decide) (by decide) rfl (by decide) ?_
          have h := k_pos s1_4 h
          refine lv_iload_n hx hb dX12_movesBy_60 rfl (lv_at hl 2 rfl) ?_
          refine lv_iload_n hx hb dX12_movesBy_61 rfl (lv_at hl 1 rfl) ?_
          refine lv_iconst (v := 3) hx hb dX12_movesBy_62 (by decide) ?_
          refine lv_idiv hx hb dX12_movesBy_63 (by decide) ?_
          refine lv_iconst (v := 1) hx hb dX12_movesBy_64 (by decide) ?_
          refine lv_iadd hx hb dX12_movesBy_65 ?_
          refine k_callS (As := [.int x2, .int ((x1 / 3) + 1)]) (rest := []) (st1 := [.int (S_MD_awayBy x2 ((x1 / 3) + 1))]) (ws2 := (Wd0)) hx hb hml hown hts hK hN hA hP hD hS hl (c_MD_awayBy l D cI cM cS cJ s.heap.size x2 ((x1 / 3) + 1) rfl) gX12_movesBy_X12_awayBy rfl kdS_X12_awayBy [] ⟨rfl, rfl⟩ ⟨Nat.le_of_ble_eq_true rfl, Nat.le_of_ble_eq_true rfl⟩ ⟨Nat.zero_le _, Nat.zero_le _⟩ rfl rfl (by decide +kernel) rfl rfl rfl (Nat.le_of_ble_eq_true rfl) dX12_movesBy_66 rfl (fun H locs hP hD hS => ?_)
          cases h
          exact hret _ _ _ _ hP hS dX12_movesBy_69
        · have h := k_neg s1_4 h
          by_cases s1_5 : x0 = 5
          · refine k_tblI (tgt := 70) (v := 5) hx hb dX12_movesBy_1 s1_5 (by decide) (by decide) rfl (by decide) ?_
            have h := k_pos s1_5 h
            refine lv_iload_n hx hb dX12_movesBy_70 rfl (lv_at hl 2 rfl) ?_
            refine lv_iconst (v := 0) hx hb dX12_movesBy_71 (by decide) ?_
            refine lv_iconst (v := 5) hx hb dX12_movesBy_72 (by decide) ?_
            refine k_callS (As := [.int x2, .int 0, .int 5]) (rest := []) (st1 := [.int (S_MD_towards x2 0 5)]) (ws2 := (Wd0)) hx hb hml hown hts hK hN hA hP hD hS hl (c_MD_towards l D cI cM cS cJ s.heap.size x2 0 5 rfl) gX12_movesBy_X12_towards rfl kdS_X12_towards [] ⟨rfl, rfl⟩ ⟨Nat.le_of_ble_eq_true rfl, Nat.le_of_ble_eq_true rfl⟩ ⟨Nat.zero_le _, Nat.zero_le _⟩ rfl rfl (by decide +kernel) rfl rfl rfl (Nat.le_of_ble_eq_true rfl) dX12_movesBy_73 rfl (fun H locs hP hD hS => ?_)
            cases h
            exact hret _ _ _ _ hP hS dX12_movesBy_76
          · have h := k_neg s1_5 h
            by_cases s1_6 : x0 = 6
            · refine k_tblI (tgt := 77) (v := 6) hx hb dX12_movesBy_1 s1_6 (by decide) (by decide) rfl (by decide) ?_
              have h := k_pos s1_6 h
              refine lv_iload_n hx hb dX12_movesBy_77 rfl (lv_at hl 2 rfl) ?_
              refine lv_iconst (v := 2) hx hb dX12_movesBy_78 (by decide) ?_
              refine lv_iload_n hx hb dX12_movesBy_79 rfl (lv_at hl 1 rfl) ?_
              refine lv_iconst (v := 3) hx hb dX12_movesBy_80 (by decide) ?_
              refine lv_idiv hx hb dX12_movesBy_81 (by decide) ?_
              refine lv_iconst (v := 1) hx hb dX12_movesBy_82 (by decide) ?_
              refine lv_iadd hx hb dX12_movesBy_83 ?_
              refine lv_imul hx hb dX12_movesBy_84 ?_
              refine k_callS (As := [.int x2, .int ((2 : Int32) * ((x1 / 3) + 1))]) (rest := []) (st1 := [.int (S_MD_awayBy x2 ((2 : Int32) * ((x1 / 3) + 1)))]) (ws2 := (Wd0)) hx hb hml hown hts hK hN hA hP hD hS hl (c_MD_awayBy l D cI cM cS cJ s.heap.size x2 ((2 : Int32) * ((x1 / 3) + 1)) rfl) gX12_movesBy_X12_awayBy rfl kdS_X12_awayBy [] ⟨rfl, rfl⟩ ⟨Nat.le_of_ble_eq_true rfl, Nat.le_of_ble_eq_true rfl⟩ ⟨Nat.zero_le _, Nat.zero_le _⟩ rfl rfl (by decide +kernel) rfl rfl rfl (Nat.le_of_ble_eq_true rfl) dX12_movesBy_85 rfl (fun H locs hP hD hS => ?_)
              cases h
              exact hret _ _ _ _ hP hS dX12_movesBy_88
            · have h := k_neg s1_6 h
              by_cases s1_7 : x0 = 7
              · refine k_tblI (tgt := 89) (v := 7) hx hb dX12_movesBy_1 s1_7 (by decide) (by decide) rfl (by decide) ?_
                have h := k_pos s1_7 h
                refine lv_iload hx hb dX12_movesBy_89 (lv_at hl 4 rfl) ?_
                refine lv_iconst (v := 2) hx hb dX12_movesBy_91 (by decide) ?_
                refine lv_irem hx hb dX12_movesBy_92 (by decide) ?_
                refine lv_if_ne (tgt := 105) hx hb dX12_movesBy_93 (by decide) (fun c93 => ?_) (fun c93 => ?_)
                · have h := k_neg c93 h
                  refine lv_iconst (v := 0) hx hb dX12_movesBy_105 (by decide) ?_
                  cases h
                  exact hret _ _ _ _ hP hS dX12_movesBy_106
                · have h := k_pos c93 h
                  refine lv_iload_n hx hb dX12_movesBy_96 rfl (lv_at hl 2 rfl) ?_
                  refine lv_iload_n hx hb dX12_movesBy_97 rfl (lv_at hl 3 rfl) ?_
                  refine lv_iconst (v := 2) hx hb dX12_movesBy_98 (by decide) ?_
                  refine k_callS (As := [.int x2, .int x3, .int 2]) (rest := []) (st1 := [.int (S_MD_towards x2 x3 2)]) (ws2 := (Wd0)) hx hb hml hown hts hK hN hA hP hD hS hl (c_MD_towards l D cI cM cS cJ s.heap.size x2 x3 2 rfl) gX12_movesBy_X12_towards rfl kdS_X12_towards [] ⟨rfl, rfl⟩ ⟨Nat.le_of_ble_eq_true rfl, Nat.le_of_ble_eq_true rfl⟩ ⟨Nat.zero_le _, Nat.zero_le _⟩ rfl rfl (by decide +kernel) rfl rfl rfl (Nat.le_of_ble_eq_true rfl) dX12_movesBy_99 rfl (fun H locs hP hD hS => ?_)
                  refine lv_goto (tgt := 106) hx hb dX12_movesBy_102 (by decide) ?_
                  cases h
                  exact hret _ _ _ _ hP hS dX12_movesBy_106
              · have h := k_neg s1_7 h
                refine lv_tableOut (tgt := 107) hx hb dX12_movesBy_1 (k_out [1, 2, 3, 4, 5, 6, 7] (by decide) (List.forall_mem_cons.mpr ⟨s1_1, (List.forall_mem_cons.mpr ⟨s1_2, (List.forall_mem_cons.mpr ⟨s1_3, (List.forall_mem_cons.mpr ⟨s1_4, (List.forall_mem_cons.mpr ⟨s1_5, (List.forall_mem_cons.mpr ⟨s1_6, (List.forall_mem_cons.mpr ⟨s1_7, (fun _ z => absurd z List.not_mem_nil)⟩)⟩)⟩)⟩)⟩)⟩)⟩)) (by decide) ?_
                refine lv_iload_n hx hb dX12_movesBy_107 rfl (lv_at hl 2 rfl) ?_
                refine lv_iload_n hx hb dX12_movesBy_108 rfl (lv_at hl 3 rfl) ?_
                refine lv_iconst (v := 1) hx hb dX12_movesBy_109 (by decide) ?_
                refine k_callS (As := [.int x2, .int x3, .int 1]) (rest := []) (st1 := [.int (S_MD_towards x2 x3 1)]) (ws2 := (Wd0)) hx hb hml hown hts hK hN hA hP hD hS hl (c_MD_towards l D cI cM cS cJ s.heap.size x2 x3 1 rfl) gX12_movesBy_X12_towards rfl kdS_X12_towards [] ⟨rfl, rfl⟩ ⟨Nat.le_of_ble_eq_true rfl, Nat.le_of_ble_eq_true rfl⟩ ⟨Nat.zero_le _, Nat.zero_le _⟩ rfl rfl (by decide +kernel) rfl rfl rfl (Nat.le_of_ble_eq_true rfl) dX12_movesBy_110 rfl (fun H locs hP hD hS => ?_)
                cases h
                exact hret _ _ _ _ hP hS dX12_movesBy_113
abbrev rm_X12_uprightBy : Room := { frames := 0, cells := 0, slots := 0, locals := 0 }
set_option maxHeartbeats 4000000 in
set_option maxRecDepth 100000 in
theorem c_MD_uprightBy (l : Launch) (D : va_G) (cI cM cS cJ : ClassId) (sz : Nat) (x0 : Int32) (x1 : Int32) {o : (Int32)} (hsem : S_MD_uprightBy x0 x1 = o) : kMet l yX12_uprightBy wsX12_uprightBy rm_X12_uprightBy [.int x0, .int x1] D (kT cI cM cS cJ) (Wd0) sz (some (.int o)) (Wd0) := by
  refine k_metI (by decide) rfl rfl (Nat.le_of_ble_eq_true rfl) ?_
  intro p e s m below meth c ls Q A hx hb hml hts hown hK hN hA hP hD hS hl hsz hnm hret
  have hown : s.vm.findClass RX12 = some m.cls := hown
  replace hl : lv_has ls 2 [(0, .int x0), (1, .int x1)] := hl
  have h := hsem
  clear hsem
  rw [S_MD_uprightBy] at h
  refine lv_iload_n hx hb dX12_uprightBy_0 rfl (lv_at hl 0 rfl) ?_
  by_cases s1_1 : x0 = 1
  · refine k_tblI (tgt := 44) (v := 1) hx hb dX12_uprightBy_1 s1_1 (by decide) (by decide) rfl (by decide) ?_
    have h := k_pos s1_1 h
    refine lv_iload_n hx hb dX12_uprightBy_44 rfl (lv_at hl 1 rfl) ?_
    cases h
    exact hret _ _ _ _ hP hS dX12_uprightBy_45
  · have h := k_neg s1_1 h
    by_cases s1_2 : x0 = 2
    · refine k_tblI (tgt := 46) (v := 2) hx hb dX12_uprightBy_1 s1_2 (by decide) (by decide) rfl (by decide) ?_
      have h := k_pos s1_2 h
      refine lv_iconst (v := 0) hx hb dX12_uprightBy_46 (by decide) ?_
      cases h
      exact hret _ _ _ _ hP hS dX12_uprightBy_47
    · have h := k_neg s1_2 h
      by_cases s1_3 : x0 = 3
      · refine k_tblI (tgt := 48) (v := 3) hx hb dX12_uprightBy_1 s1_3 (by decide) (by decide) rfl (by decide) ?_
        have h := k_pos s1_3 h
        refine lv_bipush (v := 8) hx hb dX12_uprightBy_48 (by decide) ?_
        cases h
        exact hret _ _ _ _ hP hS dX12_uprightBy_50
      · have h := k_neg s1_3 h
        by_cases s1_4 : x0 = 4
        · refine k_tblI (tgt := 51) (v := 4) hx hb dX12_uprightBy_1 s1_4 (by decide) (by decide) rfl (by decide) ?_
          have h := k_pos s1_4 h
          refine lv_iconst (v := 2) hx hb dX12_uprightBy_51 (by decide) ?_
          refine lv_iload_n hx hb dX12_uprightBy_52 rfl (lv_at hl 1 rfl) ?_
          refine lv_imul hx hb dX12_uprightBy_53 ?_
          cases h
          exact hret _ _ _ _ hP hS dX12_uprightBy_54
        · have h := k_neg s1_4 h
          by_cases s1_5 : x0 = 5
          · refine k_tblI (tgt := 55) (v := 5) hx hb dX12_uprightBy_1 s1_5 (by decide) (by decide) rfl (by decide) ?_
            have h := k_pos s1_5 h
            refine lv_bipush (v := 9) hx hb dX12_uprightBy_55 (by decide) ?_
            cases h
            exact hret _ _ _ _ hP hS dX12_uprightBy_57
          · have h := k_neg s1_5 h
            by_cases s1_6 : x0 = 6
            · refine k_tblI (tgt := 51) (v := 6) hx hb dX12_uprightBy_1 s1_6 (by decide) (by decide) rfl (by decide) ?_
              have h := k_pos s1_6 h
              refine lv_iconst (v := 2) hx hb dX12_uprightBy_51 (by decide) ?_
              refine lv_iload_n hx hb dX12_uprightBy_52 rfl (lv_at hl 1 rfl) ?_
              refine lv_imul hx hb dX12_uprightBy_53 ?_
              cases h
              exact hret _ _ _ _ hP hS dX12_uprightBy_54
            · have h := k_neg s1_6 h
              by_cases s1_7 : x0 = 7
              · refine k_tblI (tgt := 48) (v := 7) hx hb dX12_uprightBy_1 s1_7 (by decide) (by decide) rfl (by decide) ?_
                have h := k_pos s1_7 h
                refine lv_bipush (v := 8) hx hb dX12_uprightBy_48 (by decide) ?_
                cases h
                exact hret _ _ _ _ hP hS dX12_uprightBy_50
              · have h := k_neg s1_7 h
                refine lv_tableOut (tgt := 58) hx hb dX12_uprightBy_1 (k_out [1, 2, 3, 4, 5, 6, 7] (by decide) (List.forall_mem_cons.mpr ⟨s1_1, (List.forall_mem_cons.mpr ⟨s1_2, (List.forall_mem_cons.mpr ⟨s1_3, (List.forall_mem_cons.mpr ⟨s1_4, (List.forall_mem_cons.mpr ⟨s1_5, (List.forall_mem_cons.mpr ⟨s1_6, (List.forall_mem_cons.mpr ⟨s1_7, (fun _ z => absurd z List.not_mem_nil)⟩)⟩)⟩)⟩)⟩)⟩)⟩)) (by decide) ?_
                refine lv_iconst (v := 5) hx hb dX12_uprightBy_58 (by decide) ?_
                cases h
                exact hret _ _ _ _ hP hS dX12_uprightBy_59
abbrev rm_X12_discountBy : Room := { frames := 1, cells := 0, slots := 0, locals := 20 }
set_option maxHeartbeats 4000000 in
set_option maxRecDepth 100000 in
theorem c_MD_discountBy (l : Launch) (D : va_G) (cI cM cS cJ : ClassId) (sz : Nat) (x0 : Int32) (x1 : Int32) (x2 : Int32) {o : (Int32)} (hsem : S_MD_discountBy x0 x1 x2 = o) : kMet l yX12_discountBy wsX12_discountBy rm_X12_discountBy [.int x0, .int x1, .int x2] D (kT cI cM cS cJ) (Wd0) sz (some (.int o)) (Wd0) := by
  refine k_metI (by decide) rfl rfl (Nat.le_of_ble_eq_true rfl) ?_
  intro p e s m below meth c ls Q A hx hb hml hts hown hK hN hA hP hD hS hl hsz hnm hret
  have hown : s.vm.findClass RX12 = some m.cls := hown
  replace hl : lv_has ls 4 [(0, .int x0), (1, .int x1), (2, .int x2)] := hl
  have h := hsem
  clear hsem
  rw [S_MD_discountBy] at h
  refine lv_iload_n hx hb dX12_discountBy_0 rfl (lv_at hl 2 rfl) ?_
  refine k_callS (As := [.int x2]) (rest := []) (st1 := [.int (S_MD_sized x2)]) (ws2 := (Wd0)) hx hb hml hown hts hK hN hA hP hD hS hl (c_MD_sized l D cI cM cS cJ s.heap.size x2 rfl) gX12_discountBy_X12_sized rfl kdS_X12_sized [] ⟨rfl, rfl⟩ ⟨Nat.le_of_ble_eq_true rfl, Nat.le_of_ble_eq_true rfl⟩ ⟨Nat.zero_le _, Nat.zero_le _⟩ rfl rfl (by decide +kernel) rfl rfl rfl (Nat.le_of_ble_eq_true rfl) dX12_discountBy_1 rfl (fun H locs hP hD hS => ?_)
  refine lv_istore_n (lv' := [(3, .int (S_MD_sized x2)), (0, .int x0), (1, .int x1), (2, .int x2)]) hx hb dX12_discountBy_4 rfl hl (by decide) rfl (fun ls hl => ?_)
  refine lv_iload_n hx hb dX12_discountBy_5 rfl (lv_at hl 1 rfl) ?_
  by_cases s6_1 : x0 = 1
  · refine k_tblI (tgt := 48) (v := 1) hx hb dX12_discountBy_6 s6_1 (by decide) (by decide) rfl (by decide) ?_
    have h := k_pos s6_1 h
    refine lv_iload_n hx hb dX12_discountBy_48 rfl (lv_at hl 0 rfl) ?_
    refine lv_iconst (v := 2) hx hb dX12_discountBy_49 (by decide) ?_
    refine lv_idiv hx hb dX12_discountBy_50 (by decide) ?_
    cases h
    exact hret _ _ _ _ hP hS dX12_discountBy_51
  · have h := k_neg s6_1 h
    by_cases s6_2 : x0 = 2
    · refine k_tblI (tgt := 52) (v := 2) hx hb dX12_discountBy_6 s6_2 (by decide) (by decide) rfl (by decide) ?_
      have h := k_pos s6_2 h
      refine lv_iconst (v := 2) hx hb dX12_discountBy_52 (by decide) ?_
      refine lv_iload_n hx hb dX12_discountBy_53 rfl (lv_at hl 0 rfl) ?_
      refine lv_imul hx hb dX12_discountBy_54 ?_
      cases h
      exact hret _ _ _ _ hP hS dX12_discountBy_55
    · have h := k_neg s6_2 h
      by_cases s6_3 : x0 = 3
      · refine k_tblI (tgt := 68) (v := 3) hx hb dX12_discountBy_6 s6_3 (by decide) (by decide) rfl (by decide) ?_
        have h := k_pos s6_3 h
        refine lv_iload_n hx hb dX12_discountBy_68 rfl (lv_at hl 0 rfl) ?_
        cases h
        exact hret _ _ _ _ hP hS dX12_discountBy_69
      · have h := k_neg s6_3 h
        by_cases s6_4 : x0 = 4
        · refine k_tblI (tgt := 56) (v := 4) hx hb dX12_discountBy_6 s6_4 (by decide) (by decide) rfl (by decide) ?_
          have h := k_pos s6_4 h
          refine lv_iload_n hx hb dX12_discountBy_56 rfl (lv_at hl 0 rfl) ?_
          refine lv_iconst (v := 2) hx hb dX12_discountBy_57 (by decide) ?_
          refine lv_idiv hx hb dX12_discountBy_58 (by decide) ?_
          refine lv_iconst (v := 3) hx hb dX12_discountBy_59 (by decide) ?_
          refine lv_iadd hx hb dX12_discountBy_60 ?_
          cases h
          exact hret _ _ _ _ hP hS dX12_discountBy_61
        · have h := k_neg s6_4 h
          by_cases s6_5 : x0 = 5
          · refine k_tblI (tgt := 62) (v := 5) hx hb dX12_discountBy_6 s6_5 (by decide) (by decide) rfl (by decide) ?_
            have h := k_pos s6_5 h
            refine lv_iconst (v := 0) hx hb dX12_discountBy_62 (by decide) ?_
            cases h
            exact hret _ _ _ _ hP hS dX12_discountBy_63
          · have h := k_neg s6_5 h
            by_cases s6_6 : x0 = 6
            · refine k_tblI (tgt := 62) (v := 6) hx hb dX12_discountBy_6 s6_6 (by decide) (by decide) rfl (by decide) ?_
              have h := k_pos s6_6 h
              refine lv_iconst (v := 0) hx hb dX12_discountBy_62 (by decide) ?_
              cases h
              exact hret _ _ _ _ hP hS dX12_discountBy_63
            · have h := k_neg s6_6 h
              by_cases s6_7 : x0 = 7
              · refine k_tblI (tgt := 64) (v := 7) hx hb dX12_discountBy_6 s6_7 (by decide) (by decide) rfl (by decide) ?_
                have h := k_pos s6_7 h
                refine lv_iload_n hx hb dX12_discountBy_64 rfl (lv_at hl 0 rfl) ?_
                refine lv_iload_n hx hb dX12_discountBy_65 rfl (lv_at hl 2 rfl) ?_
                refine lv_iadd hx hb dX12_discountBy_66 ?_
                cases h
                exact hret _ _ _ _ hP hS dX12_discountBy_67
              · have h := k_neg s6_7 h
                refine lv_tableOut (tgt := 68) hx hb dX12_discountBy_6 (k_out [1, 2, 3, 4, 5, 6, 7] (by decide) (List.forall_mem_cons.mpr ⟨s6_1, (List.forall_mem_cons.mpr ⟨s6_2, (List.forall_mem_cons.mpr ⟨s6_3, (List.forall_mem_cons.mpr ⟨s6_4, (List.forall_mem_cons.mpr ⟨s6_5, (List.forall_mem_cons.mpr ⟨s6_6, (List.forall_mem_cons.mpr ⟨s6_7, (fun _ z => absurd z List.not_mem_nil)⟩)⟩)⟩)⟩)⟩)⟩)⟩)) (by decide) ?_
                refine lv_iload_n hx hb dX12_discountBy_68 rfl (lv_at hl 0 rfl) ?_
                cases h
                exact hret _ _ _ _ hP hS dX12_discountBy_69
abbrev Wd41 (cI : ClassId) (a0 : Nat) (r0_a : Nat → Int32) : va_W := [(a0, .inl (cI, 37, .inl r0_a))]
theorem kdS_X12_of : yX12_of.cls ≠ "java/lang/invoke/MethodHandle" ∧ yX12_of.cls ≠ "java/lang/invoke/VarHandle" ∧ (parseMethodDescriptor yX12_of.desc).map (fun d => d.parameters.length) = some 2 := by decide +kernel
theorem kdS_X12_uprightBy : yX12_uprightBy.cls ≠ "java/lang/invoke/MethodHandle" ∧ yX12_uprightBy.cls ≠ "java/lang/invoke/VarHandle" ∧ (parseMethodDescriptor yX12_uprightBy.desc).map (fun d => d.parameters.length) = some 2 := by decide +kernel
abbrev rm_X12_isUprightBy : Room := { frames := 1, cells := 0, slots := 0, locals := 21 }
set_option maxHeartbeats 4000000 in
set_option maxRecDepth 100000 in
theorem c_MD_isUprightBy (l : Launch) (D : va_G) (cI cM cS cJ : ClassId) (a0 : Nat) (sz : Nat) (x1 : Int32) (x2 : Int32) (r0_a : Nat → Int32) {o : (Int32)} (hsem : S_MD_isUprightBy x1 x2 r0_a = some o) : kMet l yX12_isUprightBy wsX12_isUprightBy rm_X12_isUprightBy [.ref a0, .int x1, .int x2] D (kT cI cM cS cJ) (Wd41 cI a0 r0_a) sz (some (.int o)) (Wd41 cI a0 r0_a) := by
  refine k_metZ (by decide) rfl rfl (Nat.le_of_ble_eq_true rfl) ?_
  intro p e s m below meth c ls Q A hx hb hml hts hown hK hN hA hP hD hS hl hsz hnm hret
  have hown : s.vm.findClass RX12 = some m.cls := hown
  replace hl : lv_has ls 3 [(0, .ref a0), (1, .int x1), (2, .int x2)] := hl
  have h := hsem
  clear hsem
  rw [S_MD_isUprightBy] at h
  refine lv_iload_n hx hb dX12_isUprightBy_0 rfl (lv_at hl 2 rfl) ?_
  refine k_callS (As := [.int x2]) (rest := []) (st1 := [.int (S_MD_sized x2)]) (ws2 := (Wd41 cI a0 r0_a)) hx hb hml hown hts hK hN hA hP hD hS hl (c_MD_sized l D cI cM cS cJ s.heap.size x2 rfl) gX12_isUprightBy_X12_sized rfl kdS_X12_sized [] ⟨rfl, rfl⟩ ⟨Nat.le_of_ble_eq_true rfl, Nat.le_of_ble_eq_true rfl⟩ ⟨Nat.zero_le _, Nat.zero_le _⟩ rfl rfl (by decide +kernel) rfl rfl rfl (Nat.le_of_ble_eq_true rfl) dX12_isUprightBy_1 rfl (fun H locs hP hD hS => ?_)
  refine lv_aload_n hx hb dX12_isUprightBy_4 rfl (lv_at hl 0 rfl) ?_
  refine lv_iload_n hx hb dX12_isUprightBy_5 rfl (lv_at hl 1 rfl) ?_
  refine lv_iconst (v := 0) hx hb dX12_isUprightBy_6 (by decide) ?_
  refine k_callS (As := [.int x1, .int 0]) (rest := [.ref a0, .int (S_MD_sized x2)]) (st1 := [.int (S_MD_of x1 0), .ref a0, .int (S_MD_sized x2)]) (ws2 := (Wd41 cI a0 r0_a)) hx hb hml hown hts hK hN hA hP hD hS hl (c_MD_of l D cI cM cS cJ H.size x1 0 rfl) gX12_isUprightBy_X12_of rfl kdS_X12_of [] ⟨rfl, rfl⟩ ⟨Nat.le_of_ble_eq_true rfl, Nat.le_of_ble_eq_true rfl⟩ ⟨Nat.zero_le _, Nat.zero_le _⟩ rfl rfl (by decide +kernel) rfl rfl rfl (Nat.le_of_ble_eq_true rfl) dX12_isUprightBy_7 rfl (fun H locs hP hD hS => ?_)
  obtain ⟨g10, h⟩ := k_guard h
  refine va_iald hx hb hK hP 0 0 rfl rfl g10 dX12_isUprightBy_10 ?_
  refine lv_aload_n hx hb dX12_isUprightBy_11 rfl (lv_at hl 0 rfl) ?_
  refine lv_iload_n hx hb dX12_isUprightBy_12 rfl (lv_at hl 1 rfl) ?_
  refine lv_iconst (v := 1) hx hb dX12_isUprightBy_13 (by decide) ?_
  refine k_callS (As := [.int x1, .int 1]) (rest := [.ref a0, .int (r0_a (S_MD_of x1 0).toNatClampNeg), .int (S_MD_sized x2)]) (st1 := [.int (S_MD_of x1 1), .ref a0, .int (r0_a (S_MD_of x1 0).toNatClampNeg), .int (S_MD_sized x2)]) (ws2 := (Wd41 cI a0 r0_a)) hx hb hml hown hts hK hN hA hP hD hS hl (c_MD_of l D cI cM cS cJ H.size x1 1 rfl) gX12_isUprightBy_X12_of rfl kdS_X12_of [] ⟨rfl, rfl⟩ ⟨Nat.le_of_ble_eq_true rfl, Nat.le_of_ble_eq_true rfl⟩ ⟨Nat.zero_le _, Nat.zero_le _⟩ rfl rfl (by decide +kernel) rfl rfl rfl (Nat.le_of_ble_eq_true rfl) dX12_isUprightBy_14 rfl (fun H locs hP hD hS => ?_)
  obtain ⟨g17, h⟩ := k_guard h
  refine va_iald hx hb hK hP 0 0 rfl rfl g17 dX12_isUprightBy_17 ?_
  refine k_callS (As := [.int (r0_a (S_MD_of x1 0).toNatClampNeg), .int (r0_a (S_MD_of x1 1).toNatClampNeg)]) (rest := [.int (S_MD_sized x2)]) (st1 := [.int (S_MD_uprightBy (r0_a (S_MD_of x1 0).toNatClampNeg) (r0_a (S_MD_of x1 1).toNatClampNeg)), .int (S_MD_sized x2)]) (ws2 := (Wd41 cI a0 r0_a)) hx hb hml hown hts hK hN hA hP hD hS hl (c_MD_uprightBy l D cI cM cS cJ H.size (r0_a (S_MD_of x1 0).toNatClampNeg) (r0_a (S_MD_of x1 1).toNatClampNeg) rfl) gX12_isUprightBy_X12_uprightBy rfl kdS_X12_uprightBy [] ⟨rfl, rfl⟩ ⟨Nat.le_of_ble_eq_true rfl, Nat.le_of_ble_eq_true rfl⟩ ⟨Nat.zero_le _, Nat.zero_le _⟩ rfl rfl (by decide +kernel) rfl rfl rfl (Nat.le_of_ble_eq_true rfl) dX12_isUprightBy_18 rfl (fun H locs hP hD hS => ?_)
  refine lv_icmp_gt (tgt := 28) hx hb dX12_isUprightBy_21 (by decide) (fun c21 => ?_) (fun c21 => ?_)
  · have h := k_pos c21 h
    refine lv_iconst (v := 0) hx hb dX12_isUprightBy_28 (by decide) ?_
    cases h
    exact hret _ _ _ _ rfl hP hS dX12_isUprightBy_29
  · have h := k_neg c21 h
    refine lv_iconst (v := 1) hx hb dX12_isUprightBy_24 (by decide) ?_
    refine lv_goto (tgt := 29) hx hb dX12_isUprightBy_25 (by decide) ?_
    cases h
    exact hret _ _ _ _ rfl hP hS dX12_isUprightBy_29
theorem kdS_X12_isUprightBy : yX12_isUprightBy.cls ≠ "java/lang/invoke/MethodHandle" ∧ yX12_isUprightBy.cls ≠ "java/lang/invoke/VarHandle" ∧ (parseMethodDescriptor yX12_isUprightBy.desc).map (fun d => d.parameters.length) = some 3 := by decide +kernel
abbrev rm_X12_upright : Room := { frames := 2, cells := 0, slots := 0, locals := 43 }
set_option maxHeartbeats 4000000 in
set_option maxRecDepth 100000 in
theorem c_MD_upright (l : Launch) (D : va_G) (cI cM cS cJ : ClassId) (a0 : Nat) (sz : Nat) (r0_a : Nat → Int32) {o : (Int32)} (hsem : S_MD_upright r0_a = some o) : kMet l yX12_upright wsX12_upright rm_X12_upright [.ref a0] D (kT cI cM cS cJ) (Wd41 cI a0 r0_a) sz (some (.int o)) (Wd41 cI a0 r0_a) := by
  refine k_metI (by decide) rfl rfl (Nat.le_of_ble_eq_true rfl) ?_
  intro p e s m below meth c ls Q A hx hb hml hts hown hK hN hA hP hD hS hl hsz hnm hret
  have hown : s.vm.findClass RX12 = some m.cls := hown
  replace hl : lv_has ls 3 [(0, .ref a0)] := hl
  have h := hsem
  clear hsem
  rw [S_MD_upright] at h
  refine lv_iconst (v := 0) hx hb dX12_upright_0 (by decide) ?_
  refine lv_istore_n (lv' := [(1, .int 0), (0, .ref a0)]) hx hb dX12_upright_1 rfl hl (by decide) rfl (fun ls hl => ?_)
  refine lv_iconst (v := 0) hx hb dX12_upright_2 (by decide) ?_
  have B4 : ∀ (n4 : Nat) (y1 : Int32) (y2 : Int32) (H : Heap) (locs : List Loc) (ls : Array Slot), va_P D vwCl (Wd41 cI a0 r0_a) H → va_D A (Wd41 cI a0 r0_a) → va_S A s.heap H locs → lv_has ls 3 [(0, .ref a0), (1, .int y1), (2, .int y2)] → S_MD_upright_L4 r0_a n4 y1 y2 = some o → W p l e rm_X12_upright s m ([.ref a0] : List Value).toArray below meth c H locs 0 0 Q (F0 m 4 ls []) := by
    intro n4
    induction n4 with
    | zero => intro y1 y2 H locs ls hP hD hS hl h; exact absurd h (by simp [S_MD_upright_L4])
    | succ n4 ih4 =>
      intro y1 y2 H locs ls hP hD hS hl h
      rw [S_MD_upright_L4] at h
      refine lv_iload_n hx hb dX12_upright_4 rfl (lv_at hl 2 rfl) ?_
      refine lv_aload_n hx hb dX12_upright_5 rfl (lv_at hl 0 rfl) ?_
      refine lv_iconst (v := 0) hx hb dX12_upright_6 (by decide) ?_
      refine va_iald hx hb hK hP 0 0 rfl rfl (by decide) dX12_upright_7 ?_
      refine lv_icmp_ge (tgt := 42) hx hb dX12_upright_8 (by decide) (fun c8 => ?_) (fun c8 => ?_)
      · have h := k_pos c8 h
        refine lv_iload_n hx hb dX12_upright_42 rfl (lv_at hl 1 rfl) ?_
        cases h
        exact hret _ _ _ _ hP hS dX12_upright_43
      · have h := k_neg c8 h
        refine lv_iload_n hx hb dX12_upright_11 rfl (lv_at hl 1 rfl) ?_
        refine lv_aload_n hx hb dX12_upright_12 rfl (lv_at hl 0 rfl) ?_
        refine lv_iload_n hx hb dX12_upright_13 rfl (lv_at hl 2 rfl) ?_
        refine lv_aload_n hx hb dX12_upright_14 rfl (lv_at hl 0 rfl) ?_
        refine lv_iload_n hx hb dX12_upright_15 rfl (lv_at hl 2 rfl) ?_
        refine lv_iconst (v := 2) hx hb dX12_upright_16 (by decide) ?_
        refine k_callS (As := [.int y2, .int 2]) (rest := [.ref a0, .int y2, .ref a0, .int y1]) (st1 := [.int (S_MD_of y2 2), .ref a0, .int y2, .ref a0, .int y1]) (ws2 := (Wd41 cI a0 r0_a)) hx hb hml hown hts hK hN hA hP hD hS hl (c_MD_of l D cI cM cS cJ H.size y2 2 rfl) gX12_upright_X12_of rfl kdS_X12_of [] ⟨rfl, rfl⟩ ⟨Nat.le_of_ble_eq_true rfl, Nat.le_of_ble_eq_true rfl⟩ ⟨Nat.zero_le _, Nat.zero_le _⟩ rfl rfl (by decide +kernel) rfl rfl rfl (Nat.le_of_ble_eq_true rfl) dX12_upright_17 rfl (fun H locs hP hD hS => ?_)
        obtain ⟨g20, h⟩ := k_guard h
        refine va_iald hx hb hK hP 0 0 rfl rfl g20 dX12_upright_20 ?_
        obtain ⟨r21, g21, h⟩ := k_bind h
        refine k_callS (As := [.ref a0, .int y2, .int (r0_a (S_MD_of y2 2).toNatClampNeg)]) (rest := [.int y1]) (st1 := [.int r21, .int y1]) (ws2 := (Wd41 cI a0 r0_a)) hx hb hml hown hts hK hN hA hP hD hS hl (c_MD_isUprightBy l D cI cM cS cJ a0 H.size y2 (r0_a (S_MD_of y2 2).toNatClampNeg) r0_a g21) gX12_upright_X12_isUprightBy rfl kdS_X12_isUprightBy [0] ⟨rfl, rfl⟩ ⟨Nat.le_of_ble_eq_true rfl, Nat.le_of_ble_eq_true rfl⟩ ⟨Nat.zero_le _, Nat.zero_le _⟩ rfl rfl (by decide +kernel) rfl rfl rfl (Nat.le_of_ble_eq_true rfl) dX12_upright_21 rfl (fun H locs hP hD hS => ?_)
        refine lv_if_eq (tgt := 33) hx hb dX12_upright_24 (by decide) (fun c24 => ?_) (fun c24 => ?_)
        · have h := k_pos c24 h
          refine lv_iconst (v := 0) hx hb dX12_upright_33 (by decide) ?_
          refine lv_ior hx hb dX12_upright_34 ?_
          refine lv_istore_n (lv' := [(1, .int (y1 ||| 0)), (0, .ref a0), (2, .int y2)]) hx hb dX12_upright_35 rfl hl (by decide) rfl (fun ls hl => ?_)
          refine lv_iinc (v := (y2 + 1)) (lv' := [(2, .int (y2 + 1)), (1, .int (y1 ||| 0)), (0, .ref a0)]) hx hb dX12_upright_36 hl (k := 2) rfl (by first | rfl | decide) (by decide) rfl (fun ls hl => ?_)
          refine lv_goto (tgt := 4) hx hb dX12_upright_39 (by decide) ?_
          exact ih4 (y1 ||| 0) (y2 + 1) H locs ls hP hD hS (lv_sub hl [2, 1, 0] rfl) h
        · have h := k_neg c24 h
          refine lv_iconst (v := 1) hx hb dX12_upright_27 (by decide) ?_
          refine lv_iload_n hx hb dX12_upright_28 rfl (lv_at hl 2 rfl) ?_
          refine lv_ishl hx hb dX12_upright_29 ?_
          refine lv_goto (tgt := 34) hx hb dX12_upright_30 (by decide) ?_
          refine lv_ior hx hb dX12_upright_34 ?_
          refine lv_istore_n (lv' := [(1, .int (y1 ||| ((1 : Int32) <<< (y2 &&& 31)))), (0, .ref a0), (2, .int y2)]) hx hb dX12_upright_35 rfl hl (by decide) rfl (fun ls hl => ?_)
          refine lv_iinc (v := (y2 + 1)) (lv' := [(2, .int (y2 + 1)), (1, .int (y1 ||| ((1 : Int32) <<< (y2 &&& 31)))), (0, .ref a0)]) hx hb dX12_upright_36 hl (k := 2) rfl (by first | rfl | decide) (by decide) rfl (fun ls hl => ?_)
          refine lv_goto (tgt := 4) hx hb dX12_upright_39 (by decide) ?_
          exact ih4 (y1 ||| ((1 : Int32) <<< (y2 &&& 31))) (y2 + 1) H locs ls hP hD hS (lv_sub hl [2, 1, 0] rfl) h
  refine lv_istore_n (lv' := [(2, .int 0), (1, .int 0), (0, .ref a0)]) hx hb dX12_upright_3 rfl hl (by decide) rfl (fun ls hl => ?_)
  exact B4 lfu 0 0 s.heap [] ls hP hD hS (lv_sub hl [2, 1, 0] rfl) h
abbrev rm_X12_leanSum : Room := { frames := 1, cells := 0, slots := 0, locals := 21 }
set_option maxHeartbeats 4000000 in
set_option maxRecDepth 100000 in
theorem c_MD_leanSum (l : Launch) (D : va_G) (cI cM cS cJ : ClassId) (a0 : Nat) (sz : Nat) (r0_a : Nat → Int32) {o : (Int32)} (hsem : S_MD_leanSum r0_a = some o) : kMet l yX12_leanSum wsX12_leanSum rm_X12_leanSum [.ref a0] D (kT cI cM cS cJ) (Wd41 cI a0 r0_a) sz (some (.int o)) (Wd41 cI a0 r0_a) := by
  refine k_metI (by decide) rfl rfl (Nat.le_of_ble_eq_true rfl) ?_
  intro p e s m below meth c ls Q A hx hb hml hts hown hK hN hA hP hD hS hl hsz hnm hret
  have hown : s.vm.findClass RX12 = some m.cls := hown
  replace hl : lv_has ls 3 [(0, .ref a0)] := hl
  have h := hsem
  clear hsem
  rw [S_MD_leanSum] at h
  refine lv_iconst (v := 0) hx hb dX12_leanSum_0 (by decide) ?_
  refine lv_istore_n (lv' := [(1, .int 0), (0, .ref a0)]) hx hb dX12_leanSum_1 rfl hl (by decide) rfl (fun ls hl => ?_)
  refine lv_iconst (v := 0) hx hb dX12_leanSum_2 (by decide) ?_
  have B4 : ∀ (n4 : Nat) (y1 : Int32) (y2 : Int32) (H : Heap) (locs : List Loc) (ls : Array Slot), va_P D vwCl (Wd41 cI a0 r0_a) H → va_D A (Wd41 cI a0 r0_a) → va_S A s.heap H locs → lv_has ls 3 [(0, .ref a0), (1, .int y1), (2, .int y2)] → S_MD_leanSum_L4 r0_a n4 y1 y2 = some o → W p l e rm_X12_leanSum s m ([.ref a0] : List Value).toArray below meth c H locs 0 0 Q (F0 m 4 ls []) := by
    intro n4
    induction n4 with
    | zero => intro y1 y2 H locs ls hP hD hS hl h; exact absurd h (by simp [S_MD_leanSum_L4])
    | succ n4 ih4 =>
      intro y1 y2 H locs ls hP hD hS hl h
      rw [S_MD_leanSum_L4] at h
      refine lv_iload_n hx hb dX12_leanSum_4 rfl (lv_at hl 2 rfl) ?_
      refine lv_aload_n hx hb dX12_leanSum_5 rfl (lv_at hl 0 rfl) ?_
      refine lv_iconst (v := 0) hx hb dX12_leanSum_6 (by decide) ?_
      refine va_iald hx hb hK hP 0 0 rfl rfl (by decide) dX12_leanSum_7 ?_
      refine lv_icmp_ge (tgt := 27) hx hb dX12_leanSum_8 (by decide) (fun c8 => ?_) (fun c8 => ?_)
      · have h := k_pos c8 h
        refine lv_iload_n hx hb dX12_leanSum_27 rfl (lv_at hl 1 rfl) ?_
        cases h
        exact hret _ _ _ _ hP hS dX12_leanSum_28
      · have h := k_neg c8 h
        refine lv_iload_n hx hb dX12_leanSum_11 rfl (lv_at hl 1 rfl) ?_
        refine lv_aload_n hx hb dX12_leanSum_12 rfl (lv_at hl 0 rfl) ?_
        refine lv_iload_n hx hb dX12_leanSum_13 rfl (lv_at hl 2 rfl) ?_
        refine lv_iconst (v := 2) hx hb dX12_leanSum_14 (by decide) ?_
        refine k_callS (As := [.int y2, .int 2]) (rest := [.ref a0, .int y1]) (st1 := [.int (S_MD_of y2 2), .ref a0, .int y1]) (ws2 := (Wd41 cI a0 r0_a)) hx hb hml hown hts hK hN hA hP hD hS hl (c_MD_of l D cI cM cS cJ H.size y2 2 rfl) gX12_leanSum_X12_of rfl kdS_X12_of [] ⟨rfl, rfl⟩ ⟨Nat.le_of_ble_eq_true rfl, Nat.le_of_ble_eq_true rfl⟩ ⟨Nat.zero_le _, Nat.zero_le _⟩ rfl rfl (by decide +kernel) rfl rfl rfl (Nat.le_of_ble_eq_true rfl) dX12_leanSum_15 rfl (fun H locs hP hD hS => ?_)
        obtain ⟨g18, h⟩ := k_guard h
        refine va_iald hx hb hK hP 0 0 rfl rfl g18 dX12_leanSum_18 ?_
        refine lv_iadd hx hb dX12_leanSum_19 ?_
        refine lv_istore_n (lv' := [(1, .int (y1 + (r0_a (S_MD_of y2 2).toNatClampNeg))), (0, .ref a0), (2, .int y2)]) hx hb dX12_leanSum_20 rfl hl (by decide) rfl (fun ls hl => ?_)
        refine lv_iinc (v := (y2 + 1)) (lv' := [(2, .int (y2 + 1)), (1, .int (y1 + (r0_a (S_MD_of y2 2).toNatClampNeg))), (0, .ref a0)]) hx hb dX12_leanSum_21 hl (k := 2) rfl (by first | rfl | decide) (by decide) rfl (fun ls hl => ?_)
        refine lv_goto (tgt := 4) hx hb dX12_leanSum_24 (by decide) ?_
        exact ih4 (y1 + (r0_a (S_MD_of y2 2).toNatClampNeg)) (y2 + 1) H locs ls hP hD hS (lv_sub hl [2, 1, 0] rfl) h
  refine lv_istore_n (lv' := [(2, .int 0), (1, .int 0), (0, .ref a0)]) hx hb dX12_leanSum_3 rfl hl (by decide) rfl (fun ls hl => ?_)
  exact B4 lfu 0 0 s.heap [] ls hP hD hS (lv_sub hl [2, 1, 0] rfl) h
abbrev rm_X12_plumb : Room := { frames := 1, cells := 0, slots := 0, locals := 21 }
set_option maxHeartbeats 4000000 in
set_option maxRecDepth 100000 in
theorem c_MD_plumb (l : Launch) (D : va_G) (cI cM cS cJ : ClassId) (a0 : Nat) (sz : Nat) (r0_a : Nat → Int32) {o : (Int32)} (hsem : S_MD_plumb r0_a = some o) : kMet l yX12_plumb wsX12_plumb rm_X12_plumb [.ref a0] D (kT cI cM cS cJ) (Wd41 cI a0 r0_a) sz (some (.int o)) (Wd41 cI a0 r0_a) := by
  refine k_metI (by decide) rfl rfl (Nat.le_of_ble_eq_true rfl) ?_
  intro p e s m below meth c ls Q A hx hb hml hts hown hK hN hA hP hD hS hl hsz hnm hret
  have hown : s.vm.findClass RX12 = some m.cls := hown
  replace hl : lv_has ls 3 [(0, .ref a0)] := hl
  have h := hsem
  clear hsem
  rw [S_MD_plumb] at h
  refine lv_bipush (v := (-4)) hx hb dX12_plumb_0 (by decide) ?_
  refine lv_istore_n (lv' := [(1, .int (-4)), (0, .ref a0)]) hx hb dX12_plumb_2 rfl hl (by decide) rfl (fun ls hl => ?_)
  refine lv_iconst (v := 0) hx hb dX12_plumb_3 (by decide) ?_
  have B5 : ∀ (n5 : Nat) (y1 : Int32) (y2 : Int32) (H : Heap) (locs : List Loc) (ls : Array Slot), va_P D vwCl (Wd41 cI a0 r0_a) H → va_D A (Wd41 cI a0 r0_a) → va_S A s.heap H locs → lv_has ls 3 [(0, .ref a0), (1, .int y1), (2, .int y2)] → S_MD_plumb_L5 r0_a n5 y1 y2 = some o → W p l e rm_X12_plumb s m ([.ref a0] : List Value).toArray below meth c H locs 0 0 Q (F0 m 5 ls []) := by
    intro n5
    induction n5 with
    | zero => intro y1 y2 H locs ls hP hD hS hl h; exact absurd h (by simp [S_MD_plumb_L5])
    | succ n5 ih5 =>
      intro y1 y2 H locs ls hP hD hS hl h
      rw [S_MD_plumb_L5] at h
      refine lv_iload_n hx hb dX12_plumb_5 rfl (lv_at hl 2 rfl) ?_
      refine lv_aload_n hx hb dX12_plumb_6 rfl (lv_at hl 0 rfl) ?_
      refine lv_iconst (v := 0) hx hb dX12_plumb_7 (by decide) ?_
      refine va_iald hx hb hK hP 0 0 rfl rfl (by decide) dX12_plumb_8 ?_
      refine lv_icmp_ge (tgt := 47) hx hb dX12_plumb_9 (by decide) (fun c9 => ?_) (fun c9 => ?_)
      · have h := k_pos c9 h
        refine lv_iload_n hx hb dX12_plumb_47 rfl (lv_at hl 1 rfl) ?_
        cases h
        exact hret _ _ _ _ hP hS dX12_plumb_48
      · have h := k_neg c9 h
        refine lv_iload_n hx hb dX12_plumb_12 rfl (lv_at hl 1 rfl) ?_
        refine lv_if_lt (tgt := 39) hx hb dX12_plumb_13 (by decide) (fun c13 => ?_) (fun c13 => ?_)
        · have h := k_pos c13 h
          refine lv_iload_n hx hb dX12_plumb_39 rfl (lv_at hl 2 rfl) ?_
          refine lv_istore_n (lv' := [(1, .int y2), (0, .ref a0), (2, .int y2)]) hx hb dX12_plumb_40 rfl hl (by decide) rfl (fun ls hl => ?_)
          refine lv_iinc (v := (y2 + 1)) (lv' := [(2, .int (y2 + 1)), (1, .int y2), (0, .ref a0)]) hx hb dX12_plumb_41 hl (k := 2) rfl (by first | rfl | decide) (by decide) rfl (fun ls hl => ?_)
          refine lv_goto (tgt := 5) hx hb dX12_plumb_44 (by decide) ?_
          exact ih5 y2 (y2 + 1) H locs ls hP hD hS (lv_sub hl [2, 1, 0] rfl) h
        · have h := k_neg c13 h
          refine lv_aload_n hx hb dX12_plumb_16 rfl (lv_at hl 0 rfl) ?_
          refine lv_iload_n hx hb dX12_plumb_17 rfl (lv_at hl 2 rfl) ?_
          refine lv_iconst (v := 2) hx hb dX12_plumb_18 (by decide) ?_
          refine k_callS (As := [.int y2, .int 2]) (rest := [.ref a0]) (st1 := [.int (S_MD_of y2 2), .ref a0]) (ws2 := (Wd41 cI a0 r0_a)) hx hb hml hown hts hK hN hA hP hD hS hl (c_MD_of l D cI cM cS cJ H.size y2 2 rfl) gX12_plumb_X12_of rfl kdS_X12_of [] ⟨rfl, rfl⟩ ⟨Nat.le_of_ble_eq_true rfl, Nat.le_of_ble_eq_true rfl⟩ ⟨Nat.zero_le _, Nat.zero_le _⟩ rfl rfl (by decide +kernel) rfl rfl rfl (Nat.le_of_ble_eq_true rfl) dX12_plumb_19 rfl (fun H locs hP hD hS => ?_)
          obtain ⟨g22, h⟩ := k_guard h
          refine va_iald hx hb hK hP 0 0 rfl rfl g22 dX12_plumb_22 ?_
          refine k_callS (As := [.int (r0_a (S_MD_of y2 2).toNatClampNeg)]) (rest := []) (st1 := [.int (S_MD_sized (r0_a (S_MD_of y2 2).toNatClampNeg))]) (ws2 := (Wd41 cI a0 r0_a)) hx hb hml hown hts hK hN hA hP hD hS hl (c_MD_sized l D cI cM cS cJ H.size (r0_a (S_MD_of y2 2).toNatClampNeg) rfl) gX12_plumb_X12_sized rfl kdS_X12_sized [] ⟨rfl, rfl⟩ ⟨Nat.le_of_ble_eq_true rfl, Nat.le_of_ble_eq_true rfl⟩ ⟨Nat.zero_le _, Nat.zero_le _⟩ rfl rfl (by decide +kernel) rfl rfl rfl (Nat.le_of_ble_eq_true rfl) dX12_plumb_23 rfl (fun H locs hP hD hS => ?_)
          refine lv_aload_n hx hb dX12_plumb_26 rfl (lv_at hl 0 rfl) ?_
          refine lv_iload_n hx hb dX12_plumb_27 rfl (lv_at hl 1 rfl) ?_
          refine lv_iconst (v := 2) hx hb dX12_plumb_28 (by decide) ?_
          refine k_callS (As := [.int y1, .int 2]) (rest := [.ref a0, .int (S_MD_sized (r0_a (S_MD_of y2 2).toNatClampNeg))]) (st1 := [.int (S_MD_of y1 2), .ref a0, .int (S_MD_sized (r0_a (S_MD_of y2 2).toNatClampNeg))]) (ws2 := (Wd41 cI a0 r0_a)) hx hb hml hown hts hK hN hA hP hD hS hl (c_MD_of l D cI cM cS cJ H.size y1 2 rfl) gX12_plumb_X12_of rfl kdS_X12_of [] ⟨rfl, rfl⟩ ⟨Nat.le_of_ble_eq_true rfl, Nat.le_of_ble_eq_true rfl⟩ ⟨Nat.zero_le _, Nat.zero_le _⟩ rfl rfl (by decide +kernel) rfl rfl rfl (Nat.le_of_ble_eq_true rfl) dX12_plumb_29 rfl (fun H locs hP hD hS => ?_)
          obtain ⟨g32, h⟩ := k_guard h
          refine va_iald hx hb hK hP 0 0 rfl rfl g32 dX12_plumb_32 ?_
          refine k_callS (As := [.int (r0_a (S_MD_of y1 2).toNatClampNeg)]) (rest := [.int (S_MD_sized (r0_a (S_MD_of y2 2).toNatClampNeg))]) (st1 := [.int (S_MD_sized (r0_a (S_MD_of y1 2).toNatClampNeg)), .int (S_MD_sized (r0_a (S_MD_of y2 2).toNatClampNeg))]) (ws2 := (Wd41 cI a0 r0_a)) hx hb hml hown hts hK hN hA hP hD hS hl (c_MD_sized l D cI cM cS cJ H.size (r0_a (S_MD_of y1 2).toNatClampNeg) rfl) gX12_plumb_X12_sized rfl kdS_X12_sized [] ⟨rfl, rfl⟩ ⟨Nat.le_of_ble_eq_true rfl, Nat.le_of_ble_eq_true rfl⟩ ⟨Nat.zero_le _, Nat.zero_le _⟩ rfl rfl (by decide +kernel) rfl rfl rfl (Nat.le_of_ble_eq_true rfl) dX12_plumb_33 rfl (fun H locs hP hD hS => ?_)
          refine lv_icmp_ge (tgt := 41) hx hb dX12_plumb_36 (by decide) (fun c36 => ?_) (fun c36 => ?_)
          · have h := k_pos c36 h
            refine lv_iinc (v := (y2 + 1)) (lv' := [(2, .int (y2 + 1)), (0, .ref a0), (1, .int y1)]) hx hb dX12_plumb_41 hl (k := 2) rfl (by first | rfl | decide) (by decide) rfl (fun ls hl => ?_)
            refine lv_goto (tgt := 5) hx hb dX12_plumb_44 (by decide) ?_
            exact ih5 y1 (y2 + 1) H locs ls hP hD hS (lv_sub hl [1, 2, 0] rfl) h
          · have h := k_neg c36 h
            refine lv_iload_n hx hb dX12_plumb_39 rfl (lv_at hl 2 rfl) ?_
            refine lv_istore_n (lv' := [(1, .int y2), (0, .ref a0), (2, .int y2)]) hx hb dX12_plumb_40 rfl hl (by decide) rfl (fun ls hl => ?_)
            refine lv_iinc (v := (y2 + 1)) (lv' := [(2, .int (y2 + 1)), (1, .int y2), (0, .ref a0)]) hx hb dX12_plumb_41 hl (k := 2) rfl (by first | rfl | decide) (by decide) rfl (fun ls hl => ?_)
            refine lv_goto (tgt := 5) hx hb dX12_plumb_44 (by decide) ?_
            exact ih5 y2 (y2 + 1) H locs ls hP hD hS (lv_sub hl [2, 1, 0] rfl) h
  refine lv_istore_n (lv' := [(2, .int 0), (1, .int (-4)), (0, .ref a0)]) hx hb dX12_plumb_4 rfl hl (by decide) rfl (fun ls hl => ?_)
  exact B5 lfu (-4) 0 s.heap [] ls hP hD hS (lv_sub hl [2, 1, 0] rfl) h
abbrev rm_X12_turnsRound : Room := { frames := 1, cells := 0, slots := 0, locals := 21 }
set_option maxHeartbeats 4000000 in
set_option maxRecDepth 100000 in
theorem c_MD_turnsRound (l : Launch) (D : va_G) (cI cM cS cJ : ClassId) (a0 : Nat) (sz : Nat) (r0_a : Nat → Int32) {o : (Nat → Int32)} (hsem : S_MD_turnsRound r0_a = some o) : kMet l yX12_turnsRound wsX12_turnsRound rm_X12_turnsRound [.ref a0] D (kT cI cM cS cJ) (Wd41 cI a0 r0_a) sz none (Wd41 cI a0 o) := by
  refine k_metV (by decide) rfl rfl (Nat.le_of_ble_eq_true rfl) ?_
  intro p e s m below meth c ls Q A hx hb hml hts hown hK hN hA hP hD hS hl hsz hnm hret
  have hown : s.vm.findClass RX12 = some m.cls := hown
  replace hl : lv_has ls 2 [(0, .ref a0)] := hl
  have h := hsem
  clear hsem
  rw [S_MD_turnsRound] at h
  refine lv_iconst (v := 0) hx hb dX12_turnsRound_0 (by decide) ?_
  have B2 : ∀ (n2 : Nat) (y1 : Int32) (r0_a : Nat → Int32) (H : Heap) (locs : List Loc) (ls : Array Slot), va_P D vwCl (Wd41 cI a0 r0_a) H → va_D A (Wd41 cI a0 r0_a) → va_S A s.heap H locs → lv_has ls 2 [(0, .ref a0), (1, .int y1)] → S_MD_turnsRound_L2 n2 y1 r0_a = some o → W p l e rm_X12_turnsRound s m ([.ref a0] : List Value).toArray below meth c H locs 0 0 Q (F0 m 2 ls []) := by
    intro n2
    induction n2 with
    | zero => intro y1 r0_a H locs ls hP hD hS hl h; exact absurd h (by simp [S_MD_turnsRound_L2])
    | succ n2 ih2 =>
      intro y1 r0_a H locs ls hP hD hS hl h
      rw [S_MD_turnsRound_L2] at h
      refine lv_iload_n hx hb dX12_turnsRound_2 rfl (lv_at hl 1 rfl) ?_
      refine lv_aload_n hx hb dX12_turnsRound_3 rfl (lv_at hl 0 rfl) ?_
      refine lv_iconst (v := 0) hx hb dX12_turnsRound_4 (by decide) ?_
      refine va_iald hx hb hK hP 0 0 rfl rfl (by decide) dX12_turnsRound_5 ?_
      refine lv_icmp_ge (tgt := 40) hx hb dX12_turnsRound_6 (by decide) (fun c6 => ?_) (fun c6 => ?_)
      · have h := k_pos c6 h
        cases h
        exact hret _ _ _ _ hP hS dX12_turnsRound_40
      · have h := k_neg c6 h
        refine lv_aload_n hx hb dX12_turnsRound_9 rfl (lv_at hl 0 rfl) ?_
        refine lv_iload_n hx hb dX12_turnsRound_10 rfl (lv_at hl 1 rfl) ?_
        refine lv_iconst (v := 3) hx hb dX12_turnsRound_11 (by decide) ?_
        refine k_callS (As := [.int y1, .int 3]) (rest := [.ref a0]) (st1 := [.int (S_MD_of y1 3), .ref a0]) (ws2 := (Wd41 cI a0 r0_a)) hx hb hml hown hts hK hN hA hP hD hS hl (c_MD_of l D cI cM cS cJ H.size y1 3 rfl) gX12_turnsRound_X12_of rfl kdS_X12_of [] ⟨rfl, rfl⟩ ⟨Nat.le_of_ble_eq_true rfl, Nat.le_of_ble_eq_true rfl⟩ ⟨Nat.zero_le _, Nat.zero_le _⟩ rfl rfl (by decide +kernel) rfl rfl rfl (Nat.le_of_ble_eq_true rfl) dX12_turnsRound_12 rfl (fun H locs hP hD hS => ?_)
        obtain ⟨g15, h⟩ := k_guard h
        refine va_iald hx hb hK hP 0 0 rfl rfl g15 dX12_turnsRound_15 ?_
        refine lv_if_ne (tgt := 34) hx hb dX12_turnsRound_16 (by decide) (fun c16 => ?_) (fun c16 => ?_)
        · have h := k_neg c16 h
          refine lv_iinc (v := (y1 + 1)) (lv' := [(1, .int (y1 + 1)), (0, .ref a0)]) hx hb dX12_turnsRound_34 hl (k := 1) rfl (by first | rfl | decide) (by decide) rfl (fun ls hl => ?_)
          refine lv_goto (tgt := 2) hx hb dX12_turnsRound_37 (by decide) ?_
          exact ih2 (y1 + 1) r0_a H locs ls hP hD hS (lv_sub hl [1, 0] rfl) h
        · have h := k_pos c16 h
          refine lv_aload_n hx hb dX12_turnsRound_19 rfl (lv_at hl 0 rfl) ?_
          refine lv_iload_n hx hb dX12_turnsRound_20 rfl (lv_at hl 1 rfl) ?_
          refine lv_iconst (v := 2) hx hb dX12_turnsRound_21 (by decide) ?_
          refine k_callS (As := [.int y1, .int 2]) (rest := [.ref a0]) (st1 := [.int (S_MD_of y1 2), .ref a0]) (ws2 := (Wd41 cI a0 r0_a)) hx hb hml hown hts hK hN hA hP hD hS hl (c_MD_of l D cI cM cS cJ H.size y1 2 rfl) gX12_turnsRound_X12_of rfl kdS_X12_of [] ⟨rfl, rfl⟩ ⟨Nat.le_of_ble_eq_true rfl, Nat.le_of_ble_eq_true rfl⟩ ⟨Nat.zero_le _, Nat.zero_le _⟩ rfl rfl (by decide +kernel) rfl rfl rfl (Nat.le_of_ble_eq_true rfl) dX12_turnsRound_22 rfl (fun H locs hP hD hS => ?_)
          refine lv_aload_n hx hb dX12_turnsRound_25 rfl (lv_at hl 0 rfl) ?_
          refine lv_iload_n hx hb dX12_turnsRound_26 rfl (lv_at hl 1 rfl) ?_
          refine lv_iconst (v := 2) hx hb dX12_turnsRound_27 (by decide) ?_
          refine k_callS (As := [.int y1, .int 2]) (rest := [.ref a0, .int (S_MD_of y1 2), .ref a0]) (st1 := [.int (S_MD_of y1 2), .ref a0, .int (S_MD_of y1 2), .ref a0]) (ws2 := (Wd41 cI a0 r0_a)) hx hb hml hown hts hK hN hA hP hD hS hl (c_MD_of l D cI cM cS cJ H.size y1 2 rfl) gX12_turnsRound_X12_of rfl kdS_X12_of [] ⟨rfl, rfl⟩ ⟨Nat.le_of_ble_eq_true rfl, Nat.le_of_ble_eq_true rfl⟩ ⟨Nat.zero_le _, Nat.zero_le _⟩ rfl rfl (by decide +kernel) rfl rfl rfl (Nat.le_of_ble_eq_true rfl) dX12_turnsRound_28 rfl (fun H locs hP hD hS => ?_)
          obtain ⟨g31, h⟩ := k_guard h
          refine va_iald hx hb hK hP 0 0 rfl rfl g31 dX12_turnsRound_31 ?_
          refine lv_ineg hx hb dX12_turnsRound_32 ?_
          refine va_iast hx hb hK hP hD hS 0 0 rfl rfl g31 dX12_turnsRound_33 (fun H locs hP hD hS => ?_)
          replace hP : va_P D vwCl (Wd41 cI a0 (upd r0_a (S_MD_of y1 2).toNatClampNeg (-(r0_a (S_MD_of y1 2).toNatClampNeg)))) H := hP
          replace hD : va_D A (Wd41 cI a0 (upd r0_a (S_MD_of y1 2).toNatClampNeg (-(r0_a (S_MD_of y1 2).toNatClampNeg)))) := hD
          refine lv_iinc (v := (y1 + 1)) (lv' := [(1, .int (y1 + 1)), (0, .ref a0)]) hx hb dX12_turnsRound_34 hl (k := 1) rfl (by first | rfl | decide) (by decide) rfl (fun ls hl => ?_)
          refine lv_goto (tgt := 2) hx hb dX12_turnsRound_37 (by decide) ?_
          exact ih2 (y1 + 1) (upd r0_a (S_MD_of y1 2).toNatClampNeg (-(r0_a (S_MD_of y1 2).toNatClampNeg))) H locs ls hP hD hS (lv_sub hl [1, 0] rfl) h
  refine lv_istore_n (lv' := [(1, .int 0), (0, .ref a0)]) hx hb dX12_turnsRound_1 rfl hl (by decide) rfl (fun ls hl => ?_)
  exact B2 lfu 0 r0_a s.heap [] ls hP hD hS (lv_sub hl [1, 0] rfl) h
theorem kdS_X12_plumb : yX12_plumb.cls ≠ "java/lang/invoke/MethodHandle" ∧ yX12_plumb.cls ≠ "java/lang/invoke/VarHandle" ∧ (parseMethodDescriptor yX12_plumb.desc).map (fun d => d.parameters.length) = some 1 := by decide +kernel
abbrev rm_X12_leadGoes : Room := { frames := 2, cells := 0, slots := 0, locals := 43 }
set_option maxHeartbeats 4000000 in
set_option maxRecDepth 100000 in
theorem c_MD_leadGoes (l : Launch) (D : va_G) (cI cM cS cJ : ClassId) (a0 : Nat) (sz : Nat) (r0_a : Nat → Int32) {o : (Nat → Int32)} (hsem : S_MD_leadGoes r0_a = some o) : kMet l yX12_leadGoes wsX12_leadGoes rm_X12_leadGoes [.ref a0] D (kT cI cM cS cJ) (Wd41 cI a0 r0_a) sz none (Wd41 cI a0 o) := by
  refine k_metV (by decide) rfl rfl (Nat.le_of_ble_eq_true rfl) ?_
  intro p e s m below meth c ls Q A hx hb hml hts hown hK hN hA hP hD hS hl hsz hnm hret
  have hown : s.vm.findClass RX12 = some m.cls := hown
  replace hl : lv_has ls 1 [(0, .ref a0)] := hl
  have h := hsem
  clear hsem
  rw [S_MD_leadGoes] at h
  refine lv_aload_n hx hb dX12_leadGoes_0 rfl (lv_at hl 0 rfl) ?_
  refine lv_iconst (v := 0) hx hb dX12_leadGoes_1 (by decide) ?_
  refine va_iald hx hb hK hP 0 0 rfl rfl (by decide) dX12_leadGoes_2 ?_
  refine lv_if_ne (tgt := 7) hx hb dX12_leadGoes_3 (by decide) (fun c3 => ?_) (fun c3 => ?_)
  · have h := k_neg c3 h
    refine lv_aload_n hx hb dX12_leadGoes_7 rfl (lv_at hl 0 rfl) ?_
    refine lv_iconst (v := 3) hx hb dX12_leadGoes_8 (by decide) ?_
    refine va_iald hx hb hK hP 0 0 rfl rfl (by decide) dX12_leadGoes_9 ?_
    refine lv_if_le (tgt := 37) hx hb dX12_leadGoes_10 (by decide) (fun c10 => ?_) (fun c10 => ?_)
    · have h := k_pos c10 h
      refine lv_aload_n hx hb dX12_leadGoes_37 rfl (lv_at hl 0 rfl) ?_
      refine lv_iconst (v := 2) hx hb dX12_leadGoes_38 (by decide) ?_
      refine lv_dup2_11 hx hb dX12_leadGoes_39 rfl rfl ?_
      refine va_iald hx hb hK hP 0 0 rfl rfl (by decide) dX12_leadGoes_40 ?_
      refine lv_aload_n hx hb dX12_leadGoes_41 rfl (lv_at hl 0 rfl) ?_
      obtain ⟨r42, g42, h⟩ := k_bind h
      refine k_callS (As := [.ref a0]) (rest := [.int (r0_a (2 : Int32).toNatClampNeg), .int 2, .ref a0]) (st1 := [.int r42, .int (r0_a (2 : Int32).toNatClampNeg), .int 2, .ref a0]) (ws2 := (Wd41 cI a0 r0_a)) hx hb hml hown hts hK hN hA hP hD hS hl (c_MD_plumb l D cI cM cS cJ a0 s.heap.size r0_a g42) gX12_leadGoes_X12_plumb rfl kdS_X12_plumb [0] ⟨rfl, rfl⟩ ⟨Nat.le_of_ble_eq_true rfl, Nat.le_of_ble_eq_true rfl⟩ ⟨Nat.zero_le _, Nat.zero_le _⟩ rfl rfl (by decide +kernel) rfl rfl rfl (Nat.le_of_ble_eq_true rfl) dX12_leadGoes_42 rfl (fun H locs hP hD hS => ?_)
      refine lv_aload_n hx hb dX12_leadGoes_45 rfl (lv_at hl 0 rfl) ?_
      refine lv_iconst (v := 2) hx hb dX12_leadGoes_46 (by decide) ?_
      refine va_iald hx hb hK hP 0 0 rfl rfl (by decide) dX12_leadGoes_47 ?_
      refine lv_isub hx hb dX12_leadGoes_48 ?_
      refine k_callS (As := [.int (r42 - (r0_a (2 : Int32).toNatClampNeg))]) (rest := [.int (r0_a (2 : Int32).toNatClampNeg), .int 2, .ref a0]) (st1 := [.int (S_MD_signOf (r42 - (r0_a (2 : Int32).toNatClampNeg))), .int (r0_a (2 : Int32).toNatClampNeg), .int 2, .ref a0]) (ws2 := (Wd41 cI a0 r0_a)) hx hb hml hown hts hK hN hA hP hD hS hl (c_MD_signOf l D cI cM cS cJ H.size (r42 - (r0_a (2 : Int32).toNatClampNeg)) rfl) gX12_leadGoes_X12_signOf rfl kdS_X12_signOf [] ⟨rfl, rfl⟩ ⟨Nat.le_of_ble_eq_true rfl, Nat.le_of_ble_eq_true rfl⟩ ⟨Nat.zero_le _, Nat.zero_le _⟩ rfl rfl (by decide +kernel) rfl rfl rfl (Nat.le_of_ble_eq_true rfl) dX12_leadGoes_49 rfl (fun H locs hP hD hS => ?_)
      refine lv_iadd hx hb dX12_leadGoes_52 ?_
      refine va_iast hx hb hK hP hD hS 0 0 rfl rfl (by decide) dX12_leadGoes_53 (fun H locs hP hD hS => ?_)
      replace hP : va_P D vwCl (Wd41 cI a0 (upd r0_a (2 : Int32).toNatClampNeg ((r0_a (2 : Int32).toNatClampNeg) + (S_MD_signOf (r42 - (r0_a (2 : Int32).toNatClampNeg)))))) H := hP
      replace hD : va_D A (Wd41 cI a0 (upd r0_a (2 : Int32).toNatClampNeg ((r0_a (2 : Int32).toNatClampNeg) + (S_MD_signOf (r42 - (r0_a (2 : Int32).toNatClampNeg)))))) := hD
      cases h
      exact hret _ _ _ _ hP hS dX12_leadGoes_54
    · have h := k_neg c10 h
      refine lv_aload_n hx hb dX12_leadGoes_13 rfl (lv_at hl 0 rfl) ?_
      refine lv_iconst (v := 2) hx hb dX12_leadGoes_14 (by decide) ?_
      refine lv_aload_n hx hb dX12_leadGoes_15 rfl (lv_at hl 0 rfl) ?_
      refine lv_iconst (v := 2) hx hb dX12_leadGoes_16 (by decide) ?_
      refine va_iald hx hb hK hP 0 0 rfl rfl (by decide) dX12_leadGoes_17 ?_
      refine lv_iconst (v := 1) hx hb dX12_leadGoes_18 (by decide) ?_
      refine lv_iadd hx hb dX12_leadGoes_19 ?_
      refine lv_aload_n hx hb dX12_leadGoes_20 rfl (lv_at hl 0 rfl) ?_
      refine lv_iconst (v := 0) hx hb dX12_leadGoes_21 (by decide) ?_
      refine va_iald hx hb hK hP 0 0 rfl rfl (by decide) dX12_leadGoes_22 ?_
      refine lv_icmp_lt (tgt := 30) hx hb dX12_leadGoes_23 (by decide) (fun c23 => ?_) (fun c23 => ?_)
      · have h := k_pos c23 h
        refine lv_aload_n hx hb dX12_leadGoes_30 rfl (lv_at hl 0 rfl) ?_
        refine lv_iconst (v := 2) hx hb dX12_leadGoes_31 (by decide) ?_
        refine va_iald hx hb hK hP 0 0 rfl rfl (by decide) dX12_leadGoes_32 ?_
        refine lv_iconst (v := 1) hx hb dX12_leadGoes_33 (by decide) ?_
        refine lv_iadd hx hb dX12_leadGoes_34 ?_
        refine va_iast hx hb hK hP hD hS 0 0 rfl rfl (by decide) dX12_leadGoes_35 (fun H locs hP hD hS => ?_)
        replace hP : va_P D vwCl (Wd41 cI a0 (upd r0_a (2 : Int32).toNatClampNeg ((r0_a (2 : Int32).toNatClampNeg) + 1))) H := hP
        replace hD : va_D A (Wd41 cI a0 (upd r0_a (2 : Int32).toNatClampNeg ((r0_a (2 : Int32).toNatClampNeg) + 1))) := hD
        cases h
        exact hret _ _ _ _ hP hS dX12_leadGoes_36
      · have h := k_neg c23 h
        refine lv_iconst (v := 0) hx hb dX12_leadGoes_26 (by decide) ?_
        refine lv_goto (tgt := 35) hx hb dX12_leadGoes_27 (by decide) ?_
        refine va_iast hx hb hK hP hD hS 0 0 rfl rfl (by decide) dX12_leadGoes_35 (fun H locs hP hD hS => ?_)
        replace hP : va_P D vwCl (Wd41 cI a0 (upd r0_a (2 : Int32).toNatClampNeg 0)) H := hP
        replace hD : va_D A (Wd41 cI a0 (upd r0_a (2 : Int32).toNatClampNeg 0)) := hD
        cases h
        exact hret _ _ _ _ hP hS dX12_leadGoes_36
  · have h := k_pos c3 h
    cases h
    exact hret _ _ _ _ hP hS dX12_leadGoes_6
theorem kdS_X12_upright : yX12_upright.cls ≠ "java/lang/invoke/MethodHandle" ∧ yX12_upright.cls ≠ "java/lang/invoke/VarHandle" ∧ (parseMethodDescriptor yX12_upright.desc).map (fun d => d.parameters.length) = some 1 := by decide +kernel
theorem kdS_X12_bits : yX12_bits.cls ≠ "java/lang/invoke/MethodHandle" ∧ yX12_bits.cls ≠ "java/lang/invoke/VarHandle" ∧ (parseMethodDescriptor yX12_bits.desc).map (fun d => d.parameters.length) = some 1 := by decide +kernel
theorem kdS_X12_leadGoes : yX12_leadGoes.cls ≠ "java/lang/invoke/MethodHandle" ∧ yX12_leadGoes.cls ≠ "java/lang/invoke/VarHandle" ∧ (parseMethodDescriptor yX12_leadGoes.desc).map (fun d => d.parameters.length) = some 1 := by decide +kernel
theorem kdS_X12_turnsRound : yX12_turnsRound.cls ≠ "java/lang/invoke/MethodHandle" ∧ yX12_turnsRound.cls ≠ "java/lang/invoke/VarHandle" ∧ (parseMethodDescriptor yX12_turnsRound.desc).map (fun d => d.parameters.length) = some 1 := by decide +kernel
theorem kdS_X12_movesBy : yX12_movesBy.cls ≠ "java/lang/invoke/MethodHandle" ∧ yX12_movesBy.cls ≠ "java/lang/invoke/VarHandle" ∧ (parseMethodDescriptor yX12_movesBy.desc).map (fun d => d.parameters.length) = some 5 := by decide +kernel
theorem kdS_X12_held : yX12_held.cls ≠ "java/lang/invoke/MethodHandle" ∧ yX12_held.cls ≠ "java/lang/invoke/VarHandle" ∧ (parseMethodDescriptor yX12_held.desc).map (fun d => d.parameters.length) = some 1 := by decide +kernel
theorem kdS_X12_leanSum : yX12_leanSum.cls ≠ "java/lang/invoke/MethodHandle" ∧ yX12_leanSum.cls ≠ "java/lang/invoke/VarHandle" ∧ (parseMethodDescriptor yX12_leanSum.desc).map (fun d => d.parameters.length) = some 1 := by decide +kernel
abbrev rm_X12_day : Room := { frames := 3, cells := 0, slots := 0, locals := 67 }
set_option maxHeartbeats 4000000 in
set_option maxRecDepth 100000 in
theorem c_MD_day (l : Launch) (D : va_G) (cI cM cS cJ : ClassId) (a0 : Nat) (sz : Nat) (r0_a : Nat → Int32) {o : (Nat → Int32)} (hsem : S_MD_day r0_a = some o) : kMet l yX12_day wsX12_day rm_X12_day [.ref a0] D (kT cI cM cS cJ) (Wd41 cI a0 r0_a) sz none (Wd41 cI a0 o) := by
  refine k_metV (by decide) rfl rfl (Nat.le_of_ble_eq_true rfl) ?_
  intro p e s m below meth c ls Q A hx hb hml hts hown hK hN hA hP hD hS hl hsz hnm hret
  have hown : s.vm.findClass RX12 = some m.cls := hown
  replace hl : lv_has ls 4 [(0, .ref a0)] := hl
  have h := hsem
  clear hsem
  rw [S_MD_day] at h
  refine lv_aload_n hx hb dX12_day_0 rfl (lv_at hl 0 rfl) ?_
  refine lv_iconst (v := 1) hx hb dX12_day_1 (by decide) ?_
  refine lv_dup2_11 hx hb dX12_day_2 rfl rfl ?_
  refine va_iald hx hb hK hP 0 0 rfl rfl (by decide) dX12_day_3 ?_
  refine lv_iconst (v := 1) hx hb dX12_day_4 (by decide) ?_
  refine lv_iadd hx hb dX12_day_5 ?_
  refine va_iast hx hb hK hP hD hS 0 0 rfl rfl (by decide) dX12_day_6 (fun H locs hP hD hS => ?_)
  replace hP : va_P D vwCl (Wd41 cI a0 (upd r0_a (1 : Int32).toNatClampNeg ((r0_a (1 : Int32).toNatClampNeg) + 1))) H := hP
  replace hD : va_D A (Wd41 cI a0 (upd r0_a (1 : Int32).toNatClampNeg ((r0_a (1 : Int32).toNatClampNeg) + 1))) := hD
  refine lv_aload_n hx hb dX12_day_7 rfl (lv_at hl 0 rfl) ?_
  refine lv_iconst (v := 0) hx hb dX12_day_8 (by decide) ?_
  refine va_iald hx hb hK hP 0 0 rfl rfl (by decide) dX12_day_9 ?_
  have B25 : ∀ (v0 : Int32) (r0_a : Nat → Int32) (H : Heap) (locs : List Loc) (ls : Array Slot), va_P D vwCl (Wd41 cI a0 r0_a) H → va_D A (Wd41 cI a0 r0_a) → va_S A s.heap H locs → lv_has ls 4 [(0, .ref a0)] → S_MD_day_J25 v0 r0_a = some o → W p l e rm_X12_day s m ([.ref a0] : List Value).toArray below meth c H locs 0 0 Q (F0 m 25 ls [.int v0]) := by
    intro v0 r0_a H locs ls hP hD hS hl h
    rw [S_MD_day_J25] at h
    refine lv_istore_n (lv' := [(1, .int v0), (0, .ref a0)]) hx hb dX12_day_25 rfl hl (by decide) rfl (fun ls hl => ?_)
    refine lv_iconst (v := 0) hx hb dX12_day_26 (by decide) ?_
    have B28 : ∀ (y1 : Int32) (n28 : Nat) (y2 : Int32) (r0_a : Nat → Int32) (H : Heap) (locs : List Loc) (ls : Array Slot), va_P D vwCl (Wd41 cI a0 r0_a) H → va_D A (Wd41 cI a0 r0_a) → va_S A s.heap H locs → lv_has ls 4 [(0, .ref a0), (1, .int y1), (2, .int y2)] → S_MD_day_L28 y1 n28 y2 r0_a = some o → W p l e rm_X12_day s m ([.ref a0] : List Value).toArray below meth c H locs 0 0 Q (F0 m 28 ls []) := by
      intro y1
      intro n28
      induction n28 with
      | zero => intro y2 r0_a H locs ls hP hD hS hl h; exact absurd h (by simp [S_MD_day_L28])
      | succ n28 ih28 =>
        intro y2 r0_a H locs ls hP hD hS hl h
        rw [S_MD_day_L28] at h
        refine lv_iload_n hx hb dX12_day_28 rfl (lv_at hl 2 rfl) ?_
        refine lv_aload_n hx hb dX12_day_29 rfl (lv_at hl 0 rfl) ?_
        refine lv_iconst (v := 0) hx hb dX12_day_30 (by decide) ?_
        refine va_iald hx hb hK hP 0 0 rfl rfl (by decide) dX12_day_31 ?_
        refine lv_icmp_ge (tgt := 97) hx hb dX12_day_32 (by decide) (fun c32 => ?_) (fun c32 => ?_)
        · have h := k_pos c32 h
          refine lv_aload_n hx hb dX12_day_97 rfl (lv_at hl 0 rfl) ?_
          obtain ⟨r98, g98, h⟩ := k_bind h
          refine k_callS (As := [.ref a0]) (rest := []) (st1 := [.int r98]) (ws2 := (Wd41 cI a0 r0_a)) hx hb hml hown hts hK hN hA hP hD hS hl (c_MD_upright l D cI cM cS cJ a0 H.size r0_a g98) gX12_day_X12_upright rfl kdS_X12_upright [0] ⟨rfl, rfl⟩ ⟨Nat.le_of_ble_eq_true rfl, Nat.le_of_ble_eq_true rfl⟩ ⟨Nat.zero_le _, Nat.zero_le _⟩ rfl rfl (by decide +kernel) rfl rfl rfl (Nat.le_of_ble_eq_true rfl) dX12_day_98 rfl (fun H locs hP hD hS => ?_)
          obtain ⟨r101, g101, h⟩ := k_bind h
          refine k_callS (As := [.int r98]) (rest := []) (st1 := [.int r101]) (ws2 := (Wd41 cI a0 r0_a)) hx hb hml hown hts hK hN hA hP hD hS hl (c_MD_bits l D cI cM cS cJ H.size r98 g101) gX12_day_X12_bits rfl kdS_X12_bits [] ⟨rfl, rfl⟩ ⟨Nat.le_of_ble_eq_true rfl, Nat.le_of_ble_eq_true rfl⟩ ⟨Nat.zero_le _, Nat.zero_le _⟩ rfl rfl (by decide +kernel) rfl rfl rfl (Nat.le_of_ble_eq_true rfl) dX12_day_101 rfl (fun H locs hP hD hS => ?_)
          refine lv_aload_n hx hb dX12_day_104 rfl (lv_at hl 0 rfl) ?_
          refine lv_iconst (v := 0) hx hb dX12_day_105 (by decide) ?_
          refine va_iald hx hb hK hP 0 0 rfl rfl (by decide) dX12_day_106 ?_
          refine lv_iconst (v := 2) hx hb dX12_day_107 (by decide) ?_
          refine lv_idiv hx hb dX12_day_108 (by decide) ?_
          refine lv_icmp_ge (tgt := 138) hx hb dX12_day_109 (by decide) (fun c109 => ?_) (fun c109 => ?_)
          · have h := k_pos c109 h
            refine lv_aload_n hx hb dX12_day_138 rfl (lv_at hl 0 rfl) ?_
            refine lv_iconst (v := 3) hx hb dX12_day_139 (by decide) ?_
            refine va_iald hx hb hK hP 0 0 rfl rfl (by decide) dX12_day_140 ?_
            refine lv_if_le (tgt := 151) hx hb dX12_day_141 (by decide) (fun c141 => ?_) (fun c141 => ?_)
            · have h := k_pos c141 h
              refine lv_aload_n hx hb dX12_day_151 rfl (lv_at hl 0 rfl) ?_
              obtain ⟨r152, g152, h⟩ := k_bind h
              refine k_callS (As := [.ref a0]) (rest := []) (st1 := []) (ws2 := (Wd41 cI a0 r152)) hx hb hml hown hts hK hN hA hP hD hS hl (c_MD_leadGoes l D cI cM cS cJ a0 H.size r0_a g152) gX12_day_X12_leadGoes rfl kdS_X12_leadGoes [0] ⟨rfl, rfl⟩ ⟨Nat.le_of_ble_eq_true rfl, Nat.le_of_ble_eq_true rfl⟩ ⟨Nat.zero_le _, Nat.zero_le _⟩ rfl rfl (by decide +kernel) rfl rfl rfl (Nat.le_of_ble_eq_true rfl) dX12_day_152 rfl (fun H locs hP hD hS => ?_)
              cases h
              exact hret _ _ _ _ hP hS dX12_day_155
            · have h := k_neg c141 h
              refine lv_aload_n hx hb dX12_day_144 rfl (lv_at hl 0 rfl) ?_
              refine lv_iconst (v := 3) hx hb dX12_day_145 (by decide) ?_
              refine lv_dup2_11 hx hb dX12_day_146 rfl rfl ?_
              refine va_iald hx hb hK hP 0 0 rfl rfl (by decide) dX12_day_147 ?_
              refine lv_iconst (v := 1) hx hb dX12_day_148 (by decide) ?_
              refine lv_isub hx hb dX12_day_149 ?_
              refine va_iast hx hb hK hP hD hS 0 0 rfl rfl (by decide) dX12_day_150 (fun H locs hP hD hS => ?_)
              replace hP : va_P D vwCl (Wd41 cI a0 (upd r0_a (3 : Int32).toNatClampNeg ((r0_a (3 : Int32).toNatClampNeg) - 1))) H := hP
              replace hD : va_D A (Wd41 cI a0 (upd r0_a (3 : Int32).toNatClampNeg ((r0_a (3 : Int32).toNatClampNeg) - 1))) := hD
              refine lv_aload_n hx hb dX12_day_151 rfl (lv_at hl 0 rfl) ?_
              obtain ⟨r152, g152, h⟩ := k_bind h
              refine k_callS (As := [.ref a0]) (rest := []) (st1 := []) (ws2 := (Wd41 cI a0 r152)) hx hb hml hown hts hK hN hA hP hD hS hl (c_MD_leadGoes l D cI cM cS cJ a0 H.size (upd r0_a (3 : Int32).toNatClampNeg ((r0_a (3 : Int32).toNatClampNeg) - 1)) g152) gX12_day_X12_leadGoes rfl kdS_X12_leadGoes [0] ⟨rfl, rfl⟩ ⟨Nat.le_of_ble_eq_true rfl, Nat.le_of_ble_eq_true rfl⟩ ⟨Nat.zero_le _, Nat.zero_le _⟩ rfl rfl (by decide +kernel) rfl rfl rfl (Nat.le_of_ble_eq_true rfl) dX12_day_152 rfl (fun H locs hP hD hS => ?_)
              cases h
              exact hret _ _ _ _ hP hS dX12_day_155
          · have h := k_neg c109 h
            refine lv_aload_n hx hb dX12_day_112 rfl (lv_at hl 0 rfl) ?_
            refine lv_iconst (v := 4) hx hb dX12_day_113 (by decide) ?_
            refine lv_sipush (v := 999) hx hb dX12_day_114 (by decide) ?_
            refine lv_aload_n hx hb dX12_day_117 rfl (lv_at hl 0 rfl) ?_
            refine lv_iconst (v := 4) hx hb dX12_day_118 (by decide) ?_
            refine va_iald hx hb hK hP 0 0 rfl rfl (by decide) dX12_day_119 ?_
            refine lv_iconst (v := 1) hx hb dX12_day_120 (by decide) ?_
            refine lv_iadd hx hb dX12_day_121 ?_
            refine k_callS (As := [.int 999, .int ((r0_a (4 : Int32).toNatClampNeg) + 1)]) (rest := [.int 4, .ref a0]) (st1 := [.int (S_MD_least 999 ((r0_a (4 : Int32).toNatClampNeg) + 1)), .int 4, .ref a0]) (ws2 := (Wd41 cI a0 r0_a)) hx hb hml hown hts hK hN hA hP hD hS hl (c_MD_least l D cI cM cS cJ H.size 999 ((r0_a (4 : Int32).toNatClampNeg) + 1) rfl) gX12_day_X12_least rfl kdS_X12_least [] ⟨rfl, rfl⟩ ⟨Nat.le_of_ble_eq_true rfl, Nat.le_of_ble_eq_true rfl⟩ ⟨Nat.zero_le _, Nat.zero_le _⟩ rfl rfl (by decide +kernel) rfl rfl rfl (Nat.le_of_ble_eq_true rfl) dX12_day_122 rfl (fun H locs hP hD hS => ?_)
            refine va_iast hx hb hK hP hD hS 0 0 rfl rfl (by decide) dX12_day_125 (fun H locs hP hD hS => ?_)
            replace hP : va_P D vwCl (Wd41 cI a0 (upd r0_a (4 : Int32).toNatClampNeg (S_MD_least 999 ((r0_a (4 : Int32).toNatClampNeg) + 1)))) H := hP
            replace hD : va_D A (Wd41 cI a0 (upd r0_a (4 : Int32).toNatClampNeg (S_MD_least 999 ((r0_a (4 : Int32).toNatClampNeg) + 1)))) := hD
            refine lv_aload_n hx hb dX12_day_126 rfl (lv_at hl 0 rfl) ?_
            obtain ⟨r127, g127, h⟩ := k_bind h
            refine k_callS (As := [.ref a0]) (rest := []) (st1 := []) (ws2 := (Wd41 cI a0 r127)) hx hb hml hown hts hK hN hA hP hD hS hl (c_MD_turnsRound l D cI cM cS cJ a0 H.size (upd r0_a (4 : Int32).toNatClampNeg (S_MD_least 999 ((r0_a (4 : Int32).toNatClampNeg) + 1))) g127) gX12_day_X12_turnsRound rfl kdS_X12_turnsRound [0] ⟨rfl, rfl⟩ ⟨Nat.le_of_ble_eq_true rfl, Nat.le_of_ble_eq_true rfl⟩ ⟨Nat.zero_le _, Nat.zero_le _⟩ rfl rfl (by decide +kernel) rfl rfl rfl (Nat.le_of_ble_eq_true rfl) dX12_day_127 rfl (fun H locs hP hD hS => ?_)
            refine lv_aload_n hx hb dX12_day_130 rfl (lv_at hl 0 rfl) ?_
            refine lv_iconst (v := 3) hx hb dX12_day_131 (by decide) ?_
            refine lv_bipush (v := 9) hx hb dX12_day_132 (by decide) ?_
            refine va_iast hx hb hK hP hD hS 0 0 rfl rfl (by decide) dX12_day_134 (fun H locs hP hD hS => ?_)
            replace hP : va_P D vwCl (Wd41 cI a0 (upd r127 (3 : Int32).toNatClampNeg 9)) H := hP
            replace hD : va_D A (Wd41 cI a0 (upd r127 (3 : Int32).toNatClampNeg 9)) := hD
            refine lv_goto (tgt := 151) hx hb dX12_day_135 (by decide) ?_
            refine lv_aload_n hx hb dX12_day_151 rfl (lv_at hl 0 rfl) ?_
            obtain ⟨r152, g152, h⟩ := k_bind h
            refine k_callS (As := [.ref a0]) (rest := []) (st1 := []) (ws2 := (Wd41 cI a0 r152)) hx hb hml hown hts hK hN hA hP hD hS hl (c_MD_leadGoes l D cI cM cS cJ a0 H.size (upd r127 (3 : Int32).toNatClampNeg 9) g152) gX12_day_X12_leadGoes rfl kdS_X12_leadGoes [0] ⟨rfl, rfl⟩ ⟨Nat.le_of_ble_eq_true rfl, Nat.le_of_ble_eq_true rfl⟩ ⟨Nat.zero_le _, Nat.zero_le _⟩ rfl rfl (by decide +kernel) rfl rfl rfl (Nat.le_of_ble_eq_true rfl) dX12_day_152 rfl (fun H locs hP hD hS => ?_)
            cases h
            exact hret _ _ _ _ hP hS dX12_day_155
        · have h := k_neg c32 h
          refine lv_aload_n hx hb dX12_day_35 rfl (lv_at hl 0 rfl) ?_
          refine lv_iload_n hx hb dX12_day_36 rfl (lv_at hl 2 rfl) ?_
          refine lv_iconst (v := 3) hx hb dX12_day_37 (by decide) ?_
          refine k_callS (As := [.int y2, .int 3]) (rest := [.ref a0]) (st1 := [.int (S_MD_of y2 3), .ref a0]) (ws2 := (Wd41 cI a0 r0_a)) hx hb hml hown hts hK hN hA hP hD hS hl (c_MD_of l D cI cM cS cJ H.size y2 3 rfl) gX12_day_X12_of rfl kdS_X12_of [] ⟨rfl, rfl⟩ ⟨Nat.le_of_ble_eq_true rfl, Nat.le_of_ble_eq_true rfl⟩ ⟨Nat.zero_le _, Nat.zero_le _⟩ rfl rfl (by decide +kernel) rfl rfl rfl (Nat.le_of_ble_eq_true rfl) dX12_day_38 rfl (fun H locs hP hD hS => ?_)
          obtain ⟨g41, h⟩ := k_guard h
          refine va_iald hx hb hK hP 0 0 rfl rfl g41 dX12_day_41 ?_
          refine lv_iconst (v := 1) hx hb dX12_day_42 (by decide) ?_
          refine lv_icmp_ne (tgt := 49) hx hb dX12_day_43 (by decide) (fun c43 => ?_) (fun c43 => ?_)
          · have h := k_neg c43 h
            refine lv_aload_n hx hb dX12_day_49 rfl (lv_at hl 0 rfl) ?_
            refine lv_iload_n hx hb dX12_day_50 rfl (lv_at hl 2 rfl) ?_
            refine lv_iconst (v := 2) hx hb dX12_day_51 (by decide) ?_
            refine k_callS (As := [.int y2, .int 2]) (rest := [.ref a0]) (st1 := [.int (S_MD_of y2 2), .ref a0]) (ws2 := (Wd41 cI a0 r0_a)) hx hb hml hown hts hK hN hA hP hD hS hl (c_MD_of l D cI cM cS cJ H.size y2 2 rfl) gX12_day_X12_of rfl kdS_X12_of [] ⟨rfl, rfl⟩ ⟨Nat.le_of_ble_eq_true rfl, Nat.le_of_ble_eq_true rfl⟩ ⟨Nat.zero_le _, Nat.zero_le _⟩ rfl rfl (by decide +kernel) rfl rfl rfl (Nat.le_of_ble_eq_true rfl) dX12_day_52 rfl (fun H locs hP hD hS => ?_)
            obtain ⟨g55, h⟩ := k_guard h
            refine va_iald hx hb hK hP 0 0 rfl rfl g55 dX12_day_55 ?_
            refine lv_istore_n (lv' := [(3, .int (r0_a (S_MD_of y2 2).toNatClampNeg)), (0, .ref a0), (1, .int y1), (2, .int y2)]) hx hb dX12_day_56 rfl hl (by decide) rfl (fun ls hl => ?_)
            refine lv_aload_n hx hb dX12_day_57 rfl (lv_at hl 1 rfl) ?_
            refine lv_iload_n hx hb dX12_day_58 rfl (lv_at hl 3 rfl) ?_
            refine lv_iconst (v := 2) hx hb dX12_day_59 (by decide) ?_
            refine k_callS (As := [.int y2, .int 2]) (rest := [.ref a0]) (st1 := [.int (S_MD_of y2 2), .ref a0]) (ws2 := (Wd41 cI a0 r0_a)) hx hb hml hown hts hK hN hA hP hD hS hl (c_MD_of l D cI cM cS cJ H.size y2 2 rfl) gX12_day_X12_of rfl kdS_X12_of [] ⟨rfl, rfl⟩ ⟨Nat.le_of_ble_eq_true rfl, Nat.le_of_ble_eq_true rfl⟩ ⟨Nat.zero_le _, Nat.zero_le _⟩ rfl rfl (by decide +kernel) rfl rfl rfl (Nat.le_of_ble_eq_true rfl) dX12_day_60 rfl (fun H locs hP hD hS => ?_)
            refine lv_iload_n hx hb dX12_day_63 rfl (lv_at hl 0 rfl) ?_
            refine lv_aload_n hx hb dX12_day_64 rfl (lv_at hl 1 rfl) ?_
            refine lv_iload_n hx hb dX12_day_65 rfl (lv_at hl 3 rfl) ?_
            refine lv_iconst (v := 0) hx hb dX12_day_66 (by decide) ?_
            refine k_callS (As := [.int y2, .int 0]) (rest := [.ref a0, .int (r0_a (S_MD_of y2 2).toNatClampNeg), .int (S_MD_of y2 2), .ref a0]) (st1 := [.int (S_MD_of y2 0), .ref a0, .int (r0_a (S_MD_of y2 2).toNatClampNeg), .int (S_MD_of y2 2), .ref a0]) (ws2 := (Wd41 cI a0 r0_a)) hx hb hml hown hts hK hN hA hP hD hS hl (c_MD_of l D cI cM cS cJ H.size y2 0 rfl) gX12_day_X12_of rfl kdS_X12_of [] ⟨rfl, rfl⟩ ⟨Nat.le_of_ble_eq_true rfl, Nat.le_of_ble_eq_true rfl⟩ ⟨Nat.zero_le _, Nat.zero_le _⟩ rfl rfl (by decide +kernel) rfl rfl rfl (Nat.le_of_ble_eq_true rfl) dX12_day_67 rfl (fun H locs hP hD hS => ?_)
            obtain ⟨g70, h⟩ := k_guard h
            refine va_iald hx hb hK hP 0 0 rfl rfl g70 dX12_day_70 ?_
            refine lv_aload_n hx hb dX12_day_71 rfl (lv_at hl 1 rfl) ?_
            refine lv_iload_n hx hb dX12_day_72 rfl (lv_at hl 3 rfl) ?_
            refine lv_iconst (v := 1) hx hb dX12_day_73 (by decide) ?_
            refine k_callS (As := [.int y2, .int 1]) (rest := [.ref a0, .int (r0_a (S_MD_of y2 0).toNatClampNeg), .int (r0_a (S_MD_of y2 2).toNatClampNeg), .int (S_MD_of y2 2), .ref a0]) (st1 := [.int (S_MD_of y2 1), .ref a0, .int (r0_a (S_MD_of y2 0).toNatClampNeg), .int (r0_a (S_MD_of y2 2).toNatClampNeg), .int (S_MD_of y2 2), .ref a0]) (ws2 := (Wd41 cI a0 r0_a)) hx hb hml hown hts hK hN hA hP hD hS hl (c_MD_of l D cI cM cS cJ H.size y2 1 rfl) gX12_day_X12_of rfl kdS_X12_of [] ⟨rfl, rfl⟩ ⟨Nat.le_of_ble_eq_true rfl, Nat.le_of_ble_eq_true rfl⟩ ⟨Nat.zero_le _, Nat.zero_le _⟩ rfl rfl (by decide +kernel) rfl rfl rfl (Nat.le_of_ble_eq_true rfl) dX12_day_74 rfl (fun H locs hP hD hS => ?_)
            obtain ⟨g77, h⟩ := k_guard h
            refine va_iald hx hb hK hP 0 0 rfl rfl g77 dX12_day_77 ?_
            refine lv_iload_n hx hb dX12_day_78 rfl (lv_at hl 0 rfl) ?_
            refine lv_iload_n hx hb dX12_day_79 rfl (lv_at hl 2 rfl) ?_
            refine lv_aload_n hx hb dX12_day_80 rfl (lv_at hl 1 rfl) ?_
            refine lv_iconst (v := 1) hx hb dX12_day_81 (by decide) ?_
            refine va_iald hx hb hK hP 0 0 rfl rfl (by decide) dX12_day_82 ?_
            refine k_callS (As := [.int (r0_a (S_MD_of y2 0).toNatClampNeg), .int (r0_a (S_MD_of y2 1).toNatClampNeg), .int (r0_a (S_MD_of y2 2).toNatClampNeg), .int y1, .int (r0_a (1 : Int32).toNatClampNeg)]) (rest := [.int (r0_a (S_MD_of y2 2).toNatClampNeg), .int (S_MD_of y2 2), .ref a0]) (st1 := [.int (S_MD_movesBy (r0_a (S_MD_of y2 0).toNatClampNeg) (r0_a (S_MD_of y2 1).toNatClampNeg) (r0_a (S_MD_of y2 2).toNatClampNeg) y1 (r0_a (1 : Int32).toNatClampNeg)), .int (r0_a (S_MD_of y2 2).toNatClampNeg), .int (S_MD_of y2 2), .ref a0]) (ws2 := (Wd41 cI a0 r0_a)) hx hb hml hown hts hK hN hA hP hD hS hl (c_MD_movesBy l D cI cM cS cJ H.size (r0_a (S_MD_of y2 0).toNatClampNeg) (r0_a (S_MD_of y2 1).toNatClampNeg) (r0_a (S_MD_of y2 2).toNatClampNeg) y1 (r0_a (1 : Int32).toNatClampNeg) rfl) gX12_day_X12_movesBy rfl kdS_X12_movesBy [] ⟨rfl, rfl⟩ ⟨Nat.le_of_ble_eq_true rfl, Nat.le_of_ble_eq_true rfl⟩ ⟨Nat.zero_le _, Nat.zero_le _⟩ rfl rfl (by decide +kernel) rfl rfl rfl (Nat.le_of_ble_eq_true rfl) dX12_day_83 rfl (fun H locs hP hD hS => ?_)
            refine lv_iadd hx hb dX12_day_86 ?_
            refine k_callS (As := [.int ((r0_a (S_MD_of y2 2).toNatClampNeg) + (S_MD_movesBy (r0_a (S_MD_of y2 0).toNatClampNeg) (r0_a (S_MD_of y2 1).toNatClampNeg) (r0_a (S_MD_of y2 2).toNatClampNeg) y1 (r0_a (1 : Int32).toNatClampNeg)))]) (rest := [.int (S_MD_of y2 2), .ref a0]) (st1 := [.int (S_MD_held ((r0_a (S_MD_of y2 2).toNatClampNeg) + (S_MD_movesBy (r0_a (S_MD_of y2 0).toNatClampNeg) (r0_a (S_MD_of y2 1).toNatClampNeg) (r0_a (S_MD_of y2 2).toNatClampNeg) y1 (r0_a (1 : Int32).toNatClampNeg)))), .int (S_MD_of y2 2), .ref a0]) (ws2 := (Wd41 cI a0 r0_a)) hx hb hml hown hts hK hN hA hP hD hS hl (c_MD_held l D cI cM cS cJ H.size ((r0_a (S_MD_of y2 2).toNatClampNeg) + (S_MD_movesBy (r0_a (S_MD_of y2 0).toNatClampNeg) (r0_a (S_MD_of y2 1).toNatClampNeg) (r0_a (S_MD_of y2 2).toNatClampNeg) y1 (r0_a (1 : Int32).toNatClampNeg))) rfl) gX12_day_X12_held rfl kdS_X12_held [] ⟨rfl, rfl⟩ ⟨Nat.le_of_ble_eq_true rfl, Nat.le_of_ble_eq_true rfl⟩ ⟨Nat.zero_le _, Nat.zero_le _⟩ rfl rfl (by decide +kernel) rfl rfl rfl (Nat.le_of_ble_eq_true rfl) dX12_day_87 rfl (fun H locs hP hD hS => ?_)
            refine va_iast hx hb hK hP hD hS 0 0 rfl rfl g55 dX12_day_90 (fun H locs hP hD hS => ?_)
            replace hP : va_P D vwCl (Wd41 cI a0 (upd r0_a (S_MD_of y2 2).toNatClampNeg (S_MD_held ((r0_a (S_MD_of y2 2).toNatClampNeg) + (S_MD_movesBy (r0_a (S_MD_of y2 0).toNatClampNeg) (r0_a (S_MD_of y2 1).toNatClampNeg) (r0_a (S_MD_of y2 2).toNatClampNeg) y1 (r0_a (1 : Int32).toNatClampNeg)))))) H := hP
            replace hD : va_D A (Wd41 cI a0 (upd r0_a (S_MD_of y2 2).toNatClampNeg (S_MD_held ((r0_a (S_MD_of y2 2).toNatClampNeg) + (S_MD_movesBy (r0_a (S_MD_of y2 0).toNatClampNeg) (r0_a (S_MD_of y2 1).toNatClampNeg) (r0_a (S_MD_of y2 2).toNatClampNeg) y1 (r0_a (1 : Int32).toNatClampNeg)))))) := hD
            refine lv_iinc (v := (y2 + 1)) (lv' := [(2, .int (y2 + 1)), (3, .int (r0_a (S_MD_of y2 2).toNatClampNeg)), (0, .ref a0), (1, .int y1)]) hx hb dX12_day_91 hl (k := 3) rfl (by first | rfl | decide) (by decide) rfl (fun ls hl => ?_)
            refine lv_goto (tgt := 28) hx hb dX12_day_94 (by decide) ?_
            exact ih28 (y2 + 1) (upd r0_a (S_MD_of y2 2).toNatClampNeg (S_MD_held ((r0_a (S_MD_of y2 2).toNatClampNeg) + (S_MD_movesBy (r0_a (S_MD_of y2 0).toNatClampNeg) (r0_a (S_MD_of y2 1).toNatClampNeg) (r0_a (S_MD_of y2 2).toNatClampNeg) y1 (r0_a (1 : Int32).toNatClampNeg))))) H locs ls hP hD hS (lv_sub hl [2, 3, 0] rfl) h
          · have h := k_pos c43 h
            refine lv_goto (tgt := 91) hx hb dX12_day_46 (by decide) ?_
            refine lv_iinc (v := (y2 + 1)) (lv' := [(2, .int (y2 + 1)), (0, .ref a0), (1, .int y1)]) hx hb dX12_day_91 hl (k := 2) rfl (by first | rfl | decide) (by decide) rfl (fun ls hl => ?_)
            refine lv_goto (tgt := 28) hx hb dX12_day_94 (by decide) ?_
            exact ih28 (y2 + 1) r0_a H locs ls hP hD hS (lv_sub hl [1, 2, 0] rfl) h
    refine lv_istore_n (lv' := [(2, .int 0), (1, .int v0), (0, .ref a0)]) hx hb dX12_day_27 rfl hl (by decide) rfl (fun ls hl => ?_)
    exact B28 v0 lfu 0 r0_a H locs ls hP hD hS (lv_sub hl [2, 1, 0] rfl) h
  refine lv_if_ne (tgt := 17) hx hb dX12_day_10 (by decide) (fun c10 => ?_) (fun c10 => ?_)
  · have h := k_neg c10 h
    refine lv_aload_n hx hb dX12_day_17 rfl (lv_at hl 0 rfl) ?_
    obtain ⟨r18, g18, h⟩ := k_bind h
    refine k_callS (As := [.ref a0]) (rest := []) (st1 := [.int r18]) (ws2 := (Wd41 cI a0 (upd r0_a (1 : Int32).toNatClampNeg ((r0_a (1 : Int32).toNatClampNeg) + 1)))) hx hb hml hown hts hK hN hA hP hD hS hl (c_MD_leanSum l D cI cM cS cJ a0 H.size (upd r0_a (1 : Int32).toNatClampNeg ((r0_a (1 : Int32).toNatClampNeg) + 1)) g18) gX12_day_X12_leanSum rfl kdS_X12_leanSum [0] ⟨rfl, rfl⟩ ⟨Nat.le_of_ble_eq_true rfl, Nat.le_of_ble_eq_true rfl⟩ ⟨Nat.zero_le _, Nat.zero_le _⟩ rfl rfl (by decide +kernel) rfl rfl rfl (Nat.le_of_ble_eq_true rfl) dX12_day_18 rfl (fun H locs hP hD hS => ?_)
    refine lv_aload_n hx hb dX12_day_21 rfl (lv_at hl 0 rfl) ?_
    refine lv_iconst (v := 0) hx hb dX12_day_22 (by decide) ?_
    refine va_iald hx hb hK hP 0 0 rfl rfl (by decide) dX12_day_23 ?_
    refine lv_idiv hx hb dX12_day_24 c10 ?_
    exact B25 (r18 / ((upd r0_a (1 : Int32).toNatClampNeg ((r0_a (1 : Int32).toNatClampNeg) + 1)) (0 : Int32).toNatClampNeg)) (upd r0_a (1 : Int32).toNatClampNeg ((r0_a (1 : Int32).toNatClampNeg) + 1)) H locs ls hP hD hS hl h
  · have h := k_pos c10 h
    refine lv_iconst (v := 0) hx hb dX12_day_13 (by decide) ?_
    refine lv_goto (tgt := 25) hx hb dX12_day_14 (by decide) ?_
    exact B25 0 (upd r0_a (1 : Int32).toNatClampNeg ((r0_a (1 : Int32).toNatClampNeg) + 1)) H locs ls hP hD hS hl h
theorem kdS_X12_day : yX12_day.cls ≠ "java/lang/invoke/MethodHandle" ∧ yX12_day.cls ≠ "java/lang/invoke/VarHandle" ∧ (parseMethodDescriptor yX12_day.desc).map (fun d => d.parameters.length) = some 1 := by decide +kernel
abbrev rm_X12_daysOn : Room := { frames := 4, cells := 0, slots := 0, locals := 90 }
set_option maxHeartbeats 4000000 in
set_option maxRecDepth 100000 in
theorem c_MD_daysOn (l : Launch) (D : va_G) (cI cM cS cJ : ClassId) (a0 : Nat) (sz : Nat) (x1 : Int32) (r0_a : Nat → Int32) {o : (Nat → Int32)} (hsem : S_MD_daysOn x1 r0_a = some o) : kMet l yX12_daysOn wsX12_daysOn rm_X12_daysOn [.ref a0, .int x1] D (kT cI cM cS cJ) (Wd41 cI a0 r0_a) sz none (Wd41 cI a0 o) := by
  refine k_metV (by decide) rfl rfl (Nat.le_of_ble_eq_true rfl) ?_
  intro p e s m below meth c ls Q A hx hb hml hts hown hK hN hA hP hD hS hl hsz hnm hret
  have hown : s.vm.findClass RX12 = some m.cls := hown
  replace hl : lv_has ls 3 [(0, .ref a0), (1, .int x1)] := hl
  have h := hsem
  clear hsem
  rw [S_MD_daysOn] at h
  refine lv_iconst (v := 0) hx hb dX12_daysOn_0 (by decide) ?_
  have B2 : ∀ (n2 : Nat) (y2 : Int32) (r0_a : Nat → Int32) (H : Heap) (locs : List Loc) (ls : Array Slot), va_P D vwCl (Wd41 cI a0 r0_a) H → va_D A (Wd41 cI a0 r0_a) → va_S A s.heap H locs → lv_has ls 3 [(0, .ref a0), (1, .int x1), (2, .int y2)] → S_MD_daysOn_L2 x1 n2 y2 r0_a = some o → W p l e rm_X12_daysOn s m ([.ref a0, .int x1] : List Value).toArray below meth c H locs 0 0 Q (F0 m 2 ls []) := by
    intro n2
    induction n2 with
    | zero => intro y2 r0_a H locs ls hP hD hS hl h; exact absurd h (by simp [S_MD_daysOn_L2])
    | succ n2 ih2 =>
      intro y2 r0_a H locs ls hP hD hS hl h
      rw [S_MD_daysOn_L2] at h
      refine lv_iload_n hx hb dX12_daysOn_2 rfl (lv_at hl 2 rfl) ?_
      refine lv_iload_n hx hb dX12_daysOn_3 rfl (lv_at hl 1 rfl) ?_
      refine lv_icmp_ge (tgt := 17) hx hb dX12_daysOn_4 (by decide) (fun c4 => ?_) (fun c4 => ?_)
      · have h := k_pos c4 h
        cases h
        exact hret _ _ _ _ hP hS dX12_daysOn_17
      · have h := k_neg c4 h
        refine lv_aload_n hx hb dX12_daysOn_7 rfl (lv_at hl 0 rfl) ?_
        obtain ⟨r8, g8, h⟩ := k_bind h
        refine k_callS (As := [.ref a0]) (rest := []) (st1 := []) (ws2 := (Wd41 cI a0 r8)) hx hb hml hown hts hK hN hA hP hD hS hl (c_MD_day l D cI cM cS cJ a0 H.size r0_a g8) gX12_daysOn_X12_day rfl kdS_X12_day [0] ⟨rfl, rfl⟩ ⟨Nat.le_of_ble_eq_true rfl, Nat.le_of_ble_eq_true rfl⟩ ⟨Nat.zero_le _, Nat.zero_le _⟩ rfl rfl (by decide +kernel) rfl rfl rfl (Nat.le_of_ble_eq_true rfl) dX12_daysOn_8 rfl (fun H locs hP hD hS => ?_)
        refine lv_iinc (v := (y2 + 1)) (lv' := [(2, .int (y2 + 1)), (0, .ref a0), (1, .int x1)]) hx hb dX12_daysOn_11 hl (k := 2) rfl (by first | rfl | decide) (by decide) rfl (fun ls hl => ?_)
        refine lv_goto (tgt := 2) hx hb dX12_daysOn_14 (by decide) ?_
        exact ih2 (y2 + 1) r8 H locs ls hP hD hS (lv_sub hl [1, 2, 0] rfl) h
  refine lv_istore_n (lv' := [(2, .int 0), (0, .ref a0), (1, .int x1)]) hx hb dX12_daysOn_1 rfl hl (by decide) rfl (fun ls hl => ?_)
  exact B2 lfu 0 r0_a s.heap [] ls hP hD hS (lv_sub hl [1, 2, 0] rfl) h
abbrev Wd42 (cI : ClassId) (aR : Nat → Nat) (q_hasImage : Int32) (q_place : Int32) (q_rowAt : Int32) (q_rowEnd : Int32) (q_seed : Int32) (q_thrown : Int32) (q_element : Nat → Int32) : va_W := [((aR 0), .inr (12, [.ref (aR 1), .ref (aR 2), .ref (aR 3), .ref (aR 4), .int q_hasImage, .int q_place, .int q_rowAt, .int q_rowEnd, .ref (aR 5), .ref (aR 6), .int q_seed, .ref (aR 7), .ref (aR 8), .ref (aR 9), .ref (aR 10), .ref (aR 11), .ref (aR 12), .int q_thrown])), ((aR 12), .inl (cI, 800, .inl q_element))]
abbrev rm_X12_here : Room := { frames := 0, cells := 0, slots := 0, locals := 0 }
set_option maxHeartbeats 4000000 in
set_option maxRecDepth 100000 in
theorem c_MD_here (l : Launch) (D : va_G) (cI cM cS cJ : ClassId) (aR : Nat → Nat) (sz : Nat) (q_hasImage : Int32) (q_place : Int32) (q_rowAt : Int32) (q_rowEnd : Int32) (q_seed : Int32) (q_thrown : Int32) (q_element : Nat → Int32) {o : (Int32)} (hsem : S_MD_here q_place q_rowAt q_rowEnd q_element = some o) : kMet l yX12_here wsX12_here rm_X12_here [.ref (aR 0)] D (kT cI cM cS cJ) (Wd42 cI aR q_hasImage q_place q_rowAt q_rowEnd q_seed q_thrown q_element) sz (some (.int o)) (Wd42 cI aR q_hasImage q_place q_rowAt q_rowEnd q_seed q_thrown q_element) := by
  refine k_metI (by decide) rfl rfl (Nat.le_of_ble_eq_true rfl) ?_
  intro p e s m below meth c ls Q A hx hb hml hts hown hK hN hA hP hD hS hl hsz hnm hret
  have hown : s.vm.findClass RX12 = some m.cls := hown
  have hf112 := hts (.fieldLink RX12 112 "PlumbLineModel" "place" "I") (List.mem_of_getElem? (i := 1) rfl)
  have hf116 := hts (.fieldLink RX12 116 "PlumbLineModel" "rowEnd" "I") (List.mem_of_getElem? (i := 2) rfl)
  have hf43 := hts (.fieldLink RX12 43 "PlumbLineModel" "element" "[I") (List.mem_of_getElem? (i := 3) rfl)
  have hf119 := hts (.fieldLink RX12 119 "PlumbLineModel" "rowAt" "I") (List.mem_of_getElem? (i := 4) rfl)
  have hiX12 : ∀ w ∈ u_ws RX12 TX12 18, w ∈ wsX12_here := fun w h => List.mem_cons_of_mem _ (List.mem_append_right _ h)
  replace hl : lv_has ls 1 [(0, .ref (aR 0))] := hl
  have h := hsem
  clear hsem
  rw [S_MD_here] at h
  refine lv_aload_n hx hb dX12_here_0 rfl (lv_at hl 0 rfl) ?_
  refine va_get (D := D) (ci := 12) (v := .int q_place) (C := RX12) (T := TX12) (N := 18) hx hb hts hiX12 hown hK hP 0 rfl rfl 5 (by decide) hf112 (fun _ z => z) rfl dX12_here_1 ?_
  refine lv_aload_n hx hb dX12_here_4 rfl (lv_at hl 0 rfl) ?_
  refine va_get (D := D) (ci := 12) (v := .int q_rowEnd) (C := RX12) (T := TX12) (N := 18) hx hb hts hiX12 hown hK hP 0 rfl rfl 7 (by decide) hf116 (fun _ z => z) rfl dX12_here_5 ?_
  refine lv_icmp_ge (tgt := 32) hx hb dX12_here_8 (by decide) (fun c8 => ?_) (fun c8 => ?_)
  · have h := k_pos c8 h
    refine lv_iconst (v := (-1)) hx hb dX12_here_32 (by decide) ?_
    cases h
    exact hret _ _ _ _ hP hS dX12_here_33
  · have h := k_neg c8 h
    refine lv_aload_n hx hb dX12_here_11 rfl (lv_at hl 0 rfl) ?_
    refine va_get (D := D) (ci := 12) (v := .ref (aR 12)) (C := RX12) (T := TX12) (N := 18) hx hb hts hiX12 hown hK hP 0 rfl rfl 16 (by decide) hf43 (fun _ z => z) rfl dX12_here_12 ?_
    refine lv_aload_n hx hb dX12_here_15 rfl (lv_at hl 0 rfl) ?_
    refine va_get (D := D) (ci := 12) (v := .int q_rowAt) (C := RX12) (T := TX12) (N := 18) hx hb hts hiX12 hown hK hP 0 rfl rfl 6 (by decide) hf119 (fun _ z => z) rfl dX12_here_16 ?_
    refine lv_aload_n hx hb dX12_here_19 rfl (lv_at hl 0 rfl) ?_
    refine va_get (D := D) (ci := 12) (v := .int q_place) (C := RX12) (T := TX12) (N := 18) hx hb hts hiX12 hown hK hP 0 rfl rfl 5 (by decide) hf112 (fun _ z => z) rfl dX12_here_20 ?_
    refine lv_iadd hx hb dX12_here_23 ?_
    obtain ⟨g24, h⟩ := k_guard h
    refine va_iald hx hb hK hP 1 0 rfl rfl g24 dX12_here_24 ?_
    refine lv_sipush (v := 255) hx hb dX12_here_25 (by decide) ?_
    refine lv_iand hx hb dX12_here_28 ?_
    refine lv_goto (tgt := 33) hx hb dX12_here_29 (by decide) ?_
    cases h
    exact hret _ _ _ _ hP hS dX12_here_33
abbrev Wd43 (cI : ClassId) (aR : Nat → Nat) (q_hasImage : Int32) (q_place : Int32) (q_rowAt : Int32) (q_rowEnd : Int32) (q_seed : Int32) (q_thrown : Int32) (q_numbers : Nat → Int32) (q_element : Nat → Int32) : va_W := [((aR 0), .inr (12, [.ref (aR 1), .ref (aR 2), .ref (aR 3), .ref (aR 4), .int q_hasImage, .int q_place, .int q_rowAt, .int q_rowEnd, .ref (aR 5), .ref (aR 6), .int q_seed, .ref (aR 7), .ref (aR 8), .ref (aR 9), .ref (aR 10), .ref (aR 11), .ref (aR 12), .int q_thrown])), ((aR 5), .inl (cI, 3, .inl q_numbers)), ((aR 12), .inl (cI, 800, .inl q_element))]
theorem kdV_X12_here : yX12_here.cls = RX12 ∧ yX12_here.cls ≠ "java/lang/invoke/MethodHandle" ∧ yX12_here.cls ≠ "java/lang/invoke/VarHandle" ∧ (parseMethodDescriptor yX12_here.desc).map (fun d => d.parameters.length) = some 0 := by decide +kernel
abbrev rm_X12_readsNumber : Room := { frames := 1, cells := 0, slots := 0, locals := 22 }
set_option maxHeartbeats 4000000 in
set_option maxRecDepth 100000 in
theorem c_MD_readsNumber (l : Launch) (D : va_G) (cI cM cS cJ : ClassId) (aR : Nat → Nat) (sz : Nat) (x1 : Int32) (x2 : Int32) (q_hasImage : Int32) (q_place : Int32) (q_rowAt : Int32) (q_rowEnd : Int32) (q_seed : Int32) (q_thrown : Int32) (q_numbers : Nat → Int32) (q_element : Nat → Int32) {o : (Int32) × (Int32) × (Nat → Int32)} (hsem : S_MD_readsNumber x1 x2 q_place q_rowAt q_rowEnd q_numbers q_element = some o) : kMet l yX12_readsNumber wsX12_readsNumber rm_X12_readsNumber [.ref (aR 0), .int x1, .int x2] D (kT cI cM cS cJ) (Wd43 cI aR q_hasImage q_place q_rowAt q_rowEnd q_seed q_thrown q_numbers q_element) sz (some (.int o.1)) (Wd43 cI aR q_hasImage o.2.1 q_rowAt q_rowEnd q_seed q_thrown o.2.2 q_element) := by
  refine k_metZ (by decide) rfl rfl (Nat.le_of_ble_eq_true rfl) ?_
  intro p e s m below meth c ls Q A hx hb hml hts hown hK hN hA hP hD hS hl hsz hnm hret
  have hown : s.vm.findClass RX12 = some m.cls := hown
  have hf22 := hts (.fieldLink RX12 22 "PlumbLineModel" "numbers" "[I") (List.mem_of_getElem? (i := 1) rfl)
  have hf112 := hts (.fieldLink RX12 112 "PlumbLineModel" "place" "I") (List.mem_of_getElem? (i := 2) rfl)
  have hiX12 : ∀ w ∈ u_ws RX12 TX12 18, w ∈ wsX12_readsNumber := fun w h => List.mem_cons_of_mem _ (List.mem_append_right _ h)
  replace hl : lv_has ls 4 [(0, .ref (aR 0)), (1, .int x1), (2, .int x2)] := hl
  have h := hsem
  clear hsem
  rw [S_MD_readsNumber] at h
  refine lv_aload_n hx hb dX12_readsNumber_0 rfl (lv_at hl 0 rfl) ?_
  refine va_get (D := D) (ci := 12) (v := .ref (aR 5)) (C := RX12) (T := TX12) (N := 18) hx hb hts hiX12 hown hK hP 0 rfl rfl 8 (by decide) hf22 (fun _ z => z) rfl dX12_readsNumber_1 ?_
  refine lv_iload_n hx hb dX12_readsNumber_4 rfl (lv_at hl 1 rfl) ?_
  refine lv_iconst (v := 0) hx hb dX12_readsNumber_5 (by decide) ?_
  obtain ⟨g6, h⟩ := k_guard h
  refine va_iast hx hb hK hP hD hS 1 0 rfl rfl g6 dX12_readsNumber_6 (fun H locs hP hD hS => ?_)
  replace hP : va_P D vwCl (Wd43 cI aR q_hasImage q_place q_rowAt q_rowEnd q_seed q_thrown (upd q_numbers x1.toNatClampNeg 0) q_element) H := hP
  replace hD : va_D A (Wd43 cI aR q_hasImage q_place q_rowAt q_rowEnd q_seed q_thrown (upd q_numbers x1.toNatClampNeg 0) q_element) := hD
  refine lv_iconst (v := 0) hx hb dX12_readsNumber_7 (by decide) ?_
  have B9 : ∀ (n9 : Nat) (y3 : Int32) (q_place : Int32) (q_numbers : Nat → Int32) (H : Heap) (locs : List Loc) (ls : Array Slot), va_P D vwCl (Wd43 cI aR q_hasImage q_place q_rowAt q_rowEnd q_seed q_thrown q_numbers q_element) H → va_D A (Wd43 cI aR q_hasImage q_place q_rowAt q_rowEnd q_seed q_thrown q_numbers q_element) → va_S A s.heap H locs → lv_has ls 4 [(0, .ref (aR 0)), (1, .int x1), (2, .int x2), (3, .int y3)] → S_MD_readsNumber_L9 x1 x2 q_rowAt q_rowEnd q_element n9 y3 q_place q_numbers = some o → W p l e rm_X12_readsNumber s m ([.ref (aR 0), .int x1, .int x2] : List Value).toArray below meth c H locs 0 0 Q (F0 m 9 ls []) := by
    intro n9
    induction n9 with
    | zero => intro y3 q_place q_numbers H locs ls hP hD hS hl h; exact absurd h (by simp [S_MD_readsNumber_L9])
    | succ n9 ih9 =>
      intro y3 q_place q_numbers H locs ls hP hD hS hl h
      rw [S_MD_readsNumber_L9] at h
      refine lv_iload_n hx hb dX12_readsNumber_9 rfl (lv_at hl 3 rfl) ?_
      refine lv_iload_n hx hb dX12_readsNumber_10 rfl (lv_at hl 2 rfl) ?_
      refine lv_icmp_ge (tgt := 69) hx hb dX12_readsNumber_11 (by decide) (fun c11 => ?_) (fun c11 => ?_)
      · have h := k_pos c11 h
        refine lv_iconst (v := 1) hx hb dX12_readsNumber_69 (by decide) ?_
        cases h
        exact hret _ _ _ _ rfl hP hS dX12_readsNumber_70
      · have h := k_neg c11 h
        refine lv_aload_n hx hb dX12_readsNumber_14 rfl (lv_at hl 0 rfl) ?_
        obtain ⟨r15, g15, h⟩ := k_bind h
        refine k_callV (As := []) (rest := []) (st1 := [.int r15]) (ws2 := (Wd43 cI aR q_hasImage q_place q_rowAt q_rowEnd q_seed q_thrown q_numbers q_element)) hx hb hml hown hts hK hN hA hP hD hS hl (c_MD_here l D cI cM cS cJ aR H.size q_hasImage q_place q_rowAt q_rowEnd q_seed q_thrown q_element g15) gX12_readsNumber_X12_here rfl kdV_X12_here 0 12 rfl rfl rfl [0, 2] ⟨rfl, rfl⟩ ⟨Nat.le_of_ble_eq_true rfl, Nat.le_of_ble_eq_true rfl⟩ ⟨Nat.zero_le _, Nat.zero_le _⟩ rfl rfl (by decide +kernel) rfl rfl rfl (Nat.le_of_ble_eq_true rfl) dX12_readsNumber_15 rfl (fun H locs hP hD hS => ?_)
        refine lv_bipush (v := 48) hx hb dX12_readsNumber_18 (by decide) ?_
        refine lv_bipush (v := 57) hx hb dX12_readsNumber_20 (by decide) ?_
        refine k_callS (As := [.int r15, .int 48, .int 57]) (rest := []) (st1 := [.int (S_MD_isIn r15 48 57)]) (ws2 := (Wd43 cI aR q_hasImage q_place q_rowAt q_rowEnd q_seed q_thrown q_numbers q_element)) hx hb hml hown hts hK hN hA hP hD hS hl (c_MD_isIn l D cI cM cS cJ H.size r15 48 57 rfl) gX12_readsNumber_X12_isIn rfl kdS_X12_isIn [] ⟨rfl, rfl⟩ ⟨Nat.le_of_ble_eq_true rfl, Nat.le_of_ble_eq_true rfl⟩ ⟨Nat.zero_le _, Nat.zero_le _⟩ rfl rfl (by decide +kernel) rfl rfl rfl (Nat.le_of_ble_eq_true rfl) dX12_readsNumber_22 rfl (fun H locs hP hD hS => ?_)
        refine lv_if_ne (tgt := 30) hx hb dX12_readsNumber_25 (by decide) (fun c25 => ?_) (fun c25 => ?_)
        · have h := k_neg c25 h
          refine lv_aload_n hx hb dX12_readsNumber_30 rfl (lv_at hl 0 rfl) ?_
          refine va_get (D := D) (ci := 12) (v := .ref (aR 5)) (C := RX12) (T := TX12) (N := 18) hx hb hts hiX12 hown hK hP 0 rfl rfl 8 (by decide) hf22 (fun _ z => z) rfl dX12_readsNumber_31 ?_
          refine lv_iload_n hx hb dX12_readsNumber_34 rfl (lv_at hl 1 rfl) ?_
          refine lv_bipush (v := 10) hx hb dX12_readsNumber_35 (by decide) ?_
          refine lv_aload_n hx hb dX12_readsNumber_37 rfl (lv_at hl 0 rfl) ?_
          refine va_get (D := D) (ci := 12) (v := .ref (aR 5)) (C := RX12) (T := TX12) (N := 18) hx hb hts hiX12 hown hK hP 0 rfl rfl 8 (by decide) hf22 (fun _ z => z) rfl dX12_readsNumber_38 ?_
          refine lv_iload_n hx hb dX12_readsNumber_41 rfl (lv_at hl 1 rfl) ?_
          obtain ⟨g42, h⟩ := k_guard h
          refine va_iald hx hb hK hP 1 0 rfl rfl g42 dX12_readsNumber_42 ?_
          refine lv_imul hx hb dX12_readsNumber_43 ?_
          refine lv_aload_n hx hb dX12_readsNumber_44 rfl (lv_at hl 0 rfl) ?_
          obtain ⟨r45, g45, h⟩ := k_bind h
          refine k_callV (As := []) (rest := [.int ((10 : Int32) * (q_numbers x1.toNatClampNeg)), .int x1, .ref (aR 5)]) (st1 := [.int r45, .int ((10 : Int32) * (q_numbers x1.toNatClampNeg)), .int x1, .ref (aR 5)]) (ws2 := (Wd43 cI aR q_hasImage q_place q_rowAt q_rowEnd q_seed q_thrown q_numbers q_element)) hx hb hml hown hts hK hN hA hP hD hS hl (c_MD_here l D cI cM cS cJ aR H.size q_hasImage q_place q_rowAt q_rowEnd q_seed q_thrown q_element g45) gX12_readsNumber_X12_here rfl kdV_X12_here 0 12 rfl rfl rfl [0, 2] ⟨rfl, rfl⟩ ⟨Nat.le_of_ble_eq_true rfl, Nat.le_of_ble_eq_true rfl⟩ ⟨Nat.zero_le _, Nat.zero_le _⟩ rfl rfl (by decide +kernel) rfl rfl rfl (Nat.le_of_ble_eq_true rfl) dX12_readsNumber_45 rfl (fun H locs hP hD hS => ?_)
          refine lv_iadd hx hb dX12_readsNumber_48 ?_
          refine lv_bipush (v := 48) hx hb dX12_readsNumber_49 (by decide) ?_
          refine lv_isub hx hb dX12_readsNumber_51 ?_
          refine va_iast hx hb hK hP hD hS 1 0 rfl rfl g42 dX12_readsNumber_52 (fun H locs hP hD hS => ?_)
          replace hP : va_P D vwCl (Wd43 cI aR q_hasImage q_place q_rowAt q_rowEnd q_seed q_thrown (upd q_numbers x1.toNatClampNeg ((((10 : Int32) * (q_numbers x1.toNatClampNeg)) + r45) - 48)) q_element) H := hP
          replace hD : va_D A (Wd43 cI aR q_hasImage q_place q_rowAt q_rowEnd q_seed q_thrown (upd q_numbers x1.toNatClampNeg ((((10 : Int32) * (q_numbers x1.toNatClampNeg)) + r45) - 48)) q_element) := hD
          refine lv_aload_n hx hb dX12_readsNumber_53 rfl (lv_at hl 0 rfl) ?_
          refine lv_dup hx hb dX12_readsNumber_54 rfl ?_
          refine va_get (D := D) (ci := 12) (v := .int q_place) (C := RX12) (T := TX12) (N := 18) hx hb hts hiX12 hown hK hP 0 rfl rfl 5 (by decide) hf112 (fun _ z => z) rfl dX12_readsNumber_55 ?_
          refine lv_iconst (v := 1) hx hb dX12_readsNumber_58 (by decide) ?_
          refine lv_iadd hx hb dX12_readsNumber_59 ?_
          refine va_put (D := D) (ci := 12) (v := .int (q_place + 1)) (ty := .int) (C := RX12) (T := TX12) (N := 18) hx hb hts hiX12 tyX12 tyX12_ok nmX12 hown hK hP hD hS 0 rfl rfl 5 (by decide) hf112 (fun _ z => z) rfl (by decide +kernel) rfl rfl (Nat.le_of_ble_eq_true rfl) dX12_readsNumber_60 (fun H locs hP hD hS => ?_)
          replace hP : va_P D vwCl (Wd43 cI aR q_hasImage (q_place + 1) q_rowAt q_rowEnd q_seed q_thrown (upd q_numbers x1.toNatClampNeg ((((10 : Int32) * (q_numbers x1.toNatClampNeg)) + r45) - 48)) q_element) H := hP
          replace hD : va_D A (Wd43 cI aR q_hasImage (q_place + 1) q_rowAt q_rowEnd q_seed q_thrown (upd q_numbers x1.toNatClampNeg ((((10 : Int32) * (q_numbers x1.toNatClampNeg)) + r45) - 48)) q_element) := hD
          refine lv_iinc (v := (y3 + 1)) (lv' := [(3, .int (y3 + 1)), (0, .ref (aR 0)), (1, .int x1), (2, .int x2)]) hx hb dX12_readsNumber_63 hl (k := 3) rfl (by first | rfl | decide) (by decide) rfl (fun ls hl => ?_)
          refine lv_goto (tgt := 9) hx hb dX12_readsNumber_66 (by decide) ?_
          exact ih9 (y3 + 1) (q_place + 1) (upd q_numbers x1.toNatClampNeg ((((10 : Int32) * (q_numbers x1.toNatClampNeg)) + r45) - 48)) H locs ls hP hD hS (lv_sub hl [1, 2, 3, 0] rfl) h
        · have h := k_pos c25 h
          refine lv_iconst (v := 0) hx hb dX12_readsNumber_28 (by decide) ?_
          cases h
          exact hret _ _ _ _ rfl hP hS dX12_readsNumber_29
  refine lv_istore_n (lv' := [(3, .int 0), (0, .ref (aR 0)), (1, .int x1), (2, .int x2)]) hx hb dX12_readsNumber_8 rfl hl (by decide) rfl (fun ls hl => ?_)
  exact B9 lfu 0 q_place (upd q_numbers x1.toNatClampNeg 0) H locs ls hP hD hS (lv_sub hl [1, 2, 3, 0] rfl) h
theorem kdV_X12_readsNumber : yX12_readsNumber.cls = RX12 ∧ yX12_readsNumber.cls ≠ "java/lang/invoke/MethodHandle" ∧ yX12_readsNumber.cls ≠ "java/lang/invoke/VarHandle" ∧ (parseMethodDescriptor yX12_readsNumber.desc).map (fun d => d.parameters.length) = some 2 := by decide +kernel
abbrev rm_X12_readsStatement : Room := { frames := 2, cells := 0, slots := 0, locals := 45 }
set_option maxHeartbeats 4000000 in
set_option maxRecDepth 100000 in
theorem c_MD_readsStatement (l : Launch) (D : va_G) (cI cM cS cJ : ClassId) (aR : Nat → Nat) (sz : Nat) (q_hasImage : Int32) (q_place : Int32) (q_rowAt : Int32) (q_rowEnd : Int32) (q_seed : Int32) (q_thrown : Int32) (q_numbers : Nat → Int32) (q_element : Nat → Int32) {o : (Int32) × (Int32) × (Nat → Int32)} (hsem : S_MD_readsStatement q_place q_rowAt q_rowEnd q_numbers q_element = some o) : kMet l yX12_readsStatement wsX12_readsStatement rm_X12_readsStatement [.ref (aR 0)] D (kT cI cM cS cJ) (Wd43 cI aR q_hasImage q_place q_rowAt q_rowEnd q_seed q_thrown q_numbers q_element) sz (some (.int o.1)) (Wd43 cI aR q_hasImage o.2.1 q_rowAt q_rowEnd q_seed q_thrown o.2.2 q_element) := by
  refine k_metZ (by decide) rfl rfl (Nat.le_of_ble_eq_true rfl) ?_
  intro p e s m below meth c ls Q A hx hb hml hts hown hK hN hA hP hD hS hl hsz hnm hret
  have hown : s.vm.findClass RX12 = some m.cls := hown
  have hf112 := hts (.fieldLink RX12 112 "PlumbLineModel" "place" "I") (List.mem_of_getElem? (i := 1) rfl)
  have hiX12 : ∀ w ∈ u_ws RX12 TX12 18, w ∈ wsX12_readsStatement := fun w h => List.mem_cons_of_mem _ (List.mem_append_right _ h)
  replace hl : lv_has ls 3 [(0, .ref (aR 0))] := hl
  have h := hsem
  clear hsem
  rw [S_MD_readsStatement] at h
  refine lv_aload_n hx hb dX12_readsStatement_0 rfl (lv_at hl 0 rfl) ?_
  obtain ⟨r1, g1, h⟩ := k_bind h
  refine k_callV (As := []) (rest := []) (st1 := [.int r1]) (ws2 := (Wd43 cI aR q_hasImage q_place q_rowAt q_rowEnd q_seed q_thrown q_numbers q_element)) hx hb hml hown hts hK hN hA hP hD hS hl (c_MD_here l D cI cM cS cJ aR s.heap.size q_hasImage q_place q_rowAt q_rowEnd q_seed q_thrown q_element g1) gX12_readsStatement_X12_here rfl kdV_X12_here 0 12 rfl rfl rfl [0, 2] ⟨rfl, rfl⟩ ⟨Nat.le_of_ble_eq_true rfl, Nat.le_of_ble_eq_true rfl⟩ ⟨Nat.zero_le _, Nat.zero_le _⟩ rfl rfl (by decide +kernel) rfl rfl rfl (Nat.le_of_ble_eq_true rfl) dX12_readsStatement_1 rfl (fun H locs hP hD hS => ?_)
  refine lv_istore_n (lv' := [(1, .int r1), (0, .ref (aR 0))]) hx hb dX12_readsStatement_4 rfl hl (by decide) rfl (fun ls hl => ?_)
  refine lv_aload_n hx hb dX12_readsStatement_5 rfl (lv_at hl 1 rfl) ?_
  refine lv_dup hx hb dX12_readsStatement_6 rfl ?_
  refine va_get (D := D) (ci := 12) (v := .int q_place) (C := RX12) (T := TX12) (N := 18) hx hb hts hiX12 hown hK hP 0 rfl rfl 5 (by decide) hf112 (fun _ z => z) rfl dX12_readsStatement_7 ?_
  refine lv_iconst (v := 1) hx hb dX12_readsStatement_10 (by decide) ?_
  refine lv_iadd hx hb dX12_readsStatement_11 ?_
  refine va_put (D := D) (ci := 12) (v := .int (q_place + 1)) (ty := .int) (C := RX12) (T := TX12) (N := 18) hx hb hts hiX12 tyX12 tyX12_ok nmX12 hown hK hP hD hS 0 rfl rfl 5 (by decide) hf112 (fun _ z => z) rfl (by decide +kernel) rfl rfl (Nat.le_of_ble_eq_true rfl) dX12_readsStatement_12 (fun H locs hP hD hS => ?_)
  replace hP : va_P D vwCl (Wd43 cI aR q_hasImage (q_place + 1) q_rowAt q_rowEnd q_seed q_thrown q_numbers q_element) H := hP
  replace hD : va_D A (Wd43 cI aR q_hasImage (q_place + 1) q_rowAt q_rowEnd q_seed q_thrown q_numbers q_element) := hD
  refine lv_iload_n hx hb dX12_readsStatement_15 rfl (lv_at hl 0 rfl) ?_
  have B190 : ∀ (y2 : Int32) (q_place : Int32) (q_numbers : Nat → Int32) (H : Heap) (locs : List Loc) (ls : Array Slot), va_P D vwCl (Wd43 cI aR q_hasImage q_place q_rowAt q_rowEnd q_seed q_thrown q_numbers q_element) H → va_D A (Wd43 cI aR q_hasImage q_place q_rowAt q_rowEnd q_seed q_thrown q_numbers q_element) → va_S A s.heap H locs → lv_has ls 3 [(0, .ref (aR 0)), (2, .int y2)] → S_MD_readsStatement_J190 y2 q_rowAt q_rowEnd q_element q_place q_numbers = some o → W p l e rm_X12_readsStatement s m ([.ref (aR 0)] : List Value).toArray below meth c H locs 0 0 Q (F0 m 190 ls []) := by
    intro y2 q_place q_numbers H locs ls hP hD hS hl h
    rw [S_MD_readsStatement_J190] at h
    refine lv_iload_n hx hb dX12_readsStatement_190 rfl (lv_at hl 1 rfl) ?_
    refine lv_if_eq (tgt := 203) hx hb dX12_readsStatement_191 (by decide) (fun c191 => ?_) (fun c191 => ?_)
    · have h := k_pos c191 h
      refine lv_iconst (v := 0) hx hb dX12_readsStatement_203 (by decide) ?_
      cases h
      exact hret _ _ _ _ rfl hP hS dX12_readsStatement_204
    · have h := k_neg c191 h
      refine lv_aload_n hx hb dX12_readsStatement_194 rfl (lv_at hl 0 rfl) ?_
      obtain ⟨r195, g195, h⟩ := k_bind h
      refine k_callV (As := []) (rest := []) (st1 := [.int r195]) (ws2 := (Wd43 cI aR q_hasImage q_place q_rowAt q_rowEnd q_seed q_thrown q_numbers q_element)) hx hb hml hown hts hK hN hA hP hD hS hl (c_MD_here l D cI cM cS cJ aR H.size q_hasImage q_place q_rowAt q_rowEnd q_seed q_thrown q_element g195) gX12_readsStatement_X12_here rfl kdV_X12_here 0 12 rfl rfl rfl [0, 2] ⟨rfl, rfl⟩ ⟨Nat.le_of_ble_eq_true rfl, Nat.le_of_ble_eq_true rfl⟩ ⟨Nat.zero_le _, Nat.zero_le _⟩ rfl rfl (by decide +kernel) rfl rfl rfl (Nat.le_of_ble_eq_true rfl) dX12_readsStatement_195 rfl (fun H locs hP hD hS => ?_)
      refine lv_bipush (v := 59) hx hb dX12_readsStatement_198 (by decide) ?_
      refine lv_icmp_eq (tgt := 205) hx hb dX12_readsStatement_200 (by decide) (fun c200 => ?_) (fun c200 => ?_)
      · have h := k_pos c200 h
        refine lv_aload_n hx hb dX12_readsStatement_205 rfl (lv_at hl 0 rfl) ?_
        refine lv_dup hx hb dX12_readsStatement_206 rfl ?_
        refine va_get (D := D) (ci := 12) (v := .int q_place) (C := RX12) (T := TX12) (N := 18) hx hb hts hiX12 hown hK hP 0 rfl rfl 5 (by decide) hf112 (fun _ z => z) rfl dX12_readsStatement_207 ?_
        refine lv_iconst (v := 1) hx hb dX12_readsStatement_210 (by decide) ?_
        refine lv_iadd hx hb dX12_readsStatement_211 ?_
        refine va_put (D := D) (ci := 12) (v := .int (q_place + 1)) (ty := .int) (C := RX12) (T := TX12) (N := 18) hx hb hts hiX12 tyX12 tyX12_ok nmX12 hown hK hP hD hS 0 rfl rfl 5 (by decide) hf112 (fun _ z => z) rfl (by decide +kernel) rfl rfl (Nat.le_of_ble_eq_true rfl) dX12_readsStatement_212 (fun H locs hP hD hS => ?_)
        replace hP : va_P D vwCl (Wd43 cI aR q_hasImage (q_place + 1) q_rowAt q_rowEnd q_seed q_thrown q_numbers q_element) H := hP
        replace hD : va_D A (Wd43 cI aR q_hasImage (q_place + 1) q_rowAt q_rowEnd q_seed q_thrown q_numbers q_element) := hD
        refine lv_iconst (v := 1) hx hb dX12_readsStatement_215 (by decide) ?_
        cases h
        exact hret _ _ _ _ rfl hP hS dX12_readsStatement_216
      · have h := k_neg c200 h
        refine lv_iconst (v := 0) hx hb dX12_readsStatement_203 (by decide) ?_
        cases h
        exact hret _ _ _ _ rfl hP hS dX12_readsStatement_204
  by_cases s16_100 : r1 = 100
  · refine k_lkI (tgt := 168) (v := 100) hx hb dX12_readsStatement_16 s16_100 rfl rfl (by decide) ?_
    have h := k_pos s16_100 h
    refine lv_aload_n hx hb dX12_readsStatement_168 rfl (lv_at hl 1 rfl) ?_
    refine lv_iconst (v := 0) hx hb dX12_readsStatement_169 (by decide) ?_
    refine lv_iconst (v := 2) hx hb dX12_readsStatement_170 (by decide) ?_
    obtain ⟨r171, g171, h⟩ := k_bind h
    refine k_callV (As := [.int 0, .int 2]) (rest := []) (st1 := [.int r171.1]) (ws2 := (Wd43 cI aR q_hasImage r171.2.1 q_rowAt q_rowEnd q_seed q_thrown r171.2.2 q_element)) hx hb hml hown hts hK hN hA hP hD hS hl (c_MD_readsNumber l D cI cM cS cJ aR H.size 0 2 q_hasImage (q_place + 1) q_rowAt q_rowEnd q_seed q_thrown q_numbers q_element g171) gX12_readsStatement_X12_readsNumber rfl kdV_X12_readsNumber 0 12 rfl rfl rfl [0, 1, 2] ⟨rfl, rfl⟩ ⟨Nat.le_of_ble_eq_true rfl, Nat.le_of_ble_eq_true rfl⟩ ⟨Nat.zero_le _, Nat.zero_le _⟩ rfl rfl (by decide +kernel) rfl rfl rfl (Nat.le_of_ble_eq_true rfl) dX12_readsStatement_171 rfl (fun H locs hP hD hS => ?_)
    refine lv_istore_n (lv' := [(2, .int r171.1), (1, .int r1), (0, .ref (aR 0))]) hx hb dX12_readsStatement_174 rfl hl (by decide) rfl (fun ls hl => ?_)
    refine lv_goto (tgt := 190) hx hb dX12_readsStatement_175 (by decide) ?_
    exact B190 r171.1 r171.2.1 r171.2.2 H locs ls hP hD hS (lv_sub hl [2, 0] rfl) h
  · have h := k_neg s16_100 h
    by_cases s16_108 : r1 = 108
    · refine k_lkI (tgt := 104) (v := 108) hx hb dX12_readsStatement_16 s16_108 rfl rfl (by decide) ?_
      have h := k_pos s16_108 h
      refine lv_aload_n hx hb dX12_readsStatement_104 rfl (lv_at hl 1 rfl) ?_
      refine lv_iconst (v := 0) hx hb dX12_readsStatement_105 (by decide) ?_
      refine lv_iconst (v := 1) hx hb dX12_readsStatement_106 (by decide) ?_
      obtain ⟨r107, g107, h⟩ := k_bind h
      refine k_callV (As := [.int 0, .int 1]) (rest := []) (st1 := [.int r107.1]) (ws2 := (Wd43 cI aR q_hasImage r107.2.1 q_rowAt q_rowEnd q_seed q_thrown r107.2.2 q_element)) hx hb hml hown hts hK hN hA hP hD hS hl (c_MD_readsNumber l D cI cM cS cJ aR H.size 0 1 q_hasImage (q_place + 1) q_rowAt q_rowEnd q_seed q_thrown q_numbers q_element g107) gX12_readsStatement_X12_readsNumber rfl kdV_X12_readsNumber 0 12 rfl rfl rfl [0, 1, 2] ⟨rfl, rfl⟩ ⟨Nat.le_of_ble_eq_true rfl, Nat.le_of_ble_eq_true rfl⟩ ⟨Nat.zero_le _, Nat.zero_le _⟩ rfl rfl (by decide +kernel) rfl rfl rfl (Nat.le_of_ble_eq_true rfl) dX12_readsStatement_107 rfl (fun H locs hP hD hS => ?_)
      have B127 : ∀ (v0 : Int32) (q_place : Int32) (q_numbers : Nat → Int32) (H : Heap) (locs : List Loc) (ls : Array Slot), va_P D vwCl (Wd43 cI aR q_hasImage q_place q_rowAt q_rowEnd q_seed q_thrown q_numbers q_element) H → va_D A (Wd43 cI aR q_hasImage q_place q_rowAt q_rowEnd q_seed q_thrown q_numbers q_element) → va_S A s.heap H locs → lv_has ls 3 [(0, .ref (aR 0))] → S_MD_readsStatement_J127 v0 q_rowAt q_rowEnd q_element q_place q_numbers = some o → W p l e rm_X12_readsStatement s m ([.ref (aR 0)] : List Value).toArray below meth c H locs 0 0 Q (F0 m 127 ls [.int v0]) := by
        intro v0 q_place q_numbers H locs ls hP hD hS hl h
        rw [S_MD_readsStatement_J127] at h
        refine lv_istore_n (lv' := [(2, .int v0), (0, .ref (aR 0))]) hx hb dX12_readsStatement_127 rfl hl (by decide) rfl (fun ls hl => ?_)
        refine lv_goto (tgt := 190) hx hb dX12_readsStatement_128 (by decide) ?_
        exact B190 v0 q_place q_numbers H locs ls hP hD hS (lv_sub hl [1, 0] rfl) h
      have B126 : ∀ (q_place : Int32) (q_numbers : Nat → Int32) (H : Heap) (locs : List Loc) (ls : Array Slot), va_P D vwCl (Wd43 cI aR q_hasImage q_place q_rowAt q_rowEnd q_seed q_thrown q_numbers q_element) H → va_D A (Wd43 cI aR q_hasImage q_place q_rowAt q_rowEnd q_seed q_thrown q_numbers q_element) → va_S A s.heap H locs → lv_has ls 3 [(0, .ref (aR 0))] → S_MD_readsStatement_J126 q_rowAt q_rowEnd q_element q_place q_numbers = some o → W p l e rm_X12_readsStatement s m ([.ref (aR 0)] : List Value).toArray below meth c H locs 0 0 Q (F0 m 126 ls []) := by
        intro q_place q_numbers H locs ls hP hD hS hl h
        rw [S_MD_readsStatement_J126] at h
        refine lv_iconst (v := 0) hx hb dX12_readsStatement_126 (by decide) ?_
        exact B127 0 q_place q_numbers H locs ls hP hD hS hl h
      refine lv_if_eq (tgt := 126) hx hb dX12_readsStatement_110 (by decide) (fun c110 => ?_) (fun c110 => ?_)
      · have h := k_pos c110 h
        exact B126 r107.2.1 r107.2.2 H locs ls hP hD hS (lv_sub hl [1] rfl) h
      · have h := k_neg c110 h
        refine lv_aload_n hx hb dX12_readsStatement_113 rfl (lv_at hl 1 rfl) ?_
        refine lv_iconst (v := 1) hx hb dX12_readsStatement_114 (by decide) ?_
        refine lv_iconst (v := 2) hx hb dX12_readsStatement_115 (by decide) ?_
        obtain ⟨r116, g116, h⟩ := k_bind h
        refine k_callV (As := [.int 1, .int 2]) (rest := []) (st1 := [.int r116.1]) (ws2 := (Wd43 cI aR q_hasImage r116.2.1 q_rowAt q_rowEnd q_seed q_thrown r116.2.2 q_element)) hx hb hml hown hts hK hN hA hP hD hS hl (c_MD_readsNumber l D cI cM cS cJ aR H.size 1 2 q_hasImage r107.2.1 q_rowAt q_rowEnd q_seed q_thrown r107.2.2 q_element g116) gX12_readsStatement_X12_readsNumber rfl kdV_X12_readsNumber 0 12 rfl rfl rfl [0, 1, 2] ⟨rfl, rfl⟩ ⟨Nat.le_of_ble_eq_true rfl, Nat.le_of_ble_eq_true rfl⟩ ⟨Nat.zero_le _, Nat.zero_le _⟩ rfl rfl (by decide +kernel) rfl rfl rfl (Nat.le_of_ble_eq_true rfl) dX12_readsStatement_116 rfl (fun H locs hP hD hS => ?_)
        refine lv_if_eq (tgt := 126) hx hb dX12_readsStatement_119 (by decide) (fun c119 => ?_) (fun c119 => ?_)
        · have h := k_pos c119 h
          exact B126 r116.2.1 r116.2.2 H locs ls hP hD hS (lv_sub hl [1] rfl) h
        · have h := k_neg c119 h
          refine lv_iconst (v := 1) hx hb dX12_readsStatement_122 (by decide) ?_
          refine lv_goto (tgt := 127) hx hb dX12_readsStatement_123 (by decide) ?_
          exact B127 1 r116.2.1 r116.2.2 H locs ls hP hD hS (lv_sub hl [1] rfl) h
    · have h := k_neg s16_108 h
      by_cases s16_109 : r1 = 109
      · refine k_lkI (tgt := 68) (v := 109) hx hb dX12_readsStatement_16 s16_109 rfl rfl (by decide) ?_
        have h := k_pos s16_109 h
        refine lv_aload_n hx hb dX12_readsStatement_68 rfl (lv_at hl 1 rfl) ?_
        refine lv_iconst (v := 0) hx hb dX12_readsStatement_69 (by decide) ?_
        refine lv_iconst (v := 1) hx hb dX12_readsStatement_70 (by decide) ?_
        obtain ⟨r71, g71, h⟩ := k_bind h
        refine k_callV (As := [.int 0, .int 1]) (rest := []) (st1 := [.int r71.1]) (ws2 := (Wd43 cI aR q_hasImage r71.2.1 q_rowAt q_rowEnd q_seed q_thrown r71.2.2 q_element)) hx hb hml hown hts hK hN hA hP hD hS hl (c_MD_readsNumber l D cI cM cS cJ aR H.size 0 1 q_hasImage (q_place + 1) q_rowAt q_rowEnd q_seed q_thrown q_numbers q_element g71) gX12_readsStatement_X12_readsNumber rfl kdV_X12_readsNumber 0 12 rfl rfl rfl [0, 1, 2] ⟨rfl, rfl⟩ ⟨Nat.le_of_ble_eq_true rfl, Nat.le_of_ble_eq_true rfl⟩ ⟨Nat.zero_le _, Nat.zero_le _⟩ rfl rfl (by decide +kernel) rfl rfl rfl (Nat.le_of_ble_eq_true rfl) dX12_readsStatement_71 rfl (fun H locs hP hD hS => ?_)
        have B100 : ∀ (v0 : Int32) (q_place : Int32) (q_numbers : Nat → Int32) (H : Heap) (locs : List Loc) (ls : Array Slot), va_P D vwCl (Wd43 cI aR q_hasImage q_place q_rowAt q_rowEnd q_seed q_thrown q_numbers q_element) H → va_D A (Wd43 cI aR q_hasImage q_place q_rowAt q_rowEnd q_seed q_thrown q_numbers q_element) → va_S A s.heap H locs → lv_has ls 3 [(0, .ref (aR 0))] → S_MD_readsStatement_J100 v0 q_rowAt q_rowEnd q_element q_place q_numbers = some o → W p l e rm_X12_readsStatement s m ([.ref (aR 0)] : List Value).toArray below meth c H locs 0 0 Q (F0 m 100 ls [.int v0]) := by
          intro v0 q_place q_numbers H locs ls hP hD hS hl h
          rw [S_MD_readsStatement_J100] at h
          refine lv_istore_n (lv' := [(2, .int v0), (0, .ref (aR 0))]) hx hb dX12_readsStatement_100 rfl hl (by decide) rfl (fun ls hl => ?_)
          refine lv_goto (tgt := 190) hx hb dX12_readsStatement_101 (by decide) ?_
          exact B190 v0 q_place q_numbers H locs ls hP hD hS (lv_sub hl [1, 0] rfl) h
        have B99 : ∀ (q_place : Int32) (q_numbers : Nat → Int32) (H : Heap) (locs : List Loc) (ls : Array Slot), va_P D vwCl (Wd43 cI aR q_hasImage q_place q_rowAt q_rowEnd q_seed q_thrown q_numbers q_element) H → va_D A (Wd43 cI aR q_hasImage q_place q_rowAt q_rowEnd q_seed q_thrown q_numbers q_element) → va_S A s.heap H locs → lv_has ls 3 [(0, .ref (aR 0))] → S_MD_readsStatement_J99 q_rowAt q_rowEnd q_element q_place q_numbers = some o → W p l e rm_X12_readsStatement s m ([.ref (aR 0)] : List Value).toArray below meth c H locs 0 0 Q (F0 m 99 ls []) := by
          intro q_place q_numbers H locs ls hP hD hS hl h
          rw [S_MD_readsStatement_J99] at h
          refine lv_iconst (v := 0) hx hb dX12_readsStatement_99 (by decide) ?_
          exact B100 0 q_place q_numbers H locs ls hP hD hS hl h
        refine lv_if_eq (tgt := 99) hx hb dX12_readsStatement_74 (by decide) (fun c74 => ?_) (fun c74 => ?_)
        · have h := k_pos c74 h
          exact B99 r71.2.1 r71.2.2 H locs ls hP hD hS (lv_sub hl [1] rfl) h
        · have h := k_neg c74 h
          refine lv_aload_n hx hb dX12_readsStatement_77 rfl (lv_at hl 1 rfl) ?_
          refine lv_iconst (v := 1) hx hb dX12_readsStatement_78 (by decide) ?_
          refine lv_iconst (v := 1) hx hb dX12_readsStatement_79 (by decide) ?_
          obtain ⟨r80, g80, h⟩ := k_bind h
          refine k_callV (As := [.int 1, .int 1]) (rest := []) (st1 := [.int r80.1]) (ws2 := (Wd43 cI aR q_hasImage r80.2.1 q_rowAt q_rowEnd q_seed q_thrown r80.2.2 q_element)) hx hb hml hown hts hK hN hA hP hD hS hl (c_MD_readsNumber l D cI cM cS cJ aR H.size 1 1 q_hasImage r71.2.1 q_rowAt q_rowEnd q_seed q_thrown r71.2.2 q_element g80) gX12_readsStatement_X12_readsNumber rfl kdV_X12_readsNumber 0 12 rfl rfl rfl [0, 1, 2] ⟨rfl, rfl⟩ ⟨Nat.le_of_ble_eq_true rfl, Nat.le_of_ble_eq_true rfl⟩ ⟨Nat.zero_le _, Nat.zero_le _⟩ rfl rfl (by decide +kernel) rfl rfl rfl (Nat.le_of_ble_eq_true rfl) dX12_readsStatement_80 rfl (fun H locs hP hD hS => ?_)
          refine lv_if_eq (tgt := 99) hx hb dX12_readsStatement_83 (by decide) (fun c83 => ?_) (fun c83 => ?_)
          · have h := k_pos c83 h
            exact B99 r80.2.1 r80.2.2 H locs ls hP hD hS (lv_sub hl [1] rfl) h
          · have h := k_neg c83 h
            refine lv_aload_n hx hb dX12_readsStatement_86 rfl (lv_at hl 1 rfl) ?_
            refine lv_iconst (v := 2) hx hb dX12_readsStatement_87 (by decide) ?_
            refine lv_iconst (v := 2) hx hb dX12_readsStatement_88 (by decide) ?_
            obtain ⟨r89, g89, h⟩ := k_bind h
            refine k_callV (As := [.int 2, .int 2]) (rest := []) (st1 := [.int r89.1]) (ws2 := (Wd43 cI aR q_hasImage r89.2.1 q_rowAt q_rowEnd q_seed q_thrown r89.2.2 q_element)) hx hb hml hown hts hK hN hA hP hD hS hl (c_MD_readsNumber l D cI cM cS cJ aR H.size 2 2 q_hasImage r80.2.1 q_rowAt q_rowEnd q_seed q_thrown r80.2.2 q_element g89) gX12_readsStatement_X12_readsNumber rfl kdV_X12_readsNumber 0 12 rfl rfl rfl [0, 1, 2] ⟨rfl, rfl⟩ ⟨Nat.le_of_ble_eq_true rfl, Nat.le_of_ble_eq_true rfl⟩ ⟨Nat.zero_le _, Nat.zero_le _⟩ rfl rfl (by decide +kernel) rfl rfl rfl (Nat.le_of_ble_eq_true rfl) dX12_readsStatement_89 rfl (fun H locs hP hD hS => ?_)
            refine lv_if_eq (tgt := 99) hx hb dX12_readsStatement_92 (by decide) (fun c92 => ?_) (fun c92 => ?_)
            · have h := k_pos c92 h
              exact B99 r89.2.1 r89.2.2 H locs ls hP hD hS (lv_sub hl [1] rfl) h
            · have h := k_neg c92 h
              refine lv_iconst (v := 1) hx hb dX12_readsStatement_95 (by decide) ?_
              refine lv_goto (tgt := 100) hx hb dX12_readsStatement_96 (by decide) ?_
              exact B100 1 r89.2.1 r89.2.2 H locs ls hP hD hS (lv_sub hl [1] rfl) h
      · have h := k_neg s16_109 h
        by_cases s16_114 : r1 = 114
        · refine k_lkI (tgt := 131) (v := 114) hx hb dX12_readsStatement_16 s16_114 rfl rfl (by decide) ?_
          have h := k_pos s16_114 h
          refine lv_aload_n hx hb dX12_readsStatement_131 rfl (lv_at hl 1 rfl) ?_
          refine lv_iconst (v := 0) hx hb dX12_readsStatement_132 (by decide) ?_
          refine lv_iconst (v := 1) hx hb dX12_readsStatement_133 (by decide) ?_
          obtain ⟨r134, g134, h⟩ := k_bind h
          refine k_callV (As := [.int 0, .int 1]) (rest := []) (st1 := [.int r134.1]) (ws2 := (Wd43 cI aR q_hasImage r134.2.1 q_rowAt q_rowEnd q_seed q_thrown r134.2.2 q_element)) hx hb hml hown hts hK hN hA hP hD hS hl (c_MD_readsNumber l D cI cM cS cJ aR H.size 0 1 q_hasImage (q_place + 1) q_rowAt q_rowEnd q_seed q_thrown q_numbers q_element g134) gX12_readsStatement_X12_readsNumber rfl kdV_X12_readsNumber 0 12 rfl rfl rfl [0, 1, 2] ⟨rfl, rfl⟩ ⟨Nat.le_of_ble_eq_true rfl, Nat.le_of_ble_eq_true rfl⟩ ⟨Nat.zero_le _, Nat.zero_le _⟩ rfl rfl (by decide +kernel) rfl rfl rfl (Nat.le_of_ble_eq_true rfl) dX12_readsStatement_134 rfl (fun H locs hP hD hS => ?_)
          refine lv_istore_n (lv' := [(2, .int r134.1), (1, .int r1), (0, .ref (aR 0))]) hx hb dX12_readsStatement_137 rfl hl (by decide) rfl (fun ls hl => ?_)
          refine lv_goto (tgt := 190) hx hb dX12_readsStatement_138 (by decide) ?_
          exact B190 r134.1 r134.2.1 r134.2.2 H locs ls hP hD hS (lv_sub hl [2, 0] rfl) h
        · have h := k_neg s16_114 h
          by_cases s16_119 : r1 = 119
          · refine k_lkI (tgt := 141) (v := 119) hx hb dX12_readsStatement_16 s16_119 rfl rfl (by decide) ?_
            have h := k_pos s16_119 h
            refine lv_aload_n hx hb dX12_readsStatement_141 rfl (lv_at hl 1 rfl) ?_
            refine lv_iconst (v := 0) hx hb dX12_readsStatement_142 (by decide) ?_
            refine lv_iconst (v := 1) hx hb dX12_readsStatement_143 (by decide) ?_
            obtain ⟨r144, g144, h⟩ := k_bind h
            refine k_callV (As := [.int 0, .int 1]) (rest := []) (st1 := [.int r144.1]) (ws2 := (Wd43 cI aR q_hasImage r144.2.1 q_rowAt q_rowEnd q_seed q_thrown r144.2.2 q_element)) hx hb hml hown hts hK hN hA hP hD hS hl (c_MD_readsNumber l D cI cM cS cJ aR H.size 0 1 q_hasImage (q_place + 1) q_rowAt q_rowEnd q_seed q_thrown q_numbers q_element g144) gX12_readsStatement_X12_readsNumber rfl kdV_X12_readsNumber 0 12 rfl rfl rfl [0, 1, 2] ⟨rfl, rfl⟩ ⟨Nat.le_of_ble_eq_true rfl, Nat.le_of_ble_eq_true rfl⟩ ⟨Nat.zero_le _, Nat.zero_le _⟩ rfl rfl (by decide +kernel) rfl rfl rfl (Nat.le_of_ble_eq_true rfl) dX12_readsStatement_144 rfl (fun H locs hP hD hS => ?_)
            have B164 : ∀ (v0 : Int32) (q_place : Int32) (q_numbers : Nat → Int32) (H : Heap) (locs : List Loc) (ls : Array Slot), va_P D vwCl (Wd43 cI aR q_hasImage q_place q_rowAt q_rowEnd q_seed q_thrown q_numbers q_element) H → va_D A (Wd43 cI aR q_hasImage q_place q_rowAt q_rowEnd q_seed q_thrown q_numbers q_element) → va_S A s.heap H locs → lv_has ls 3 [(0, .ref (aR 0))] → S_MD_readsStatement_J164 v0 q_rowAt q_rowEnd q_element q_place q_numbers = some o → W p l e rm_X12_readsStatement s m ([.ref (aR 0)] : List Value).toArray below meth c H locs 0 0 Q (F0 m 164 ls [.int v0]) := by
              intro v0 q_place q_numbers H locs ls hP hD hS hl h
              rw [S_MD_readsStatement_J164] at h
              refine lv_istore_n (lv' := [(2, .int v0), (0, .ref (aR 0))]) hx hb dX12_readsStatement_164 rfl hl (by decide) rfl (fun ls hl => ?_)
              refine lv_goto (tgt := 190) hx hb dX12_readsStatement_165 (by decide) ?_
              exact B190 v0 q_place q_numbers H locs ls hP hD hS (lv_sub hl [1, 0] rfl) h
            have B163 : ∀ (q_place : Int32) (q_numbers : Nat → Int32) (H : Heap) (locs : List Loc) (ls : Array Slot), va_P D vwCl (Wd43 cI aR q_hasImage q_place q_rowAt q_rowEnd q_seed q_thrown q_numbers q_element) H → va_D A (Wd43 cI aR q_hasImage q_place q_rowAt q_rowEnd q_seed q_thrown q_numbers q_element) → va_S A s.heap H locs → lv_has ls 3 [(0, .ref (aR 0))] → S_MD_readsStatement_J163 q_rowAt q_rowEnd q_element q_place q_numbers = some o → W p l e rm_X12_readsStatement s m ([.ref (aR 0)] : List Value).toArray below meth c H locs 0 0 Q (F0 m 163 ls []) := by
              intro q_place q_numbers H locs ls hP hD hS hl h
              rw [S_MD_readsStatement_J163] at h
              refine lv_iconst (v := 0) hx hb dX12_readsStatement_163 (by decide) ?_
              exact B164 0 q_place q_numbers H locs ls hP hD hS hl h
            refine lv_if_eq (tgt := 163) hx hb dX12_readsStatement_147 (by decide) (fun c147 => ?_) (fun c147 => ?_)
            · have h := k_pos c147 h
              exact B163 r144.2.1 r144.2.2 H locs ls hP hD hS (lv_sub hl [1] rfl) h
            · have h := k_neg c147 h
              refine lv_aload_n hx hb dX12_readsStatement_150 rfl (lv_at hl 1 rfl) ?_
              refine lv_iconst (v := 1) hx hb dX12_readsStatement_151 (by decide) ?_
              refine lv_iconst (v := 1) hx hb dX12_readsStatement_152 (by decide) ?_
              obtain ⟨r153, g153, h⟩ := k_bind h
              refine k_callV (As := [.int 1, .int 1]) (rest := []) (st1 := [.int r153.1]) (ws2 := (Wd43 cI aR q_hasImage r153.2.1 q_rowAt q_rowEnd q_seed q_thrown r153.2.2 q_element)) hx hb hml hown hts hK hN hA hP hD hS hl (c_MD_readsNumber l D cI cM cS cJ aR H.size 1 1 q_hasImage r144.2.1 q_rowAt q_rowEnd q_seed q_thrown r144.2.2 q_element g153) gX12_readsStatement_X12_readsNumber rfl kdV_X12_readsNumber 0 12 rfl rfl rfl [0, 1, 2] ⟨rfl, rfl⟩ ⟨Nat.le_of_ble_eq_true rfl, Nat.le_of_ble_eq_true rfl⟩ ⟨Nat.zero_le _, Nat.zero_le _⟩ rfl rfl (by decide +kernel) rfl rfl rfl (Nat.le_of_ble_eq_true rfl) dX12_readsStatement_153 rfl (fun H locs hP hD hS => ?_)
              refine lv_if_eq (tgt := 163) hx hb dX12_readsStatement_156 (by decide) (fun c156 => ?_) (fun c156 => ?_)
              · have h := k_pos c156 h
                exact B163 r153.2.1 r153.2.2 H locs ls hP hD hS (lv_sub hl [1] rfl) h
              · have h := k_neg c156 h
                refine lv_iconst (v := 1) hx hb dX12_readsStatement_159 (by decide) ?_
                refine lv_goto (tgt := 164) hx hb dX12_readsStatement_160 (by decide) ?_
                exact B164 1 r153.2.1 r153.2.2 H locs ls hP hD hS (lv_sub hl [1] rfl) h
          · have h := k_neg s16_119 h
            refine lv_lookup (tgt := 178) hx hb dX12_readsStatement_16 rfl (k_lkN _ _ _ (List.forall_mem_cons.mpr ⟨k_ne s16_100 rfl, (List.forall_mem_cons.mpr ⟨k_ne s16_108 rfl, (List.forall_mem_cons.mpr ⟨k_ne s16_109 rfl, (List.forall_mem_cons.mpr ⟨k_ne s16_114 rfl, (List.forall_mem_cons.mpr ⟨k_ne s16_119 rfl, (fun _ z => absurd z List.not_mem_nil)⟩)⟩)⟩)⟩)⟩)) (by decide) ?_
            refine lv_aload_n hx hb dX12_readsStatement_178 rfl (lv_at hl 1 rfl) ?_
            refine lv_dup hx hb dX12_readsStatement_179 rfl ?_
            refine va_get (D := D) (ci := 12) (v := .int (q_place + 1)) (C := RX12) (T := TX12) (N := 18) hx hb hts hiX12 hown hK hP 0 rfl rfl 5 (by decide) hf112 (fun _ z => z) rfl dX12_readsStatement_180 ?_
            refine lv_iconst (v := 1) hx hb dX12_readsStatement_183 (by decide) ?_
            refine lv_isub hx hb dX12_readsStatement_184 ?_
            refine va_put (D := D) (ci := 12) (v := .int ((q_place + 1) - 1)) (ty := .int) (C := RX12) (T := TX12) (N := 18) hx hb hts hiX12 tyX12 tyX12_ok nmX12 hown hK hP hD hS 0 rfl rfl 5 (by decide) hf112 (fun _ z => z) rfl (by decide +kernel) rfl rfl (Nat.le_of_ble_eq_true rfl) dX12_readsStatement_185 (fun H locs hP hD hS => ?_)
            replace hP : va_P D vwCl (Wd43 cI aR q_hasImage ((q_place + 1) - 1) q_rowAt q_rowEnd q_seed q_thrown q_numbers q_element) H := hP
            replace hD : va_D A (Wd43 cI aR q_hasImage ((q_place + 1) - 1) q_rowAt q_rowEnd q_seed q_thrown q_numbers q_element) := hD
            refine lv_iconst (v := 0) hx hb dX12_readsStatement_188 (by decide) ?_
            cases h
            exact hret _ _ _ _ rfl hP hS dX12_readsStatement_189
abbrev rm_X12_adds : Room := { frames := 1, cells := 0, slots := 0, locals := 21 }
set_option maxHeartbeats 4000000 in
set_option maxRecDepth 100000 in
theorem c_MD_adds (l : Launch) (D : va_G) (cI cM cS cJ : ClassId) (aR : Nat → Nat) (sz : Nat) (x1 : Int32) (x2 : Int32) (x3 : Int32) (q_hasImage : Int32) (q_place : Int32) (q_rowAt : Int32) (q_rowEnd : Int32) (q_seed : Int32) (q_thrown : Int32) (q_s : Nat → Int32) {o : (Nat → Int32)} (hsem : S_MD_adds x1 x2 x3 q_s = some o) : kMet l yX12_adds wsX12_adds rm_X12_adds [.ref (aR 0), .int x1, .int x2, .int x3] D (kT cI cM cS cJ) (Wd40 cI aR q_hasImage q_place q_rowAt q_rowEnd q_seed q_thrown q_s) sz none (Wd40 cI aR q_hasImage q_place q_rowAt q_rowEnd q_seed q_thrown o) := by
  refine k_metV (by decide) rfl rfl (Nat.le_of_ble_eq_true rfl) ?_
  intro p e s m below meth c ls Q A hx hb hml hts hown hK hN hA hP hD hS hl hsz hnm hret
  have hown : s.vm.findClass RX12 = some m.cls := hown
  have hf9 := hts (.fieldLink RX12 9 "PlumbLineModel" "s" "[I") (List.mem_of_getElem? (i := 1) rfl)
  have hiX12 : ∀ w ∈ u_ws RX12 TX12 18, w ∈ wsX12_adds := fun w h => List.mem_cons_of_mem _ (List.mem_append_right _ h)
  replace hl : lv_has ls 5 [(0, .ref (aR 0)), (1, .int x1), (2, .int x2), (3, .int x3)] := hl
  have h := hsem
  clear hsem
  rw [S_MD_adds] at h
  refine lv_aload_n hx hb dX12_adds_0 rfl (lv_at hl 0 rfl) ?_
  refine va_get (D := D) (ci := 12) (v := .ref (aR 1)) (C := RX12) (T := TX12) (N := 18) hx hb hts hiX12 hown hK hP 0 rfl rfl 0 (by decide) hf9 (fun _ z => z) rfl dX12_adds_1 ?_
  refine lv_iconst (v := 0) hx hb dX12_adds_4 (by decide) ?_
  refine va_iald hx hb hK hP 1 0 rfl rfl (by decide) dX12_adds_5 ?_
  refine lv_istore (lv' := [(4, .int (q_s (0 : Int32).toNatClampNeg)), (0, .ref (aR 0)), (1, .int x1), (2, .int x2), (3, .int x3)]) hx hb dX12_adds_6 hl (by decide) rfl (fun ls hl => ?_)
  refine lv_aload_n hx hb dX12_adds_8 rfl (lv_at hl 1 rfl) ?_
  refine va_get (D := D) (ci := 12) (v := .ref (aR 1)) (C := RX12) (T := TX12) (N := 18) hx hb hts hiX12 hown hK hP 0 rfl rfl 0 (by decide) hf9 (fun _ z => z) rfl dX12_adds_9 ?_
  refine lv_iload hx hb dX12_adds_12 (lv_at hl 0 rfl) ?_
  refine lv_iconst (v := 0) hx hb dX12_adds_14 (by decide) ?_
  refine k_callS (As := [.int (q_s (0 : Int32).toNatClampNeg), .int 0]) (rest := [.ref (aR 1)]) (st1 := [.int (S_MD_of (q_s (0 : Int32).toNatClampNeg) 0), .ref (aR 1)]) (ws2 := (Wd40 cI aR q_hasImage q_place q_rowAt q_rowEnd q_seed q_thrown q_s)) hx hb hml hown hts hK hN hA hP hD hS hl (c_MD_of l D cI cM cS cJ s.heap.size (q_s (0 : Int32).toNatClampNeg) 0 rfl) gX12_adds_X12_of rfl kdS_X12_of [] ⟨rfl, rfl⟩ ⟨Nat.le_of_ble_eq_true rfl, Nat.le_of_ble_eq_true rfl⟩ ⟨Nat.zero_le _, Nat.zero_le _⟩ rfl rfl (by decide +kernel) rfl rfl rfl (Nat.le_of_ble_eq_true rfl) dX12_adds_15 rfl (fun H locs hP hD hS => ?_)
  refine lv_iload_n hx hb dX12_adds_18 rfl (lv_at hl 2 rfl) ?_
  obtain ⟨g19, h⟩ := k_guard h
  refine va_iast hx hb hK hP hD hS 1 0 rfl rfl g19 dX12_adds_19 (fun H locs hP hD hS => ?_)
  replace hP : va_P D vwCl (Wd40 cI aR q_hasImage q_place q_rowAt q_rowEnd q_seed q_thrown (upd q_s (S_MD_of (q_s (0 : Int32).toNatClampNeg) 0).toNatClampNeg x1)) H := hP
  replace hD : va_D A (Wd40 cI aR q_hasImage q_place q_rowAt q_rowEnd q_seed q_thrown (upd q_s (S_MD_of (q_s (0 : Int32).toNatClampNeg) 0).toNatClampNeg x1)) := hD
  refine lv_aload_n hx hb dX12_adds_20 rfl (lv_at hl 1 rfl) ?_
  refine va_get (D := D) (ci := 12) (v := .ref (aR 1)) (C := RX12) (T := TX12) (N := 18) hx hb hts hiX12 hown hK hP 0 rfl rfl 0 (by decide) hf9 (fun _ z => z) rfl dX12_adds_21 ?_
  refine lv_iload hx hb dX12_adds_24 (lv_at hl 0 rfl) ?_
  refine lv_iconst (v := 1) hx hb dX12_adds_26 (by decide) ?_
  refine k_callS (As := [.int (q_s (0 : Int32).toNatClampNeg), .int 1]) (rest := [.ref (aR 1)]) (st1 := [.int (S_MD_of (q_s (0 : Int32).toNatClampNeg) 1), .ref (aR 1)]) (ws2 := (Wd40 cI aR q_hasImage q_place q_rowAt q_rowEnd q_seed q_thrown (upd q_s (S_MD_of (q_s (0 : Int32).toNatClampNeg) 0).toNatClampNeg x1))) hx hb hml hown hts hK hN hA hP hD hS hl (c_MD_of l D cI cM cS cJ H.size (q_s (0 : Int32).toNatClampNeg) 1 rfl) gX12_adds_X12_of rfl kdS_X12_of [] ⟨rfl, rfl⟩ ⟨Nat.le_of_ble_eq_true rfl, Nat.le_of_ble_eq_true rfl⟩ ⟨Nat.zero_le _, Nat.zero_le _⟩ rfl rfl (by decide +kernel) rfl rfl rfl (Nat.le_of_ble_eq_true rfl) dX12_adds_27 rfl (fun H locs hP hD hS => ?_)
  refine lv_iload_n hx hb dX12_adds_30 rfl (lv_at hl 3 rfl) ?_
  obtain ⟨g31, h⟩ := k_guard h
  refine va_iast hx hb hK hP hD hS 1 0 rfl rfl g31 dX12_adds_31 (fun H locs hP hD hS => ?_)
  replace hP : va_P D vwCl (Wd40 cI aR q_hasImage q_place q_rowAt q_rowEnd q_seed q_thrown (upd (upd q_s (S_MD_of (q_s (0 : Int32).toNatClampNeg) 0).toNatClampNeg x1) (S_MD_of (q_s (0 : Int32).toNatClampNeg) 1).toNatClampNeg x2)) H := hP
  replace hD : va_D A (Wd40 cI aR q_hasImage q_place q_rowAt q_rowEnd q_seed q_thrown (upd (upd q_s (S_MD_of (q_s (0 : Int32).toNatClampNeg) 0).toNatClampNeg x1) (S_MD_of (q_s (0 : Int32).toNatClampNeg) 1).toNatClampNeg x2)) := hD
  refine lv_aload_n hx hb dX12_adds_32 rfl (lv_at hl 1 rfl) ?_
  refine va_get (D := D) (ci := 12) (v := .ref (aR 1)) (C := RX12) (T := TX12) (N := 18) hx hb hts hiX12 hown hK hP 0 rfl rfl 0 (by decide) hf9 (fun _ z => z) rfl dX12_adds_33 ?_
  refine lv_iload hx hb dX12_adds_36 (lv_at hl 0 rfl) ?_
  refine lv_iconst (v := 2) hx hb dX12_adds_38 (by decide) ?_
  refine k_callS (As := [.int (q_s (0 : Int32).toNatClampNeg), .int 2]) (rest := [.ref (aR 1)]) (st1 := [.int (S_MD_of (q_s (0 : Int32).toNatClampNeg) 2), .ref (aR 1)]) (ws2 := (Wd40 cI aR q_hasImage q_place q_rowAt q_rowEnd q_seed q_thrown (upd (upd q_s (S_MD_of (q_s (0 : Int32).toNatClampNeg) 0).toNatClampNeg x1) (S_MD_of (q_s (0 : Int32).toNatClampNeg) 1).toNatClampNeg x2))) hx hb hml hown hts hK hN hA hP hD hS hl (c_MD_of l D cI cM cS cJ H.size (q_s (0 : Int32).toNatClampNeg) 2 rfl) gX12_adds_X12_of rfl kdS_X12_of [] ⟨rfl, rfl⟩ ⟨Nat.le_of_ble_eq_true rfl, Nat.le_of_ble_eq_true rfl⟩ ⟨Nat.zero_le _, Nat.zero_le _⟩ rfl rfl (by decide +kernel) rfl rfl rfl (Nat.le_of_ble_eq_true rfl) dX12_adds_39 rfl (fun H locs hP hD hS => ?_)
  refine lv_iload_n hx hb dX12_adds_42 rfl (lv_at hl 4 rfl) ?_
  obtain ⟨g43, h⟩ := k_guard h
  refine va_iast hx hb hK hP hD hS 1 0 rfl rfl g43 dX12_adds_43 (fun H locs hP hD hS => ?_)
  replace hP : va_P D vwCl (Wd40 cI aR q_hasImage q_place q_rowAt q_rowEnd q_seed q_thrown (upd (upd (upd q_s (S_MD_of (q_s (0 : Int32).toNatClampNeg) 0).toNatClampNeg x1) (S_MD_of (q_s (0 : Int32).toNatClampNeg) 1).toNatClampNeg x2) (S_MD_of (q_s (0 : Int32).toNatClampNeg) 2).toNatClampNeg x3)) H := hP
  replace hD : va_D A (Wd40 cI aR q_hasImage q_place q_rowAt q_rowEnd q_seed q_thrown (upd (upd (upd q_s (S_MD_of (q_s (0 : Int32).toNatClampNeg) 0).toNatClampNeg x1) (S_MD_of (q_s (0 : Int32).toNatClampNeg) 1).toNatClampNeg x2) (S_MD_of (q_s (0 : Int32).toNatClampNeg) 2).toNatClampNeg x3)) := hD
  refine lv_aload_n hx hb dX12_adds_44 rfl (lv_at hl 1 rfl) ?_
  refine va_get (D := D) (ci := 12) (v := .ref (aR 1)) (C := RX12) (T := TX12) (N := 18) hx hb hts hiX12 hown hK hP 0 rfl rfl 0 (by decide) hf9 (fun _ z => z) rfl dX12_adds_45 ?_
  refine lv_iload hx hb dX12_adds_48 (lv_at hl 0 rfl) ?_
  refine lv_iconst (v := 3) hx hb dX12_adds_50 (by decide) ?_
  refine k_callS (As := [.int (q_s (0 : Int32).toNatClampNeg), .int 3]) (rest := [.ref (aR 1)]) (st1 := [.int (S_MD_of (q_s (0 : Int32).toNatClampNeg) 3), .ref (aR 1)]) (ws2 := (Wd40 cI aR q_hasImage q_place q_rowAt q_rowEnd q_seed q_thrown (upd (upd (upd q_s (S_MD_of (q_s (0 : Int32).toNatClampNeg) 0).toNatClampNeg x1) (S_MD_of (q_s (0 : Int32).toNatClampNeg) 1).toNatClampNeg x2) (S_MD_of (q_s (0 : Int32).toNatClampNeg) 2).toNatClampNeg x3))) hx hb hml hown hts hK hN hA hP hD hS hl (c_MD_of l D cI cM cS cJ H.size (q_s (0 : Int32).toNatClampNeg) 3 rfl) gX12_adds_X12_of rfl kdS_X12_of [] ⟨rfl, rfl⟩ ⟨Nat.le_of_ble_eq_true rfl, Nat.le_of_ble_eq_true rfl⟩ ⟨Nat.zero_le _, Nat.zero_le _⟩ rfl rfl (by decide +kernel) rfl rfl rfl (Nat.le_of_ble_eq_true rfl) dX12_adds_51 rfl (fun H locs hP hD hS => ?_)
  refine lv_iconst (v := 0) hx hb dX12_adds_54 (by decide) ?_
  obtain ⟨g55, h⟩ := k_guard h
  refine va_iast hx hb hK hP hD hS 1 0 rfl rfl g55 dX12_adds_55 (fun H locs hP hD hS => ?_)
  replace hP : va_P D vwCl (Wd40 cI aR q_hasImage q_place q_rowAt q_rowEnd q_seed q_thrown (upd (upd (upd (upd q_s (S_MD_of (q_s (0 : Int32).toNatClampNeg) 0).toNatClampNeg x1) (S_MD_of (q_s (0 : Int32).toNatClampNeg) 1).toNatClampNeg x2) (S_MD_of (q_s (0 : Int32).toNatClampNeg) 2).toNatClampNeg x3) (S_MD_of (q_s (0 : Int32).toNatClampNeg) 3).toNatClampNeg 0)) H := hP
  replace hD : va_D A (Wd40 cI aR q_hasImage q_place q_rowAt q_rowEnd q_seed q_thrown (upd (upd (upd (upd q_s (S_MD_of (q_s (0 : Int32).toNatClampNeg) 0).toNatClampNeg x1) (S_MD_of (q_s (0 : Int32).toNatClampNeg) 1).toNatClampNeg x2) (S_MD_of (q_s (0 : Int32).toNatClampNeg) 2).toNatClampNeg x3) (S_MD_of (q_s (0 : Int32).toNatClampNeg) 3).toNatClampNeg 0)) := hD
  refine lv_aload_n hx hb dX12_adds_56 rfl (lv_at hl 1 rfl) ?_
  refine va_get (D := D) (ci := 12) (v := .ref (aR 1)) (C := RX12) (T := TX12) (N := 18) hx hb hts hiX12 hown hK hP 0 rfl rfl 0 (by decide) hf9 (fun _ z => z) rfl dX12_adds_57 ?_
  refine lv_iconst (v := 0) hx hb dX12_adds_60 (by decide) ?_
  refine lv_dup2_11 hx hb dX12_adds_61 rfl rfl ?_
  refine va_iald hx hb hK hP 1 0 rfl rfl (by decide) dX12_adds_62 ?_
  refine lv_iconst (v := 1) hx hb dX12_adds_63 (by decide) ?_
  refine lv_iadd hx hb dX12_adds_64 ?_
  refine va_iast hx hb hK hP hD hS 1 0 rfl rfl (by decide) dX12_adds_65 (fun H locs hP hD hS => ?_)
  replace hP : va_P D vwCl (Wd40 cI aR q_hasImage q_place q_rowAt q_rowEnd q_seed q_thrown (upd (upd (upd (upd (upd q_s (S_MD_of (q_s (0 : Int32).toNatClampNeg) 0).toNatClampNeg x1) (S_MD_of (q_s (0 : Int32).toNatClampNeg) 1).toNatClampNeg x2) (S_MD_of (q_s (0 : Int32).toNatClampNeg) 2).toNatClampNeg x3) (S_MD_of (q_s (0 : Int32).toNatClampNeg) 3).toNatClampNeg 0) (0 : Int32).toNatClampNeg (((upd (upd (upd (upd q_s (S_MD_of (q_s (0 : Int32).toNatClampNeg) 0).toNatClampNeg x1) (S_MD_of (q_s (0 : Int32).toNatClampNeg) 1).toNatClampNeg x2) (S_MD_of (q_s (0 : Int32).toNatClampNeg) 2).toNatClampNeg x3) (S_MD_of (q_s (0 : Int32).toNatClampNeg) 3).toNatClampNeg 0) (0 : Int32).toNatClampNeg) + 1))) H := hP
  replace hD : va_D A (Wd40 cI aR q_hasImage q_place q_rowAt q_rowEnd q_seed q_thrown (upd (upd (upd (upd (upd q_s (S_MD_of (q_s (0 : Int32).toNatClampNeg) 0).toNatClampNeg x1) (S_MD_of (q_s (0 : Int32).toNatClampNeg) 1).toNatClampNeg x2) (S_MD_of (q_s (0 : Int32).toNatClampNeg) 2).toNatClampNeg x3) (S_MD_of (q_s (0 : Int32).toNatClampNeg) 3).toNatClampNeg 0) (0 : Int32).toNatClampNeg (((upd (upd (upd (upd q_s (S_MD_of (q_s (0 : Int32).toNatClampNeg) 0).toNatClampNeg x1) (S_MD_of (q_s (0 : Int32).toNatClampNeg) 1).toNatClampNeg x2) (S_MD_of (q_s (0 : Int32).toNatClampNeg) 2).toNatClampNeg x3) (S_MD_of (q_s (0 : Int32).toNatClampNeg) 3).toNatClampNeg 0) (0 : Int32).toNatClampNeg) + 1))) := hD
  cases h
  exact hret _ _ _ _ hP hS dX12_adds_66
abbrev Wd44 (cI : ClassId) (aR : Nat → Nat) (q_hasImage : Int32) (q_place : Int32) (q_rowAt : Int32) (q_rowEnd : Int32) (q_seed : Int32) (q_thrown : Int32) (q_s : Nat → Int32) (q_numbers : Nat → Int32) : va_W := [((aR 0), .inr (12, [.ref (aR 1), .ref (aR 2), .ref (aR 3), .ref (aR 4), .int q_hasImage, .int q_place, .int q_rowAt, .int q_rowEnd, .ref (aR 5), .ref (aR 6), .int q_seed, .ref (aR 7), .ref (aR 8), .ref (aR 9), .ref (aR 10), .ref (aR 11), .ref (aR 12), .int q_thrown])), ((aR 1), .inl (cI, 37, .inl q_s)), ((aR 5), .inl (cI, 3, .inl q_numbers))]
theorem kdV_X12_adds : yX12_adds.cls = RX12 ∧ yX12_adds.cls ≠ "java/lang/invoke/MethodHandle" ∧ yX12_adds.cls ≠ "java/lang/invoke/VarHandle" ∧ (parseMethodDescriptor yX12_adds.desc).map (fun d => d.parameters.length) = some 3 := by decide +kernel
theorem kdS_X12_daysOn : yX12_daysOn.cls ≠ "java/lang/invoke/MethodHandle" ∧ yX12_daysOn.cls ≠ "java/lang/invoke/VarHandle" ∧ (parseMethodDescriptor yX12_daysOn.desc).map (fun d => d.parameters.length) = some 2 := by decide +kernel
abbrev rm_X12_isDone : Room := { frames := 5, cells := 0, slots := 0, locals := 112 }
set_option maxHeartbeats 4000000 in
set_option maxRecDepth 100000 in
theorem c_MD_isDone (l : Launch) (D : va_G) (cI cM cS cJ : ClassId) (aR : Nat → Nat) (sz : Nat) (x1 : Int32) (q_hasImage : Int32) (q_place : Int32) (q_rowAt : Int32) (q_rowEnd : Int32) (q_seed : Int32) (q_thrown : Int32) (q_s : Nat → Int32) (q_numbers : Nat → Int32) {o : (Int32) × (Nat → Int32)} (hsem : S_MD_isDone x1 q_s q_numbers = some o) : kMet l yX12_isDone wsX12_isDone rm_X12_isDone [.ref (aR 0), .int x1] D (kT cI cM cS cJ) (Wd44 cI aR q_hasImage q_place q_rowAt q_rowEnd q_seed q_thrown q_s q_numbers) sz (some (.int o.1)) (Wd44 cI aR q_hasImage q_place q_rowAt q_rowEnd q_seed q_thrown o.2 q_numbers) := by
  refine k_metZ (by decide) rfl rfl (Nat.le_of_ble_eq_true rfl) ?_
  intro p e s m below meth c ls Q A hx hb hml hts hown hK hN hA hP hD hS hl hsz hnm hret
  have hown : s.vm.findClass RX12 = some m.cls := hown
  have hf22 := hts (.fieldLink RX12 22 "PlumbLineModel" "numbers" "[I") (List.mem_of_getElem? (i := 1) rfl)
  have hf9 := hts (.fieldLink RX12 9 "PlumbLineModel" "s" "[I") (List.mem_of_getElem? (i := 2) rfl)
  have hiX12 : ∀ w ∈ u_ws RX12 TX12 18, w ∈ wsX12_isDone := fun w h => List.mem_cons_of_mem _ (List.mem_append_right _ h)
  replace hl : lv_has ls 4 [(0, .ref (aR 0)), (1, .int x1)] := hl
  have h := hsem
  clear hsem
  rw [S_MD_isDone] at h
  refine lv_aload_n hx hb dX12_isDone_0 rfl (lv_at hl 0 rfl) ?_
  refine va_get (D := D) (ci := 12) (v := .ref (aR 5)) (C := RX12) (T := TX12) (N := 18) hx hb hts hiX12 hown hK hP 0 rfl rfl 8 (by decide) hf22 (fun _ z => z) rfl dX12_isDone_1 ?_
  refine lv_iconst (v := 0) hx hb dX12_isDone_4 (by decide) ?_
  refine va_iald hx hb hK hP 2 0 rfl rfl (by decide) dX12_isDone_5 ?_
  refine lv_istore_n (lv' := [(2, .int (q_numbers (0 : Int32).toNatClampNeg)), (0, .ref (aR 0)), (1, .int x1)]) hx hb dX12_isDone_6 rfl hl (by decide) rfl (fun ls hl => ?_)
  refine lv_aload_n hx hb dX12_isDone_7 rfl (lv_at hl 1 rfl) ?_
  refine va_get (D := D) (ci := 12) (v := .ref (aR 5)) (C := RX12) (T := TX12) (N := 18) hx hb hts hiX12 hown hK hP 0 rfl rfl 8 (by decide) hf22 (fun _ z => z) rfl dX12_isDone_8 ?_
  refine lv_iconst (v := 1) hx hb dX12_isDone_11 (by decide) ?_
  refine va_iald hx hb hK hP 2 0 rfl rfl (by decide) dX12_isDone_12 ?_
  refine lv_istore_n (lv' := [(3, .int (q_numbers (1 : Int32).toNatClampNeg)), (2, .int (q_numbers (0 : Int32).toNatClampNeg)), (0, .ref (aR 0)), (1, .int x1)]) hx hb dX12_isDone_13 rfl hl (by decide) rfl (fun ls hl => ?_)
  refine lv_iload_n hx hb dX12_isDone_14 rfl (lv_at hl 3 rfl) ?_
  by_cases s15_108 : x1 = 108
  · refine k_lkI (tgt := 103) (v := 108) hx hb dX12_isDone_15 s15_108 rfl rfl (by decide) ?_
    have h := k_pos s15_108 h
    refine lv_aload_n hx hb dX12_isDone_103 rfl (lv_at hl 2 rfl) ?_
    refine lv_iload_n hx hb dX12_isDone_104 rfl (lv_at hl 1 rfl) ?_
    obtain ⟨r105, g105, h⟩ := k_bind h
    refine k_callV (As := [.int (q_numbers (0 : Int32).toNatClampNeg)]) (rest := []) (st1 := [.int r105]) (ws2 := (Wd44 cI aR q_hasImage q_place q_rowAt q_rowEnd q_seed q_thrown q_s q_numbers)) hx hb hml hown hts hK hN hA hP hD hS hl (c_MD_isMan l D cI cM cS cJ aR s.heap.size (q_numbers (0 : Int32).toNatClampNeg) q_hasImage q_place q_rowAt q_rowEnd q_seed q_thrown q_s g105) gX12_isDone_X12_isMan rfl kdV_X12_isMan 0 12 rfl rfl rfl [0, 1] ⟨rfl, rfl⟩ ⟨Nat.le_of_ble_eq_true rfl, Nat.le_of_ble_eq_true rfl⟩ ⟨Nat.zero_le _, Nat.zero_le _⟩ rfl rfl (by decide +kernel) rfl rfl rfl (Nat.le_of_ble_eq_true rfl) dX12_isDone_105 rfl (fun H locs hP hD hS => ?_)
    refine lv_if_eq (tgt := 117) hx hb dX12_isDone_108 (by decide) (fun c108 => ?_) (fun c108 => ?_)
    · have h := k_pos c108 h
      refine lv_iconst (v := 0) hx hb dX12_isDone_117 (by decide) ?_
      cases h
      exact hret _ _ _ _ rfl hP hS dX12_isDone_118
    · have h := k_neg c108 h
      refine lv_iload_n hx hb dX12_isDone_111 rfl (lv_at hl 0 rfl) ?_
      refine lv_bipush (v := 90) hx hb dX12_isDone_112 (by decide) ?_
      refine lv_icmp_le (tgt := 119) hx hb dX12_isDone_114 (by decide) (fun c114 => ?_) (fun c114 => ?_)
      · have h := k_pos c114 h
        refine lv_aload_n hx hb dX12_isDone_119 rfl (lv_at hl 2 rfl) ?_
        refine va_get (D := D) (ci := 12) (v := .ref (aR 1)) (C := RX12) (T := TX12) (N := 18) hx hb hts hiX12 hown hK hP 0 rfl rfl 0 (by decide) hf9 (fun _ z => z) rfl dX12_isDone_120 ?_
        refine lv_iload_n hx hb dX12_isDone_123 rfl (lv_at hl 1 rfl) ?_
        refine lv_iconst (v := 2) hx hb dX12_isDone_124 (by decide) ?_
        refine k_callS (As := [.int (q_numbers (0 : Int32).toNatClampNeg), .int 2]) (rest := [.ref (aR 1)]) (st1 := [.int (S_MD_of (q_numbers (0 : Int32).toNatClampNeg) 2), .ref (aR 1)]) (ws2 := (Wd44 cI aR q_hasImage q_place q_rowAt q_rowEnd q_seed q_thrown q_s q_numbers)) hx hb hml hown hts hK hN hA hP hD hS hl (c_MD_of l D cI cM cS cJ H.size (q_numbers (0 : Int32).toNatClampNeg) 2 rfl) gX12_isDone_X12_of rfl kdS_X12_of [] ⟨rfl, rfl⟩ ⟨Nat.le_of_ble_eq_true rfl, Nat.le_of_ble_eq_true rfl⟩ ⟨Nat.zero_le _, Nat.zero_le _⟩ rfl rfl (by decide +kernel) rfl rfl rfl (Nat.le_of_ble_eq_true rfl) dX12_isDone_125 rfl (fun H locs hP hD hS => ?_)
        refine lv_iload_n hx hb dX12_isDone_128 rfl (lv_at hl 0 rfl) ?_
        refine lv_bipush (v := 45) hx hb dX12_isDone_129 (by decide) ?_
        refine lv_isub hx hb dX12_isDone_131 ?_
        obtain ⟨g132, h⟩ := k_guard h
        refine va_iast hx hb hK hP hD hS 1 0 rfl rfl g132 dX12_isDone_132 (fun H locs hP hD hS => ?_)
        replace hP : va_P D vwCl (Wd44 cI aR q_hasImage q_place q_rowAt q_rowEnd q_seed q_thrown (upd q_s (S_MD_of (q_numbers (0 : Int32).toNatClampNeg) 2).toNatClampNeg ((q_numbers (1 : Int32).toNatClampNeg) - 45)) q_numbers) H := hP
        replace hD : va_D A (Wd44 cI aR q_hasImage q_place q_rowAt q_rowEnd q_seed q_thrown (upd q_s (S_MD_of (q_numbers (0 : Int32).toNatClampNeg) 2).toNatClampNeg ((q_numbers (1 : Int32).toNatClampNeg) - 45)) q_numbers) := hD
        refine lv_iconst (v := 1) hx hb dX12_isDone_133 (by decide) ?_
        cases h
        exact hret _ _ _ _ rfl hP hS dX12_isDone_134
      · have h := k_neg c114 h
        refine lv_iconst (v := 0) hx hb dX12_isDone_117 (by decide) ?_
        cases h
        exact hret _ _ _ _ rfl hP hS dX12_isDone_118
  · have h := k_neg s15_108 h
    by_cases s15_109 : x1 = 109
    · refine k_lkI (tgt := 56) (v := 109) hx hb dX12_isDone_15 s15_109 rfl rfl (by decide) ?_
      have h := k_pos s15_109 h
      refine lv_iload_n hx hb dX12_isDone_56 rfl (lv_at hl 1 rfl) ?_
      refine lv_bipush (v := 8) hx hb dX12_isDone_57 (by decide) ?_
      refine lv_icmp_ge (tgt := 84) hx hb dX12_isDone_59 (by decide) (fun c59 => ?_) (fun c59 => ?_)
      · have h := k_pos c59 h
        refine lv_iconst (v := 0) hx hb dX12_isDone_84 (by decide) ?_
        cases h
        exact hret _ _ _ _ rfl hP hS dX12_isDone_85
      · have h := k_neg c59 h
        refine lv_aload_n hx hb dX12_isDone_62 rfl (lv_at hl 2 rfl) ?_
        refine va_get (D := D) (ci := 12) (v := .ref (aR 5)) (C := RX12) (T := TX12) (N := 18) hx hb hts hiX12 hown hK hP 0 rfl rfl 8 (by decide) hf22 (fun _ z => z) rfl dX12_isDone_63 ?_
        refine lv_iconst (v := 2) hx hb dX12_isDone_66 (by decide) ?_
        refine va_iald hx hb hK hP 2 0 rfl rfl (by decide) dX12_isDone_67 ?_
        refine lv_bipush (v := 90) hx hb dX12_isDone_68 (by decide) ?_
        refine lv_icmp_gt (tgt := 84) hx hb dX12_isDone_70 (by decide) (fun c70 => ?_) (fun c70 => ?_)
        · have h := k_pos c70 h
          refine lv_iconst (v := 0) hx hb dX12_isDone_84 (by decide) ?_
          cases h
          exact hret _ _ _ _ rfl hP hS dX12_isDone_85
        · have h := k_neg c70 h
          refine lv_aload_n hx hb dX12_isDone_73 rfl (lv_at hl 2 rfl) ?_
          refine va_get (D := D) (ci := 12) (v := .ref (aR 1)) (C := RX12) (T := TX12) (N := 18) hx hb hts hiX12 hown hK hP 0 rfl rfl 0 (by decide) hf9 (fun _ z => z) rfl dX12_isDone_74 ?_
          refine lv_iconst (v := 0) hx hb dX12_isDone_77 (by decide) ?_
          refine va_iald hx hb hK hP 1 0 rfl rfl (by decide) dX12_isDone_78 ?_
          refine lv_bipush (v := 8) hx hb dX12_isDone_79 (by decide) ?_
          refine lv_icmp_ne (tgt := 86) hx hb dX12_isDone_81 (by decide) (fun c81 => ?_) (fun c81 => ?_)
          · have h := k_neg c81 h
            refine lv_aload_n hx hb dX12_isDone_86 rfl (lv_at hl 2 rfl) ?_
            refine lv_iload_n hx hb dX12_isDone_87 rfl (lv_at hl 1 rfl) ?_
            refine lv_iload_n hx hb dX12_isDone_88 rfl (lv_at hl 0 rfl) ?_
            refine lv_aload_n hx hb dX12_isDone_89 rfl (lv_at hl 2 rfl) ?_
            refine va_get (D := D) (ci := 12) (v := .ref (aR 5)) (C := RX12) (T := TX12) (N := 18) hx hb hts hiX12 hown hK hP 0 rfl rfl 8 (by decide) hf22 (fun _ z => z) rfl dX12_isDone_90 ?_
            refine lv_iconst (v := 2) hx hb dX12_isDone_93 (by decide) ?_
            refine va_iald hx hb hK hP 2 0 rfl rfl (by decide) dX12_isDone_94 ?_
            refine lv_bipush (v := 45) hx hb dX12_isDone_95 (by decide) ?_
            refine lv_isub hx hb dX12_isDone_97 ?_
            obtain ⟨r98, g98, h⟩ := k_bind h
            refine k_callV (As := [.int (q_numbers (0 : Int32).toNatClampNeg), .int (q_numbers (1 : Int32).toNatClampNeg), .int ((q_numbers (2 : Int32).toNatClampNeg) - 45)]) (rest := []) (st1 := []) (ws2 := (Wd44 cI aR q_hasImage q_place q_rowAt q_rowEnd q_seed q_thrown r98 q_numbers)) hx hb hml hown hts hK hN hA hP hD hS hl (c_MD_adds l D cI cM cS cJ aR s.heap.size (q_numbers (0 : Int32).toNatClampNeg) (q_numbers (1 : Int32).toNatClampNeg) ((q_numbers (2 : Int32).toNatClampNeg) - 45) q_hasImage q_place q_rowAt q_rowEnd q_seed q_thrown q_s g98) gX12_isDone_X12_adds rfl kdV_X12_adds 0 12 rfl rfl rfl [0, 1] ⟨rfl, rfl⟩ ⟨Nat.le_of_ble_eq_true rfl, Nat.le_of_ble_eq_true rfl⟩ ⟨Nat.zero_le _, Nat.zero_le _⟩ rfl rfl (by decide +kernel) rfl rfl rfl (Nat.le_of_ble_eq_true rfl) dX12_isDone_98 rfl (fun H locs hP hD hS => ?_)
            refine lv_iconst (v := 1) hx hb dX12_isDone_101 (by decide) ?_
            cases h
            exact hret _ _ _ _ rfl hP hS dX12_isDone_102
          · have h := k_pos c81 h
            refine lv_iconst (v := 0) hx hb dX12_isDone_84 (by decide) ?_
            cases h
            exact hret _ _ _ _ rfl hP hS dX12_isDone_85
    · have h := k_neg s15_109 h
      by_cases s15_114 : x1 = 114
      · refine k_lkI (tgt := 135) (v := 114) hx hb dX12_isDone_15 s15_114 rfl rfl (by decide) ?_
        have h := k_pos s15_114 h
        refine lv_aload_n hx hb dX12_isDone_135 rfl (lv_at hl 2 rfl) ?_
        refine lv_iload_n hx hb dX12_isDone_136 rfl (lv_at hl 1 rfl) ?_
        obtain ⟨r137, g137, h⟩ := k_bind h
        refine k_callV (As := [.int (q_numbers (0 : Int32).toNatClampNeg)]) (rest := []) (st1 := [.int r137]) (ws2 := (Wd44 cI aR q_hasImage q_place q_rowAt q_rowEnd q_seed q_thrown q_s q_numbers)) hx hb hml hown hts hK hN hA hP hD hS hl (c_MD_isMan l D cI cM cS cJ aR s.heap.size (q_numbers (0 : Int32).toNatClampNeg) q_hasImage q_place q_rowAt q_rowEnd q_seed q_thrown q_s g137) gX12_isDone_X12_isMan rfl kdV_X12_isMan 0 12 rfl rfl rfl [0, 1] ⟨rfl, rfl⟩ ⟨Nat.le_of_ble_eq_true rfl, Nat.le_of_ble_eq_true rfl⟩ ⟨Nat.zero_le _, Nat.zero_le _⟩ rfl rfl (by decide +kernel) rfl rfl rfl (Nat.le_of_ble_eq_true rfl) dX12_isDone_137 rfl (fun H locs hP hD hS => ?_)
        refine lv_if_ne (tgt := 145) hx hb dX12_isDone_140 (by decide) (fun c140 => ?_) (fun c140 => ?_)
        · have h := k_neg c140 h
          refine lv_aload_n hx hb dX12_isDone_145 rfl (lv_at hl 2 rfl) ?_
          refine va_get (D := D) (ci := 12) (v := .ref (aR 1)) (C := RX12) (T := TX12) (N := 18) hx hb hts hiX12 hown hK hP 0 rfl rfl 0 (by decide) hf9 (fun _ z => z) rfl dX12_isDone_146 ?_
          refine lv_iload_n hx hb dX12_isDone_149 rfl (lv_at hl 1 rfl) ?_
          refine lv_iconst (v := 3) hx hb dX12_isDone_150 (by decide) ?_
          refine k_callS (As := [.int (q_numbers (0 : Int32).toNatClampNeg), .int 3]) (rest := [.ref (aR 1)]) (st1 := [.int (S_MD_of (q_numbers (0 : Int32).toNatClampNeg) 3), .ref (aR 1)]) (ws2 := (Wd44 cI aR q_hasImage q_place q_rowAt q_rowEnd q_seed q_thrown q_s q_numbers)) hx hb hml hown hts hK hN hA hP hD hS hl (c_MD_of l D cI cM cS cJ H.size (q_numbers (0 : Int32).toNatClampNeg) 3 rfl) gX12_isDone_X12_of rfl kdS_X12_of [] ⟨rfl, rfl⟩ ⟨Nat.le_of_ble_eq_true rfl, Nat.le_of_ble_eq_true rfl⟩ ⟨Nat.zero_le _, Nat.zero_le _⟩ rfl rfl (by decide +kernel) rfl rfl rfl (Nat.le_of_ble_eq_true rfl) dX12_isDone_151 rfl (fun H locs hP hD hS => ?_)
          refine lv_dup2_11 hx hb dX12_isDone_154 rfl rfl ?_
          obtain ⟨g155, h⟩ := k_guard h
          refine va_iald hx hb hK hP 1 0 rfl rfl g155 dX12_isDone_155 ?_
          refine lv_iconst (v := 1) hx hb dX12_isDone_156 (by decide) ?_
          refine lv_ixor hx hb dX12_isDone_157 ?_
          refine va_iast hx hb hK hP hD hS 1 0 rfl rfl g155 dX12_isDone_158 (fun H locs hP hD hS => ?_)
          replace hP : va_P D vwCl (Wd44 cI aR q_hasImage q_place q_rowAt q_rowEnd q_seed q_thrown (upd q_s (S_MD_of (q_numbers (0 : Int32).toNatClampNeg) 3).toNatClampNeg ((q_s (S_MD_of (q_numbers (0 : Int32).toNatClampNeg) 3).toNatClampNeg) ^^^ 1)) q_numbers) H := hP
          replace hD : va_D A (Wd44 cI aR q_hasImage q_place q_rowAt q_rowEnd q_seed q_thrown (upd q_s (S_MD_of (q_numbers (0 : Int32).toNatClampNeg) 3).toNatClampNeg ((q_s (S_MD_of (q_numbers (0 : Int32).toNatClampNeg) 3).toNatClampNeg) ^^^ 1)) q_numbers) := hD
          refine lv_iconst (v := 1) hx hb dX12_isDone_159 (by decide) ?_
          cases h
          exact hret _ _ _ _ rfl hP hS dX12_isDone_160
        · have h := k_pos c140 h
          refine lv_iconst (v := 0) hx hb dX12_isDone_143 (by decide) ?_
          cases h
          exact hret _ _ _ _ rfl hP hS dX12_isDone_144
      · have h := k_neg s15_114 h
        by_cases s15_119 : x1 = 119
        · refine k_lkI (tgt := 161) (v := 119) hx hb dX12_isDone_15 s15_119 rfl rfl (by decide) ?_
          have h := k_pos s15_119 h
          refine lv_iload_n hx hb dX12_isDone_161 rfl (lv_at hl 0 rfl) ?_
          refine lv_bipush (v := 8) hx hb dX12_isDone_162 (by decide) ?_
          refine lv_icmp_lt (tgt := 169) hx hb dX12_isDone_164 (by decide) (fun c164 => ?_) (fun c164 => ?_)
          · have h := k_pos c164 h
            refine lv_aload_n hx hb dX12_isDone_169 rfl (lv_at hl 2 rfl) ?_
            refine va_get (D := D) (ci := 12) (v := .ref (aR 1)) (C := RX12) (T := TX12) (N := 18) hx hb hts hiX12 hown hK hP 0 rfl rfl 0 (by decide) hf9 (fun _ z => z) rfl dX12_isDone_170 ?_
            refine lv_iconst (v := 3) hx hb dX12_isDone_173 (by decide) ?_
            refine lv_iload_n hx hb dX12_isDone_174 rfl (lv_at hl 1 rfl) ?_
            refine va_iast hx hb hK hP hD hS 1 0 rfl rfl (by decide) dX12_isDone_175 (fun H locs hP hD hS => ?_)
            replace hP : va_P D vwCl (Wd44 cI aR q_hasImage q_place q_rowAt q_rowEnd q_seed q_thrown (upd q_s (3 : Int32).toNatClampNeg (q_numbers (0 : Int32).toNatClampNeg)) q_numbers) H := hP
            replace hD : va_D A (Wd44 cI aR q_hasImage q_place q_rowAt q_rowEnd q_seed q_thrown (upd q_s (3 : Int32).toNatClampNeg (q_numbers (0 : Int32).toNatClampNeg)) q_numbers) := hD
            refine lv_aload_n hx hb dX12_isDone_176 rfl (lv_at hl 2 rfl) ?_
            refine va_get (D := D) (ci := 12) (v := .ref (aR 1)) (C := RX12) (T := TX12) (N := 18) hx hb hts hiX12 hown hK hP 0 rfl rfl 0 (by decide) hf9 (fun _ z => z) rfl dX12_isDone_177 ?_
            refine lv_iconst (v := 2) hx hb dX12_isDone_180 (by decide) ?_
            refine lv_iload_n hx hb dX12_isDone_181 rfl (lv_at hl 0 rfl) ?_
            refine va_iast hx hb hK hP hD hS 1 0 rfl rfl (by decide) dX12_isDone_182 (fun H locs hP hD hS => ?_)
            replace hP : va_P D vwCl (Wd44 cI aR q_hasImage q_place q_rowAt q_rowEnd q_seed q_thrown (upd (upd q_s (3 : Int32).toNatClampNeg (q_numbers (0 : Int32).toNatClampNeg)) (2 : Int32).toNatClampNeg (q_numbers (1 : Int32).toNatClampNeg)) q_numbers) H := hP
            replace hD : va_D A (Wd44 cI aR q_hasImage q_place q_rowAt q_rowEnd q_seed q_thrown (upd (upd q_s (3 : Int32).toNatClampNeg (q_numbers (0 : Int32).toNatClampNeg)) (2 : Int32).toNatClampNeg (q_numbers (1 : Int32).toNatClampNeg)) q_numbers) := hD
            refine lv_iconst (v := 1) hx hb dX12_isDone_183 (by decide) ?_
            cases h
            exact hret _ _ _ _ rfl hP hS dX12_isDone_184
          · have h := k_neg c164 h
            refine lv_iconst (v := 0) hx hb dX12_isDone_167 (by decide) ?_
            cases h
            exact hret _ _ _ _ rfl hP hS dX12_isDone_168
        · have h := k_neg s15_119 h
          refine lv_lookup (tgt := 185) hx hb dX12_isDone_15 rfl (k_lkN _ _ _ (List.forall_mem_cons.mpr ⟨k_ne s15_108 rfl, (List.forall_mem_cons.mpr ⟨k_ne s15_109 rfl, (List.forall_mem_cons.mpr ⟨k_ne s15_114 rfl, (List.forall_mem_cons.mpr ⟨k_ne s15_119 rfl, (fun _ z => absurd z List.not_mem_nil)⟩)⟩)⟩)⟩)) (by decide) ?_
          refine lv_iload_n hx hb dX12_isDone_185 rfl (lv_at hl 1 rfl) ?_
          refine lv_iconst (v := 1) hx hb dX12_isDone_186 (by decide) ?_
          refine lv_bipush (v := 60) hx hb dX12_isDone_187 (by decide) ?_
          refine k_callS (As := [.int (q_numbers (0 : Int32).toNatClampNeg), .int 1, .int 60]) (rest := []) (st1 := [.int (S_MD_isIn (q_numbers (0 : Int32).toNatClampNeg) 1 60)]) (ws2 := (Wd44 cI aR q_hasImage q_place q_rowAt q_rowEnd q_seed q_thrown q_s q_numbers)) hx hb hml hown hts hK hN hA hP hD hS hl (c_MD_isIn l D cI cM cS cJ s.heap.size (q_numbers (0 : Int32).toNatClampNeg) 1 60 rfl) gX12_isDone_X12_isIn rfl kdS_X12_isIn [] ⟨rfl, rfl⟩ ⟨Nat.le_of_ble_eq_true rfl, Nat.le_of_ble_eq_true rfl⟩ ⟨Nat.zero_le _, Nat.zero_le _⟩ rfl rfl (by decide +kernel) rfl rfl rfl (Nat.le_of_ble_eq_true rfl) dX12_isDone_189 rfl (fun H locs hP hD hS => ?_)
          refine lv_if_eq (tgt := 209) hx hb dX12_isDone_192 (by decide) (fun c192 => ?_) (fun c192 => ?_)
          · have h := k_pos c192 h
            refine lv_iconst (v := 0) hx hb dX12_isDone_209 (by decide) ?_
            cases h
            exact hret _ _ _ _ rfl hP hS dX12_isDone_210
          · have h := k_neg c192 h
            refine lv_aload_n hx hb dX12_isDone_195 rfl (lv_at hl 2 rfl) ?_
            refine va_get (D := D) (ci := 12) (v := .ref (aR 1)) (C := RX12) (T := TX12) (N := 18) hx hb hts hiX12 hown hK hP 0 rfl rfl 0 (by decide) hf9 (fun _ z => z) rfl dX12_isDone_196 ?_
            refine lv_iconst (v := 1) hx hb dX12_isDone_199 (by decide) ?_
            refine va_iald hx hb hK hP 1 0 rfl rfl (by decide) dX12_isDone_200 ?_
            refine lv_iload_n hx hb dX12_isDone_201 rfl (lv_at hl 1 rfl) ?_
            refine lv_iadd hx hb dX12_isDone_202 ?_
            refine lv_sipush (v := 999) hx hb dX12_isDone_203 (by decide) ?_
            refine lv_icmp_le (tgt := 211) hx hb dX12_isDone_206 (by decide) (fun c206 => ?_) (fun c206 => ?_)
            · have h := k_pos c206 h
              refine lv_aload_n hx hb dX12_isDone_211 rfl (lv_at hl 2 rfl) ?_
              refine va_get (D := D) (ci := 12) (v := .ref (aR 1)) (C := RX12) (T := TX12) (N := 18) hx hb hts hiX12 hown hK hP 0 rfl rfl 0 (by decide) hf9 (fun _ z => z) rfl dX12_isDone_212 ?_
              refine lv_iload_n hx hb dX12_isDone_215 rfl (lv_at hl 1 rfl) ?_
              obtain ⟨r216, g216, h⟩ := k_bind h
              refine k_callS (As := [.ref (aR 1), .int (q_numbers (0 : Int32).toNatClampNeg)]) (rest := []) (st1 := []) (ws2 := (Wd44 cI aR q_hasImage q_place q_rowAt q_rowEnd q_seed q_thrown r216 q_numbers)) hx hb hml hown hts hK hN hA hP hD hS hl (c_MD_daysOn l D cI cM cS cJ (aR 1) H.size (q_numbers (0 : Int32).toNatClampNeg) q_s g216) gX12_isDone_X12_daysOn rfl kdS_X12_daysOn [1] ⟨rfl, rfl⟩ ⟨Nat.le_of_ble_eq_true rfl, Nat.le_of_ble_eq_true rfl⟩ ⟨Nat.zero_le _, Nat.zero_le _⟩ rfl rfl (by decide +kernel) rfl rfl rfl (Nat.le_of_ble_eq_true rfl) dX12_isDone_216 rfl (fun H locs hP hD hS => ?_)
              refine lv_iconst (v := 1) hx hb dX12_isDone_219 (by decide) ?_
              cases h
              exact hret _ _ _ _ rfl hP hS dX12_isDone_220
            · have h := k_neg c206 h
              refine lv_iconst (v := 0) hx hb dX12_isDone_209 (by decide) ?_
              cases h
              exact hret _ _ _ _ rfl hP hS dX12_isDone_210
abbrev rm_X12_isShelf : Room := { frames := 1, cells := 0, slots := 0, locals := 22 }
set_option maxHeartbeats 4000000 in
set_option maxRecDepth 100000 in
theorem c_MD_isShelf (l : Launch) (D : va_G) (cI cM cS cJ : ClassId) (sz : Nat) (x0 : Int32) {o : (Int32)} (hsem : S_MD_isShelf x0 = some o) : kMet l yX12_isShelf wsX12_isShelf rm_X12_isShelf [.int x0] D (kT cI cM cS cJ) (Wd0) sz (some (.int o)) (Wd0) := by
  refine k_metZ (by decide) rfl rfl (Nat.le_of_ble_eq_true rfl) ?_
  intro p e s m below meth c ls Q A hx hb hml hts hown hK hN hA hP hD hS hl hsz hnm hret
  have hown : s.vm.findClass RX12 = some m.cls := hown
  replace hl : lv_has ls 1 [(0, .int x0)] := hl
  have h := hsem
  clear hsem
  rw [S_MD_isShelf] at h
  refine lv_iload_n hx hb dX12_isShelf_0 rfl (lv_at hl 0 rfl) ?_
  refine lv_iconst (v := 0) hx hb dX12_isShelf_1 (by decide) ?_
  refine lv_bipush (v := 7) hx hb dX12_isShelf_2 (by decide) ?_
  refine k_callS (As := [.int x0, .int 0, .int 7]) (rest := []) (st1 := [.int (S_MD_isIn x0 0 7)]) (ws2 := (Wd0)) hx hb hml hown hts hK hN hA hP hD hS hl (c_MD_isIn l D cI cM cS cJ s.heap.size x0 0 7 rfl) gX12_isShelf_X12_isIn rfl kdS_X12_isIn [] ⟨rfl, rfl⟩ ⟨Nat.le_of_ble_eq_true rfl, Nat.le_of_ble_eq_true rfl⟩ ⟨Nat.zero_le _, Nat.zero_le _⟩ rfl rfl (by decide +kernel) rfl rfl rfl (Nat.le_of_ble_eq_true rfl) dX12_isShelf_4 rfl (fun H locs hP hD hS => ?_)
  obtain ⟨g7, h⟩ := k_guard h
  cases h
  exact hret _ _ _ _ (k_z01 g7) hP hS dX12_isShelf_7
abbrev Wd45 (cI : ClassId) (aR : Nat → Nat) (q_hasImage : Int32) (q_place : Int32) (q_rowAt : Int32) (q_rowEnd : Int32) (q_seed : Int32) (q_thrown : Int32) (q_kept : Nat → Int32) (q_sort : Nat → Int32) : va_W := [((aR 0), .inr (12, [.ref (aR 1), .ref (aR 2), .ref (aR 3), .ref (aR 4), .int q_hasImage, .int q_place, .int q_rowAt, .int q_rowEnd, .ref (aR 5), .ref (aR 6), .int q_seed, .ref (aR 7), .ref (aR 8), .ref (aR 9), .ref (aR 10), .ref (aR 11), .ref (aR 12), .int q_thrown])), ((aR 7), .inl (cI, 8, .inl q_kept)), ((aR 10), .inl (cI, 8, .inl q_sort))]
theorem kdS_X12_isShelf : yX12_isShelf.cls ≠ "java/lang/invoke/MethodHandle" ∧ yX12_isShelf.cls ≠ "java/lang/invoke/VarHandle" ∧ (parseMethodDescriptor yX12_isShelf.desc).map (fun d => d.parameters.length) = some 1 := by decide +kernel
abbrev rm_X12_wrongRow : Room := { frames := 2, cells := 0, slots := 0, locals := 42 }
set_option maxHeartbeats 4000000 in
set_option maxRecDepth 100000 in
theorem c_MD_wrongRow (l : Launch) (D : va_G) (cI cM cS cJ : ClassId) (aR : Nat → Nat) (sz : Nat) (x1 : Int32) (x2 : Int32) (q_hasImage : Int32) (q_place : Int32) (q_rowAt : Int32) (q_rowEnd : Int32) (q_seed : Int32) (q_thrown : Int32) (q_kept : Nat → Int32) (q_sort : Nat → Int32) {o : (Int32)} (hsem : S_MD_wrongRow x1 x2 q_kept q_sort = some o) : kMet l yX12_wrongRow wsX12_wrongRow rm_X12_wrongRow [.ref (aR 0), .int x1, .int x2] D (kT cI cM cS cJ) (Wd45 cI aR q_hasImage q_place q_rowAt q_rowEnd q_seed q_thrown q_kept q_sort) sz (some (.int o)) (Wd45 cI aR q_hasImage q_place q_rowAt q_rowEnd q_seed q_thrown q_kept q_sort) := by
  refine k_metI (by decide) rfl rfl (Nat.le_of_ble_eq_true rfl) ?_
  intro p e s m below meth c ls Q A hx hb hml hts hown hK hN hA hP hD hS hl hsz hnm hret
  have hown : s.vm.findClass RX12 = some m.cls := hown
  have hf28 := hts (.fieldLink RX12 28 "PlumbLineModel" "kept" "[I") (List.mem_of_getElem? (i := 1) rfl)
  have hf37 := hts (.fieldLink RX12 37 "PlumbLineModel" "sort" "[I") (List.mem_of_getElem? (i := 2) rfl)
  have hiX12 : ∀ w ∈ u_ws RX12 TX12 18, w ∈ wsX12_wrongRow := fun w h => List.mem_cons_of_mem _ (List.mem_append_right _ h)
  replace hl : lv_has ls 3 [(0, .ref (aR 0)), (1, .int x1), (2, .int x2)] := hl
  have h := hsem
  clear hsem
  rw [S_MD_wrongRow] at h
  refine lv_iload_n hx hb dX12_wrongRow_0 rfl (lv_at hl 1 rfl) ?_
  obtain ⟨r1, g1, h⟩ := k_bind h
  refine k_callS (As := [.int x1]) (rest := []) (st1 := [.int r1]) (ws2 := (Wd45 cI aR q_hasImage q_place q_rowAt q_rowEnd q_seed q_thrown q_kept q_sort)) hx hb hml hown hts hK hN hA hP hD hS hl (c_MD_isShelf l D cI cM cS cJ s.heap.size x1 g1) gX12_wrongRow_X12_isShelf rfl kdS_X12_isShelf [] ⟨rfl, rfl⟩ ⟨Nat.le_of_ble_eq_true rfl, Nat.le_of_ble_eq_true rfl⟩ ⟨Nat.zero_le _, Nat.zero_le _⟩ rfl rfl (by decide +kernel) rfl rfl rfl (Nat.le_of_ble_eq_true rfl) dX12_wrongRow_1 rfl (fun H locs hP hD hS => ?_)
  refine lv_if_ne (tgt := 11) hx hb dX12_wrongRow_4 (by decide) (fun c4 => ?_) (fun c4 => ?_)
  · have h := k_neg c4 h
    refine lv_aload_n hx hb dX12_wrongRow_11 rfl (lv_at hl 0 rfl) ?_
    refine va_get (D := D) (ci := 12) (v := .ref (aR 7)) (C := RX12) (T := TX12) (N := 18) hx hb hts hiX12 hown hK hP 0 rfl rfl 11 (by decide) hf28 (fun _ z => z) rfl dX12_wrongRow_12 ?_
    refine lv_iload_n hx hb dX12_wrongRow_15 rfl (lv_at hl 1 rfl) ?_
    obtain ⟨g16, h⟩ := k_guard h
    refine va_iald hx hb hK hP 1 0 rfl rfl g16 dX12_wrongRow_16 ?_
    refine lv_if_ne (tgt := 25) hx hb dX12_wrongRow_17 (by decide) (fun c17 => ?_) (fun c17 => ?_)
    · have h := k_neg c17 h
      refine lv_aload_n hx hb dX12_wrongRow_25 rfl (lv_at hl 0 rfl) ?_
      refine va_get (D := D) (ci := 12) (v := .ref (aR 7)) (C := RX12) (T := TX12) (N := 18) hx hb hts hiX12 hown hK hP 0 rfl rfl 11 (by decide) hf28 (fun _ z => z) rfl dX12_wrongRow_26 ?_
      refine lv_iload_n hx hb dX12_wrongRow_29 rfl (lv_at hl 1 rfl) ?_
      refine va_iald hx hb hK hP 1 0 rfl rfl g16 dX12_wrongRow_30 ?_
      refine lv_iconst (v := 2) hx hb dX12_wrongRow_31 (by decide) ?_
      refine lv_icmp_ne (tgt := 49) hx hb dX12_wrongRow_32 (by decide) (fun c32 => ?_) (fun c32 => ?_)
      · have h := k_neg c32 h
        refine lv_bipush (v := (-12)) hx hb dX12_wrongRow_49 (by decide) ?_
        refine lv_goto (tgt := 55) hx hb dX12_wrongRow_51 (by decide) ?_
        cases h
        exact hret _ _ _ _ hP hS dX12_wrongRow_55
      · have h := k_pos c32 h
        refine lv_iload_n hx hb dX12_wrongRow_35 rfl (lv_at hl 2 rfl) ?_
        refine lv_if_lt (tgt := 54) hx hb dX12_wrongRow_36 (by decide) (fun c36 => ?_) (fun c36 => ?_)
        · have h := k_pos c36 h
          refine lv_iconst (v := 0) hx hb dX12_wrongRow_54 (by decide) ?_
          cases h
          exact hret _ _ _ _ hP hS dX12_wrongRow_55
        · have h := k_neg c36 h
          refine lv_aload_n hx hb dX12_wrongRow_39 rfl (lv_at hl 0 rfl) ?_
          refine va_get (D := D) (ci := 12) (v := .ref (aR 10)) (C := RX12) (T := TX12) (N := 18) hx hb hts hiX12 hown hK hP 0 rfl rfl 14 (by decide) hf37 (fun _ z => z) rfl dX12_wrongRow_40 ?_
          refine lv_iload_n hx hb dX12_wrongRow_43 rfl (lv_at hl 1 rfl) ?_
          refine va_iald hx hb hK hP 2 0 rfl rfl g16 dX12_wrongRow_44 ?_
          refine lv_iload_n hx hb dX12_wrongRow_45 rfl (lv_at hl 2 rfl) ?_
          refine lv_icmp_eq (tgt := 54) hx hb dX12_wrongRow_46 (by decide) (fun c46 => ?_) (fun c46 => ?_)
          · have h := k_pos c46 h
            refine lv_iconst (v := 0) hx hb dX12_wrongRow_54 (by decide) ?_
            cases h
            exact hret _ _ _ _ hP hS dX12_wrongRow_55
          · have h := k_neg c46 h
            refine lv_bipush (v := (-12)) hx hb dX12_wrongRow_49 (by decide) ?_
            refine lv_goto (tgt := 55) hx hb dX12_wrongRow_51 (by decide) ?_
            cases h
            exact hret _ _ _ _ hP hS dX12_wrongRow_55
    · have h := k_pos c17 h
      refine lv_bipush (v := (-11)) hx hb dX12_wrongRow_20 (by decide) ?_
      refine lv_goto (tgt := 55) hx hb dX12_wrongRow_22 (by decide) ?_
      cases h
      exact hret _ _ _ _ hP hS dX12_wrongRow_55
  · have h := k_pos c4 h
    refine lv_iconst (v := (-1)) hx hb dX12_wrongRow_7 (by decide) ?_
    refine lv_goto (tgt := 55) hx hb dX12_wrongRow_8 (by decide) ?_
    cases h
    exact hret _ _ _ _ hP hS dX12_wrongRow_55
abbrev Wd46 (cI : ClassId) (aR : Nat → Nat) (q_hasImage : Int32) (q_place : Int32) (q_rowAt : Int32) (q_rowEnd : Int32) (q_seed : Int32) (q_thrown : Int32) (q_s : Nat → Int32) (q_was : Nat → Int32) (q_numbers : Nat → Int32) (q_kept : Nat → Int32) (q_sort : Nat → Int32) (q_size : Nat → Int32) (q_element : Nat → Int32) : va_W := [((aR 0), .inr (12, [.ref (aR 1), .ref (aR 2), .ref (aR 3), .ref (aR 4), .int q_hasImage, .int q_place, .int q_rowAt, .int q_rowEnd, .ref (aR 5), .ref (aR 6), .int q_seed, .ref (aR 7), .ref (aR 8), .ref (aR 9), .ref (aR 10), .ref (aR 11), .ref (aR 12), .int q_thrown])), ((aR 1), .inl (cI, 37, .inl q_s)), ((aR 4), .inl (cI, 37, .inl q_was)), ((aR 5), .inl (cI, 3, .inl q_numbers)), ((aR 7), .inl (cI, 8, .inl q_kept)), ((aR 10), .inl (cI, 8, .inl q_sort)), ((aR 11), .inl (cI, 8, .inl q_size)), ((aR 12), .inl (cI, 800, .inl q_element))]
theorem kdV_X12_wrongRow : yX12_wrongRow.cls = RX12 ∧ yX12_wrongRow.cls ≠ "java/lang/invoke/MethodHandle" ∧ yX12_wrongRow.cls ≠ "java/lang/invoke/VarHandle" ∧ (parseMethodDescriptor yX12_wrongRow.desc).map (fun d => d.parameters.length) = some 2 := by decide +kernel
theorem kdV_X12_readsStatement : yX12_readsStatement.cls = RX12 ∧ yX12_readsStatement.cls ≠ "java/lang/invoke/MethodHandle" ∧ yX12_readsStatement.cls ≠ "java/lang/invoke/VarHandle" ∧ (parseMethodDescriptor yX12_readsStatement.desc).map (fun d => d.parameters.length) = some 0 := by decide +kernel
theorem kdS_X12_copies : yX12_copies.cls ≠ "java/lang/invoke/MethodHandle" ∧ yX12_copies.cls ≠ "java/lang/invoke/VarHandle" ∧ (parseMethodDescriptor yX12_copies.desc).map (fun d => d.parameters.length) = some 2 := by decide +kernel
theorem kdV_X12_isDone : yX12_isDone.cls = RX12 ∧ yX12_isDone.cls ≠ "java/lang/invoke/MethodHandle" ∧ yX12_isDone.cls ≠ "java/lang/invoke/VarHandle" ∧ (parseMethodDescriptor yX12_isDone.desc).map (fun d => d.parameters.length) = some 1 := by decide +kernel
abbrev rm_X12_city : Room := { frames := 6, cells := 0, slots := 0, locals := 135 }
set_option maxHeartbeats 4000000 in
set_option maxRecDepth 100000 in
theorem c_MD_city (l : Launch) (D : va_G) (cI cM cS cJ : ClassId) (aR : Nat → Nat) (sz : Nat) (x1 : Int32) (q_hasImage : Int32) (q_place : Int32) (q_rowAt : Int32) (q_rowEnd : Int32) (q_seed : Int32) (q_thrown : Int32) (q_s : Nat → Int32) (q_was : Nat → Int32) (q_numbers : Nat → Int32) (q_kept : Nat → Int32) (q_sort : Nat → Int32) (q_size : Nat → Int32) (q_element : Nat → Int32) {o : (Int32) × (Int32) × (Int32) × (Int32) × (Nat → Int32) × (Nat → Int32) × (Nat → Int32)} (hsem : S_MD_city x1 q_place q_rowAt q_rowEnd q_s q_was q_numbers q_kept q_sort q_size q_element = some o) : kMet l yX12_city wsX12_city rm_X12_city [.ref (aR 0), .int x1] D (kT cI cM cS cJ) (Wd46 cI aR q_hasImage q_place q_rowAt q_rowEnd q_seed q_thrown q_s q_was q_numbers q_kept q_sort q_size q_element) sz (some (.int o.1)) (Wd46 cI aR q_hasImage o.2.1 o.2.2.1 o.2.2.2.1 q_seed q_thrown o.2.2.2.2.1 o.2.2.2.2.2.1 o.2.2.2.2.2.2 q_kept q_sort q_size q_element) := by
  refine k_metI (by decide) rfl rfl (Nat.le_of_ble_eq_true rfl) ?_
  intro p e s m below meth c ls Q A hx hb hml hts hown hK hN hA hP hD hS hl hsz hnm hret
  have hown : s.vm.findClass RX12 = some m.cls := hown
  have hf119 := hts (.fieldLink RX12 119 "PlumbLineModel" "rowAt" "I") (List.mem_of_getElem? (i := 1) rfl)
  have hf40 := hts (.fieldLink RX12 40 "PlumbLineModel" "size" "[I") (List.mem_of_getElem? (i := 2) rfl)
  have hf116 := hts (.fieldLink RX12 116 "PlumbLineModel" "rowEnd" "I") (List.mem_of_getElem? (i := 3) rfl)
  have hf112 := hts (.fieldLink RX12 112 "PlumbLineModel" "place" "I") (List.mem_of_getElem? (i := 4) rfl)
  have hf9 := hts (.fieldLink RX12 9 "PlumbLineModel" "s" "[I") (List.mem_of_getElem? (i := 5) rfl)
  have hf19 := hts (.fieldLink RX12 19 "PlumbLineModel" "was" "[I") (List.mem_of_getElem? (i := 6) rfl)
  have hiX12 : ∀ w ∈ u_ws RX12 TX12 18, w ∈ wsX12_city := fun w h => List.mem_cons_of_mem _ (List.mem_append_right _ h)
  replace hl : lv_has ls 8 [(0, .ref (aR 0)), (1, .int x1)] := hl
  have h := hsem
  clear hsem
  rw [S_MD_city] at h
  refine lv_aload_n hx hb dX12_city_0 rfl (lv_at hl 0 rfl) ?_
  refine lv_iload_n hx hb dX12_city_1 rfl (lv_at hl 1 rfl) ?_
  refine lv_iconst (v := 0) hx hb dX12_city_2 (by decide) ?_
  obtain ⟨r3, g3, h⟩ := k_bind h
  refine k_callV (As := [.int x1, .int 0]) (rest := []) (st1 := [.int r3]) (ws2 := (Wd46 cI aR q_hasImage q_place q_rowAt q_rowEnd q_seed q_thrown q_s q_was q_numbers q_kept q_sort q_size q_element)) hx hb hml hown hts hK hN hA hP hD hS hl (c_MD_wrongRow l D cI cM cS cJ aR s.heap.size x1 0 q_hasImage q_place q_rowAt q_rowEnd q_seed q_thrown q_kept q_sort g3) gX12_city_X12_wrongRow rfl kdV_X12_wrongRow 0 12 rfl rfl rfl [0, 4, 5] ⟨rfl, rfl⟩ ⟨Nat.le_of_ble_eq_true rfl, Nat.le_of_ble_eq_true rfl⟩ ⟨Nat.zero_le _, Nat.zero_le _⟩ rfl rfl (by decide +kernel) rfl rfl rfl (Nat.le_of_ble_eq_true rfl) dX12_city_3 rfl (fun H locs hP hD hS => ?_)
  refine lv_istore_n (lv' := [(2, .int r3), (0, .ref (aR 0)), (1, .int x1)]) hx hb dX12_city_6 rfl hl (by decide) rfl (fun ls hl => ?_)
  refine lv_iload_n hx hb dX12_city_7 rfl (lv_at hl 0 rfl) ?_
  refine lv_if_eq (tgt := 13) hx hb dX12_city_8 (by decide) (fun c8 => ?_) (fun c8 => ?_)
  · have h := k_pos c8 h
    refine lv_aload_n hx hb dX12_city_13 rfl (lv_at hl 1 rfl) ?_
    refine lv_bipush (v := 100) hx hb dX12_city_14 (by decide) ?_
    refine lv_iload_n hx hb dX12_city_16 rfl (lv_at hl 2 rfl) ?_
    refine lv_imul hx hb dX12_city_17 ?_
    refine va_put (D := D) (ci := 12) (v := .int ((100 : Int32) * x1)) (ty := .int) (C := RX12) (T := TX12) (N := 18) hx hb hts hiX12 tyX12 tyX12_ok nmX12 hown hK hP hD hS 0 rfl rfl 6 (by decide) hf119 (fun _ z => z) rfl (by decide +kernel) rfl rfl (Nat.le_of_ble_eq_true rfl) dX12_city_18 (fun H locs hP hD hS => ?_)
    replace hP : va_P D vwCl (Wd46 cI aR q_hasImage q_place ((100 : Int32) * x1) q_rowEnd q_seed q_thrown q_s q_was q_numbers q_kept q_sort q_size q_element) H := hP
    replace hD : va_D A (Wd46 cI aR q_hasImage q_place ((100 : Int32) * x1) q_rowEnd q_seed q_thrown q_s q_was q_numbers q_kept q_sort q_size q_element) := hD
    refine lv_aload_n hx hb dX12_city_21 rfl (lv_at hl 1 rfl) ?_
    refine lv_aload_n hx hb dX12_city_22 rfl (lv_at hl 1 rfl) ?_
    refine va_get (D := D) (ci := 12) (v := .ref (aR 11)) (C := RX12) (T := TX12) (N := 18) hx hb hts hiX12 hown hK hP 0 rfl rfl 15 (by decide) hf40 (fun _ z => z) rfl dX12_city_23 ?_
    refine lv_iload_n hx hb dX12_city_26 rfl (lv_at hl 2 rfl) ?_
    obtain ⟨g27, h⟩ := k_guard h
    refine va_iald hx hb hK hP 6 0 rfl rfl g27 dX12_city_27 ?_
    refine va_put (D := D) (ci := 12) (v := .int (q_size x1.toNatClampNeg)) (ty := .int) (C := RX12) (T := TX12) (N := 18) hx hb hts hiX12 tyX12 tyX12_ok nmX12 hown hK hP hD hS 0 rfl rfl 7 (by decide) hf116 (fun _ z => z) rfl (by decide +kernel) rfl rfl (Nat.le_of_ble_eq_true rfl) dX12_city_28 (fun H locs hP hD hS => ?_)
    replace hP : va_P D vwCl (Wd46 cI aR q_hasImage q_place ((100 : Int32) * x1) (q_size x1.toNatClampNeg) q_seed q_thrown q_s q_was q_numbers q_kept q_sort q_size q_element) H := hP
    replace hD : va_D A (Wd46 cI aR q_hasImage q_place ((100 : Int32) * x1) (q_size x1.toNatClampNeg) q_seed q_thrown q_s q_was q_numbers q_kept q_sort q_size q_element) := hD
    refine lv_aload_n hx hb dX12_city_31 rfl (lv_at hl 1 rfl) ?_
    refine lv_iconst (v := 0) hx hb dX12_city_32 (by decide) ?_
    refine va_put (D := D) (ci := 12) (v := .int 0) (ty := .int) (C := RX12) (T := TX12) (N := 18) hx hb hts hiX12 tyX12 tyX12_ok nmX12 hown hK hP hD hS 0 rfl rfl 5 (by decide) hf112 (fun _ z => z) rfl (by decide +kernel) rfl rfl (Nat.le_of_ble_eq_true rfl) dX12_city_33 (fun H locs hP hD hS => ?_)
    replace hP : va_P D vwCl (Wd46 cI aR q_hasImage 0 ((100 : Int32) * x1) (q_size x1.toNatClampNeg) q_seed q_thrown q_s q_was q_numbers q_kept q_sort q_size q_element) H := hP
    replace hD : va_D A (Wd46 cI aR q_hasImage 0 ((100 : Int32) * x1) (q_size x1.toNatClampNeg) q_seed q_thrown q_s q_was q_numbers q_kept q_sort q_size q_element) := hD
    refine lv_iconst (v := 0) hx hb dX12_city_36 (by decide) ?_
    refine lv_istore_n (lv' := [(3, .int 0), (2, .int r3), (0, .ref (aR 0)), (1, .int x1)]) hx hb dX12_city_37 rfl hl (by decide) rfl (fun ls hl => ?_)
    refine lv_iconst (v := 0) hx hb dX12_city_38 (by decide) ?_
    have B41 : ∀ (q_rowAt : Int32) (q_rowEnd : Int32) (q_s : Nat → Int32) (q_was : Nat → Int32) (n41 : Nat) (y3 : Int32) (y4 : Int32) (q_place : Int32) (q_numbers : Nat → Int32) (H : Heap) (locs : List Loc) (ls : Array Slot), va_P D vwCl (Wd46 cI aR q_hasImage q_place q_rowAt q_rowEnd q_seed q_thrown q_s q_was q_numbers q_kept q_sort q_size q_element) H → va_D A (Wd46 cI aR q_hasImage q_place q_rowAt q_rowEnd q_seed q_thrown q_s q_was q_numbers q_kept q_sort q_size q_element) → va_S A s.heap H locs → lv_has ls 8 [(0, .ref (aR 0)), (3, .int y3), (4, .int y4)] → S_MD_city_L41 q_element q_rowAt q_rowEnd q_s q_was n41 y3 y4 q_place q_numbers = some o → W p l e rm_X12_city s m ([.ref (aR 0), .int x1] : List Value).toArray below meth c H locs 0 0 Q (F0 m 41 ls []) := by
      intro q_rowAt q_rowEnd q_s q_was
      intro n41
      induction n41 with
      | zero => intro y3 y4 q_place q_numbers H locs ls hP hD hS hl h; exact absurd h (by simp [S_MD_city_L41])
      | succ n41 ih41 =>
        intro y3 y4 q_place q_numbers H locs ls hP hD hS hl h
        rw [S_MD_city_L41] at h
        refine lv_aload_n hx hb dX12_city_41 rfl (lv_at hl 0 rfl) ?_
        obtain ⟨r42, g42, h⟩ := k_bind h
        refine k_callV (As := []) (rest := []) (st1 := [.int r42.1]) (ws2 := (Wd46 cI aR q_hasImage r42.2.1 q_rowAt q_rowEnd q_seed q_thrown q_s q_was r42.2.2 q_kept q_sort q_size q_element)) hx hb hml hown hts hK hN hA hP hD hS hl (c_MD_readsStatement l D cI cM cS cJ aR H.size q_hasImage q_place q_rowAt q_rowEnd q_seed q_thrown q_numbers q_element g42) gX12_city_X12_readsStatement rfl kdV_X12_readsStatement 0 12 rfl rfl rfl [0, 3, 7] ⟨rfl, rfl⟩ ⟨Nat.le_of_ble_eq_true rfl, Nat.le_of_ble_eq_true rfl⟩ ⟨Nat.zero_le _, Nat.zero_le _⟩ rfl rfl (by decide +kernel) rfl rfl rfl (Nat.le_of_ble_eq_true rfl) dX12_city_42 rfl (fun H locs hP hD hS => ?_)
        have B58 : ∀ (y3 : Int32) (y4 : Int32) (q_place : Int32) (q_rowAt : Int32) (q_rowEnd : Int32) (q_s : Nat → Int32) (q_was : Nat → Int32) (q_numbers : Nat → Int32) (H : Heap) (locs : List Loc) (ls : Array Slot), va_P D vwCl (Wd46 cI aR q_hasImage q_place q_rowAt q_rowEnd q_seed q_thrown q_s q_was q_numbers q_kept q_sort q_size q_element) H → va_D A (Wd46 cI aR q_hasImage q_place q_rowAt q_rowEnd q_seed q_thrown q_s q_was q_numbers q_kept q_sort q_size q_element) → va_S A s.heap H locs → lv_has ls 8 [(0, .ref (aR 0)), (3, .int y3), (4, .int y4)] → S_MD_city_J58 (S_MD_city_L41 q_element q_rowAt q_rowEnd q_s q_was n41) y3 y4 q_element q_place q_rowAt q_rowEnd q_s q_was q_numbers = some o → W p l e rm_X12_city s m ([.ref (aR 0), .int x1] : List Value).toArray below meth c H locs 0 0 Q (F0 m 58 ls []) := by
          intro y3 y4 q_place q_rowAt q_rowEnd q_s q_was q_numbers H locs ls hP hD hS hl h
          rw [S_MD_city_J58] at h
          refine lv_iinc (v := (y3 + 1)) (lv' := [(3, .int (y3 + 1)), (0, .ref (aR 0)), (4, .int y4)]) hx hb dX12_city_58 hl (k := 1) rfl (by first | rfl | decide) (by decide) rfl (fun ls hl => ?_)
          refine lv_iload hx hb dX12_city_61 (lv_at hl 2 rfl) ?_
          have B77 : ∀ (y3 : Int32) (y4 : Int32) (q_place : Int32) (q_rowAt : Int32) (q_rowEnd : Int32) (q_s : Nat → Int32) (q_was : Nat → Int32) (q_numbers : Nat → Int32) (H : Heap) (locs : List Loc) (ls : Array Slot), va_P D vwCl (Wd46 cI aR q_hasImage q_place q_rowAt q_rowEnd q_seed q_thrown q_s q_was q_numbers q_kept q_sort q_size q_element) H → va_D A (Wd46 cI aR q_hasImage q_place q_rowAt q_rowEnd q_seed q_thrown q_s q_was q_numbers q_kept q_sort q_size q_element) → va_S A s.heap H locs → lv_has ls 8 [(0, .ref (aR 0)), (3, .int y3), (4, .int y4)] → S_MD_city_J77 y3 y4 q_element q_rowAt q_rowEnd q_s q_was q_numbers = some o → W p l e rm_X12_city s m ([.ref (aR 0), .int x1] : List Value).toArray below meth c H locs 0 0 Q (F0 m 77 ls []) := by
            intro y3 y4 q_place q_rowAt q_rowEnd q_s q_was q_numbers H locs ls hP hD hS hl h
            rw [S_MD_city_J77] at h
            refine lv_aload_n hx hb dX12_city_77 rfl (lv_at hl 0 rfl) ?_
            refine va_get (D := D) (ci := 12) (v := .ref (aR 1)) (C := RX12) (T := TX12) (N := 18) hx hb hts hiX12 hown hK hP 0 rfl rfl 0 (by decide) hf9 (fun _ z => z) rfl dX12_city_78 ?_
            refine lv_aload_n hx hb dX12_city_81 rfl (lv_at hl 0 rfl) ?_
            refine va_get (D := D) (ci := 12) (v := .ref (aR 4)) (C := RX12) (T := TX12) (N := 18) hx hb hts hiX12 hown hK hP 0 rfl rfl 3 (by decide) hf19 (fun _ z => z) rfl dX12_city_82 ?_
            obtain ⟨r85, g85, h⟩ := k_bind h
            refine k_callS (As := [.ref (aR 1), .ref (aR 4)]) (rest := []) (st1 := []) (ws2 := (Wd46 cI aR q_hasImage q_place q_rowAt q_rowEnd q_seed q_thrown q_s r85 q_numbers q_kept q_sort q_size q_element)) hx hb hml hown hts hK hN hA hP hD hS hl (c_MD_copies l D cI cM cS cJ (aR 1) (aR 4) H.size q_s q_was g85) gX12_city_X12_copies rfl kdS_X12_copies [1, 2] ⟨rfl, rfl⟩ ⟨Nat.le_of_ble_eq_true rfl, Nat.le_of_ble_eq_true rfl⟩ ⟨Nat.zero_le _, Nat.zero_le _⟩ rfl rfl (by decide +kernel) rfl rfl rfl (Nat.le_of_ble_eq_true rfl) dX12_city_85 rfl (fun H locs hP hD hS => ?_)
            refine lv_aload_n hx hb dX12_city_88 rfl (lv_at hl 0 rfl) ?_
            refine lv_iconst (v := 0) hx hb dX12_city_89 (by decide) ?_
            have B93 : ∀ (y3 : Int32) (q_rowAt : Int32) (q_rowEnd : Int32) (q_was : Nat → Int32) (n93 : Nat) (y4 : Int32) (q_place : Int32) (q_s : Nat → Int32) (q_numbers : Nat → Int32) (H : Heap) (locs : List Loc) (ls : Array Slot), va_P D vwCl (Wd46 cI aR q_hasImage q_place q_rowAt q_rowEnd q_seed q_thrown q_s q_was q_numbers q_kept q_sort q_size q_element) H → va_D A (Wd46 cI aR q_hasImage q_place q_rowAt q_rowEnd q_seed q_thrown q_s q_was q_numbers q_kept q_sort q_size q_element) → va_S A s.heap H locs → lv_has ls 8 [(0, .ref (aR 0)), (3, .int y3), (4, .int y4)] → S_MD_city_L93 y3 q_element q_rowAt q_rowEnd q_was n93 y4 q_place q_s q_numbers = some o → W p l e rm_X12_city s m ([.ref (aR 0), .int x1] : List Value).toArray below meth c H locs 0 0 Q (F0 m 93 ls []) := by
              intro y3 q_rowAt q_rowEnd q_was
              intro n93
              induction n93 with
              | zero => intro y4 q_place q_s q_numbers H locs ls hP hD hS hl h; exact absurd h (by simp [S_MD_city_L93])
              | succ n93 ih93 =>
                intro y4 q_place q_s q_numbers H locs ls hP hD hS hl h
                rw [S_MD_city_L93] at h
                refine lv_iload hx hb dX12_city_93 (lv_at hl 2 rfl) ?_
                refine lv_if_ne (tgt := 161) hx hb dX12_city_95 (by decide) (fun c95 => ?_) (fun c95 => ?_)
                · have h := k_neg c95 h
                  refine lv_iload hx hb dX12_city_161 (lv_at hl 2 rfl) ?_
                  refine lv_if_ne (tgt := 170) hx hb dX12_city_163 (by decide) (fun c163 => ?_) (fun c163 => ?_)
                  · have h := k_neg c163 h
                    refine lv_iload hx hb dX12_city_170 (lv_at hl 2 rfl) ?_
                    cases h
                    exact hret _ _ _ _ hP hS dX12_city_172
                  · have h := k_pos c163 h
                    refine lv_iload_n hx hb dX12_city_166 rfl (lv_at hl 1 rfl) ?_
                    refine lv_goto (tgt := 172) hx hb dX12_city_167 (by decide) ?_
                    cases h
                    exact hret _ _ _ _ hP hS dX12_city_172
                · have h := k_pos c95 h
                  refine lv_aload_n hx hb dX12_city_98 rfl (lv_at hl 0 rfl) ?_
                  refine va_get (D := D) (ci := 12) (v := .int q_place) (C := RX12) (T := TX12) (N := 18) hx hb hts hiX12 hown hK hP 0 rfl rfl 5 (by decide) hf112 (fun _ z => z) rfl dX12_city_99 ?_
                  refine lv_aload_n hx hb dX12_city_102 rfl (lv_at hl 0 rfl) ?_
                  refine va_get (D := D) (ci := 12) (v := .int q_rowEnd) (C := RX12) (T := TX12) (N := 18) hx hb hts hiX12 hown hK hP 0 rfl rfl 7 (by decide) hf116 (fun _ z => z) rfl dX12_city_103 ?_
                  refine lv_icmp_ge (tgt := 161) hx hb dX12_city_106 (by decide) (fun c106 => ?_) (fun c106 => ?_)
                  · have h := k_pos c106 h
                    refine lv_iload hx hb dX12_city_161 (lv_at hl 2 rfl) ?_
                    refine lv_if_ne (tgt := 170) hx hb dX12_city_163 (by decide) (fun c163 => ?_) (fun c163 => ?_)
                    · have h := k_neg c163 h
                      refine lv_iload hx hb dX12_city_170 (lv_at hl 2 rfl) ?_
                      cases h
                      exact hret _ _ _ _ hP hS dX12_city_172
                    · have h := k_pos c163 h
                      refine lv_iload_n hx hb dX12_city_166 rfl (lv_at hl 1 rfl) ?_
                      refine lv_goto (tgt := 172) hx hb dX12_city_167 (by decide) ?_
                      cases h
                      exact hret _ _ _ _ hP hS dX12_city_172
                  · have h := k_neg c106 h
                    refine lv_aload_n hx hb dX12_city_109 rfl (lv_at hl 0 rfl) ?_
                    refine va_get (D := D) (ci := 12) (v := .int q_place) (C := RX12) (T := TX12) (N := 18) hx hb hts hiX12 hown hK hP 0 rfl rfl 5 (by decide) hf112 (fun _ z => z) rfl dX12_city_110 ?_
                    refine lv_istore (lv' := [(5, .int q_place), (0, .ref (aR 0)), (3, .int y3), (4, .int y4)]) hx hb dX12_city_113 hl (by decide) rfl (fun ls hl => ?_)
                    refine lv_aload_n hx hb dX12_city_115 rfl (lv_at hl 1 rfl) ?_
                    obtain ⟨r116, g116, h⟩ := k_bind h
                    refine k_callV (As := []) (rest := []) (st1 := [.int r116]) (ws2 := (Wd46 cI aR q_hasImage q_place q_rowAt q_rowEnd q_seed q_thrown q_s q_was q_numbers q_kept q_sort q_size q_element)) hx hb hml hown hts hK hN hA hP hD hS hl (c_MD_here l D cI cM cS cJ aR H.size q_hasImage q_place q_rowAt q_rowEnd q_seed q_thrown q_element g116) gX12_city_X12_here rfl kdV_X12_here 0 12 rfl rfl rfl [0, 7] ⟨rfl, rfl⟩ ⟨Nat.le_of_ble_eq_true rfl, Nat.le_of_ble_eq_true rfl⟩ ⟨Nat.zero_le _, Nat.zero_le _⟩ rfl rfl (by decide +kernel) rfl rfl rfl (Nat.le_of_ble_eq_true rfl) dX12_city_116 rfl (fun H locs hP hD hS => ?_)
                    refine lv_istore (lv' := [(6, .int r116), (5, .int q_place), (0, .ref (aR 0)), (3, .int y3), (4, .int y4)]) hx hb dX12_city_119 hl (by decide) rfl (fun ls hl => ?_)
                    refine lv_aload_n hx hb dX12_city_121 rfl (lv_at hl 2 rfl) ?_
                    obtain ⟨r122, g122, h⟩ := k_bind h
                    refine k_callV (As := []) (rest := []) (st1 := [.int r122.1]) (ws2 := (Wd46 cI aR q_hasImage r122.2.1 q_rowAt q_rowEnd q_seed q_thrown q_s q_was r122.2.2 q_kept q_sort q_size q_element)) hx hb hml hown hts hK hN hA hP hD hS hl (c_MD_readsStatement l D cI cM cS cJ aR H.size q_hasImage q_place q_rowAt q_rowEnd q_seed q_thrown q_numbers q_element g122) gX12_city_X12_readsStatement rfl kdV_X12_readsStatement 0 12 rfl rfl rfl [0, 3, 7] ⟨rfl, rfl⟩ ⟨Nat.le_of_ble_eq_true rfl, Nat.le_of_ble_eq_true rfl⟩ ⟨Nat.zero_le _, Nat.zero_le _⟩ rfl rfl (by decide +kernel) rfl rfl rfl (Nat.le_of_ble_eq_true rfl) dX12_city_122 rfl (fun H locs hP hD hS => ?_)
                    refine lv_istore (lv' := [(7, .int r122.1), (6, .int r116), (5, .int q_place), (0, .ref (aR 0)), (3, .int y3), (4, .int y4)]) hx hb dX12_city_125 hl (by decide) rfl (fun ls hl => ?_)
                    refine lv_aload_n hx hb dX12_city_127 rfl (lv_at hl 3 rfl) ?_
                    refine lv_iload hx hb dX12_city_128 (lv_at hl 1 rfl) ?_
                    obtain ⟨r130, g130, h⟩ := k_bind h
                    refine k_callV (As := [.int r116]) (rest := []) (st1 := [.int r130.1]) (ws2 := (Wd46 cI aR q_hasImage r122.2.1 q_rowAt q_rowEnd q_seed q_thrown r130.2 q_was r122.2.2 q_kept q_sort q_size q_element)) hx hb hml hown hts hK hN hA hP hD hS hl (c_MD_isDone l D cI cM cS cJ aR H.size r116 q_hasImage r122.2.1 q_rowAt q_rowEnd q_seed q_thrown q_s r122.2.2 g130) gX12_city_X12_isDone rfl kdV_X12_isDone 0 12 rfl rfl rfl [0, 1, 3] ⟨rfl, rfl⟩ ⟨Nat.le_of_ble_eq_true rfl, Nat.le_of_ble_eq_true rfl⟩ ⟨Nat.zero_le _, Nat.zero_le _⟩ rfl rfl (by decide +kernel) rfl rfl rfl (Nat.le_of_ble_eq_true rfl) dX12_city_130 rfl (fun H locs hP hD hS => ?_)
                    refine lv_if_eq (tgt := 139) hx hb dX12_city_133 (by decide) (fun c133 => ?_) (fun c133 => ?_)
                    · have h := k_pos c133 h
                      refine lv_sipush (v := (-2000)) hx hb dX12_city_139 (by decide) ?_
                      refine lv_iload hx hb dX12_city_142 (lv_at hl 2 rfl) ?_
                      refine lv_isub hx hb dX12_city_144 ?_
                      refine lv_istore (lv' := [(4, .int (((-2000) : Int32) - q_place)), (7, .int r122.1), (6, .int r116), (5, .int q_place), (0, .ref (aR 0)), (3, .int y3)]) hx hb dX12_city_145 hl (by decide) rfl (fun ls hl => ?_)
                      refine lv_aload_n hx hb dX12_city_147 rfl (lv_at hl 4 rfl) ?_
                      refine va_get (D := D) (ci := 12) (v := .ref (aR 4)) (C := RX12) (T := TX12) (N := 18) hx hb hts hiX12 hown hK hP 0 rfl rfl 3 (by decide) hf19 (fun _ z => z) rfl dX12_city_148 ?_
                      refine lv_aload_n hx hb dX12_city_151 rfl (lv_at hl 4 rfl) ?_
                      refine va_get (D := D) (ci := 12) (v := .ref (aR 1)) (C := RX12) (T := TX12) (N := 18) hx hb hts hiX12 hown hK hP 0 rfl rfl 0 (by decide) hf9 (fun _ z => z) rfl dX12_city_152 ?_
                      obtain ⟨r155, g155, h⟩ := k_bind h
                      refine k_callS (As := [.ref (aR 4), .ref (aR 1)]) (rest := []) (st1 := []) (ws2 := (Wd46 cI aR q_hasImage r122.2.1 q_rowAt q_rowEnd q_seed q_thrown r155 q_was r122.2.2 q_kept q_sort q_size q_element)) hx hb hml hown hts hK hN hA hP hD hS hl (c_MD_copies l D cI cM cS cJ (aR 4) (aR 1) H.size q_was r130.2 g155) gX12_city_X12_copies rfl kdS_X12_copies [2, 1] ⟨rfl, rfl⟩ ⟨Nat.le_of_ble_eq_true rfl, Nat.le_of_ble_eq_true rfl⟩ ⟨Nat.zero_le _, Nat.zero_le _⟩ rfl rfl (by decide +kernel) rfl rfl rfl (Nat.le_of_ble_eq_true rfl) dX12_city_155 rfl (fun H locs hP hD hS => ?_)
                      refine lv_goto (tgt := 93) hx hb dX12_city_158 (by decide) ?_
                      exact ih93 (((-2000) : Int32) - q_place) r122.2.1 r155 r122.2.2 H locs ls hP hD hS (lv_sub hl [4, 5, 0] rfl) h
                    · have h := k_neg c133 h
                      refine lv_goto (tgt := 93) hx hb dX12_city_136 (by decide) ?_
                      exact ih93 y4 r122.2.1 r130.2 r122.2.2 H locs ls hP hD hS (lv_sub hl [3, 4, 5] rfl) h
            refine va_put (D := D) (ci := 12) (v := .int 0) (ty := .int) (C := RX12) (T := TX12) (N := 18) hx hb hts hiX12 tyX12 tyX12_ok nmX12 hown hK hP hD hS 0 rfl rfl 5 (by decide) hf112 (fun _ z => z) rfl (by decide +kernel) rfl rfl (Nat.le_of_ble_eq_true rfl) dX12_city_90 (fun H locs hP hD hS => ?_)
            replace hP : va_P D vwCl (Wd46 cI aR q_hasImage 0 q_rowAt q_rowEnd q_seed q_thrown q_s r85 q_numbers q_kept q_sort q_size q_element) H := hP
            replace hD : va_D A (Wd46 cI aR q_hasImage 0 q_rowAt q_rowEnd q_seed q_thrown q_s r85 q_numbers q_kept q_sort q_size q_element) := hD
            exact B93 y3 q_rowAt q_rowEnd r85 lfu y4 0 q_s q_numbers H locs ls hP hD hS hl h
          refine lv_if_ne (tgt := 77) hx hb dX12_city_63 (by decide) (fun c63 => ?_) (fun c63 => ?_)
          · have h := k_neg c63 h
            exact B77 (y3 + 1) y4 q_place q_rowAt q_rowEnd q_s q_was q_numbers H locs ls hP hD hS (lv_sub hl [1, 0, 2] rfl) h
          · have h := k_pos c63 h
            refine lv_aload_n hx hb dX12_city_66 rfl (lv_at hl 1 rfl) ?_
            refine va_get (D := D) (ci := 12) (v := .int q_place) (C := RX12) (T := TX12) (N := 18) hx hb hts hiX12 hown hK hP 0 rfl rfl 5 (by decide) hf112 (fun _ z => z) rfl dX12_city_67 ?_
            refine lv_aload_n hx hb dX12_city_70 rfl (lv_at hl 1 rfl) ?_
            refine va_get (D := D) (ci := 12) (v := .int q_rowEnd) (C := RX12) (T := TX12) (N := 18) hx hb hts hiX12 hown hK hP 0 rfl rfl 7 (by decide) hf116 (fun _ z => z) rfl dX12_city_71 ?_
            refine lv_icmp_lt (tgt := 41) hx hb dX12_city_74 (by decide) (fun c74 => ?_) (fun c74 => ?_)
            · have h := k_pos c74 h
              exact ih41 (y3 + 1) y4 q_place q_numbers H locs ls hP hD hS (lv_sub hl [1, 0, 2] rfl) h
            · have h := k_neg c74 h
              exact B77 (y3 + 1) y4 q_place q_rowAt q_rowEnd q_s q_was q_numbers H locs ls hP hD hS (lv_sub hl [1, 0, 2] rfl) h
        refine lv_if_ne (tgt := 58) hx hb dX12_city_45 (by decide) (fun c45 => ?_) (fun c45 => ?_)
        · have h := k_neg c45 h
          exact B58 y3 y4 r42.2.1 q_rowAt q_rowEnd q_s q_was r42.2.2 H locs ls hP hD hS hl h
        · have h := k_pos c45 h
          refine lv_sipush (v := (-1000)) hx hb dX12_city_48 (by decide) ?_
          refine lv_aload_n hx hb dX12_city_51 rfl (lv_at hl 0 rfl) ?_
          refine va_get (D := D) (ci := 12) (v := .int r42.2.1) (C := RX12) (T := TX12) (N := 18) hx hb hts hiX12 hown hK hP 0 rfl rfl 5 (by decide) hf112 (fun _ z => z) rfl dX12_city_52 ?_
          refine lv_isub hx hb dX12_city_55 ?_
          refine lv_istore (lv' := [(4, .int (((-1000) : Int32) - r42.2.1)), (0, .ref (aR 0)), (3, .int y3)]) hx hb dX12_city_56 hl (by decide) rfl (fun ls hl => ?_)
          exact B58 y3 (((-1000) : Int32) - r42.2.1) r42.2.1 q_rowAt q_rowEnd q_s q_was r42.2.2 H locs ls hP hD hS (lv_sub hl [1, 2, 0] rfl) h
    refine lv_istore (lv' := [(4, .int 0), (3, .int 0), (2, .int r3), (0, .ref (aR 0)), (1, .int x1)]) hx hb dX12_city_39 hl (by decide) rfl (fun ls hl => ?_)
    exact B41 ((100 : Int32) * x1) (q_size x1.toNatClampNeg) q_s q_was lfu 0 0 0 q_numbers H locs ls hP hD hS (lv_sub hl [3, 1, 0] rfl) h
  · have h := k_neg c8 h
    refine lv_iload_n hx hb dX12_city_11 rfl (lv_at hl 0 rfl) ?_
    cases h
    exact hret _ _ _ _ hP hS dX12_city_12
abbrev rm_X12_doesTrust : Room := { frames := 1, cells := 0, slots := 0, locals := 21 }
set_option maxHeartbeats 4000000 in
set_option maxRecDepth 100000 in
theorem c_MD_doesTrust (l : Launch) (D : va_G) (cI cM cS cJ : ClassId) (aR : Nat → Nat) (sz : Nat) (x1 : Int32) (x2 : Int32) (q_hasImage : Int32) (q_place : Int32) (q_rowAt : Int32) (q_rowEnd : Int32) (q_seed : Int32) (q_thrown : Int32) (q_s : Nat → Int32) {o : (Int32)} (hsem : S_MD_doesTrust x1 x2 q_s = some o) : kMet l yX12_doesTrust wsX12_doesTrust rm_X12_doesTrust [.ref (aR 0), .int x1, .int x2] D (kT cI cM cS cJ) (Wd40 cI aR q_hasImage q_place q_rowAt q_rowEnd q_seed q_thrown q_s) sz (some (.int o)) (Wd40 cI aR q_hasImage q_place q_rowAt q_rowEnd q_seed q_thrown q_s) := by
  refine k_metZ (by decide) rfl rfl (Nat.le_of_ble_eq_true rfl) ?_
  intro p e s m below meth c ls Q A hx hb hml hts hown hK hN hA hP hD hS hl hsz hnm hret
  have hown : s.vm.findClass RX12 = some m.cls := hown
  have hf9 := hts (.fieldLink RX12 9 "PlumbLineModel" "s" "[I") (List.mem_of_getElem? (i := 1) rfl)
  have hiX12 : ∀ w ∈ u_ws RX12 TX12 18, w ∈ wsX12_doesTrust := fun w h => List.mem_cons_of_mem _ (List.mem_append_right _ h)
  replace hl : lv_has ls 5 [(0, .ref (aR 0)), (1, .int x1), (2, .int x2)] := hl
  have h := hsem
  clear hsem
  rw [S_MD_doesTrust] at h
  refine lv_aload_n hx hb dX12_doesTrust_0 rfl (lv_at hl 0 rfl) ?_
  refine va_get (D := D) (ci := 12) (v := .ref (aR 1)) (C := RX12) (T := TX12) (N := 18) hx hb hts hiX12 hown hK hP 0 rfl rfl 0 (by decide) hf9 (fun _ z => z) rfl dX12_doesTrust_1 ?_
  refine lv_iload_n hx hb dX12_doesTrust_4 rfl (lv_at hl 1 rfl) ?_
  refine lv_iconst (v := 2) hx hb dX12_doesTrust_5 (by decide) ?_
  refine k_callS (As := [.int x1, .int 2]) (rest := [.ref (aR 1)]) (st1 := [.int (S_MD_of x1 2), .ref (aR 1)]) (ws2 := (Wd40 cI aR q_hasImage q_place q_rowAt q_rowEnd q_seed q_thrown q_s)) hx hb hml hown hts hK hN hA hP hD hS hl (c_MD_of l D cI cM cS cJ s.heap.size x1 2 rfl) gX12_doesTrust_X12_of rfl kdS_X12_of [] ⟨rfl, rfl⟩ ⟨Nat.le_of_ble_eq_true rfl, Nat.le_of_ble_eq_true rfl⟩ ⟨Nat.zero_le _, Nat.zero_le _⟩ rfl rfl (by decide +kernel) rfl rfl rfl (Nat.le_of_ble_eq_true rfl) dX12_doesTrust_6 rfl (fun H locs hP hD hS => ?_)
  obtain ⟨g9, h⟩ := k_guard h
  refine va_iald hx hb hK hP 1 0 rfl rfl g9 dX12_doesTrust_9 ?_
  refine lv_istore_n (lv' := [(3, .int (q_s (S_MD_of x1 2).toNatClampNeg)), (0, .ref (aR 0)), (1, .int x1), (2, .int x2)]) hx hb dX12_doesTrust_10 rfl hl (by decide) rfl (fun ls hl => ?_)
  refine lv_aload_n hx hb dX12_doesTrust_11 rfl (lv_at hl 1 rfl) ?_
  refine va_get (D := D) (ci := 12) (v := .ref (aR 1)) (C := RX12) (T := TX12) (N := 18) hx hb hts hiX12 hown hK hP 0 rfl rfl 0 (by decide) hf9 (fun _ z => z) rfl dX12_doesTrust_12 ?_
  refine lv_iload_n hx hb dX12_doesTrust_15 rfl (lv_at hl 3 rfl) ?_
  refine lv_iconst (v := 2) hx hb dX12_doesTrust_16 (by decide) ?_
  refine k_callS (As := [.int x2, .int 2]) (rest := [.ref (aR 1)]) (st1 := [.int (S_MD_of x2 2), .ref (aR 1)]) (ws2 := (Wd40 cI aR q_hasImage q_place q_rowAt q_rowEnd q_seed q_thrown q_s)) hx hb hml hown hts hK hN hA hP hD hS hl (c_MD_of l D cI cM cS cJ H.size x2 2 rfl) gX12_doesTrust_X12_of rfl kdS_X12_of [] ⟨rfl, rfl⟩ ⟨Nat.le_of_ble_eq_true rfl, Nat.le_of_ble_eq_true rfl⟩ ⟨Nat.zero_le _, Nat.zero_le _⟩ rfl rfl (by decide +kernel) rfl rfl rfl (Nat.le_of_ble_eq_true rfl) dX12_doesTrust_17 rfl (fun H locs hP hD hS => ?_)
  obtain ⟨g20, h⟩ := k_guard h
  refine va_iald hx hb hK hP 1 0 rfl rfl g20 dX12_doesTrust_20 ?_
  refine lv_istore (lv' := [(4, .int (q_s (S_MD_of x2 2).toNatClampNeg)), (3, .int (q_s (S_MD_of x1 2).toNatClampNeg)), (0, .ref (aR 0)), (1, .int x1), (2, .int x2)]) hx hb dX12_doesTrust_21 hl (by decide) rfl (fun ls hl => ?_)
  refine lv_iload_n hx hb dX12_doesTrust_23 rfl (lv_at hl 3 rfl) ?_
  refine lv_iload_n hx hb dX12_doesTrust_24 rfl (lv_at hl 4 rfl) ?_
  refine lv_icmp_eq (tgt := 59) hx hb dX12_doesTrust_25 (by decide) (fun c25 => ?_) (fun c25 => ?_)
  · have h := k_pos c25 h
    refine lv_iconst (v := 0) hx hb dX12_doesTrust_59 (by decide) ?_
    cases h
    exact hret _ _ _ _ rfl hP hS dX12_doesTrust_60
  · have h := k_neg c25 h
    refine lv_iload_n hx hb dX12_doesTrust_28 rfl (lv_at hl 1 rfl) ?_
    refine k_callS (As := [.int (q_s (S_MD_of x1 2).toNatClampNeg)]) (rest := []) (st1 := [.int (S_MD_signOf (q_s (S_MD_of x1 2).toNatClampNeg))]) (ws2 := (Wd40 cI aR q_hasImage q_place q_rowAt q_rowEnd q_seed q_thrown q_s)) hx hb hml hown hts hK hN hA hP hD hS hl (c_MD_signOf l D cI cM cS cJ H.size (q_s (S_MD_of x1 2).toNatClampNeg) rfl) gX12_doesTrust_X12_signOf rfl kdS_X12_signOf [] ⟨rfl, rfl⟩ ⟨Nat.le_of_ble_eq_true rfl, Nat.le_of_ble_eq_true rfl⟩ ⟨Nat.zero_le _, Nat.zero_le _⟩ rfl rfl (by decide +kernel) rfl rfl rfl (Nat.le_of_ble_eq_true rfl) dX12_doesTrust_29 rfl (fun H locs hP hD hS => ?_)
    refine lv_iload hx hb dX12_doesTrust_32 (lv_at hl 0 rfl) ?_
    refine k_callS (As := [.int (q_s (S_MD_of x2 2).toNatClampNeg)]) (rest := [.int (S_MD_signOf (q_s (S_MD_of x1 2).toNatClampNeg))]) (st1 := [.int (S_MD_signOf (q_s (S_MD_of x2 2).toNatClampNeg)), .int (S_MD_signOf (q_s (S_MD_of x1 2).toNatClampNeg))]) (ws2 := (Wd40 cI aR q_hasImage q_place q_rowAt q_rowEnd q_seed q_thrown q_s)) hx hb hml hown hts hK hN hA hP hD hS hl (c_MD_signOf l D cI cM cS cJ H.size (q_s (S_MD_of x2 2).toNatClampNeg) rfl) gX12_doesTrust_X12_signOf rfl kdS_X12_signOf [] ⟨rfl, rfl⟩ ⟨Nat.le_of_ble_eq_true rfl, Nat.le_of_ble_eq_true rfl⟩ ⟨Nat.zero_le _, Nat.zero_le _⟩ rfl rfl (by decide +kernel) rfl rfl rfl (Nat.le_of_ble_eq_true rfl) dX12_doesTrust_34 rfl (fun H locs hP hD hS => ?_)
    refine lv_icmp_ne (tgt := 59) hx hb dX12_doesTrust_37 (by decide) (fun c37 => ?_) (fun c37 => ?_)
    · have h := k_neg c37 h
      refine lv_iconst (v := 0) hx hb dX12_doesTrust_59 (by decide) ?_
      cases h
      exact hret _ _ _ _ rfl hP hS dX12_doesTrust_60
    · have h := k_pos c37 h
      refine lv_iload hx hb dX12_doesTrust_40 (lv_at hl 0 rfl) ?_
      refine k_callS (As := [.int (q_s (S_MD_of x2 2).toNatClampNeg)]) (rest := []) (st1 := [.int (S_MD_sized (q_s (S_MD_of x2 2).toNatClampNeg))]) (ws2 := (Wd40 cI aR q_hasImage q_place q_rowAt q_rowEnd q_seed q_thrown q_s)) hx hb hml hown hts hK hN hA hP hD hS hl (c_MD_sized l D cI cM cS cJ H.size (q_s (S_MD_of x2 2).toNatClampNeg) rfl) gX12_doesTrust_X12_sized rfl kdS_X12_sized [] ⟨rfl, rfl⟩ ⟨Nat.le_of_ble_eq_true rfl, Nat.le_of_ble_eq_true rfl⟩ ⟨Nat.zero_le _, Nat.zero_le _⟩ rfl rfl (by decide +kernel) rfl rfl rfl (Nat.le_of_ble_eq_true rfl) dX12_doesTrust_42 rfl (fun H locs hP hD hS => ?_)
      refine lv_iload_n hx hb dX12_doesTrust_45 rfl (lv_at hl 1 rfl) ?_
      refine k_callS (As := [.int (q_s (S_MD_of x1 2).toNatClampNeg)]) (rest := [.int (S_MD_sized (q_s (S_MD_of x2 2).toNatClampNeg))]) (st1 := [.int (S_MD_sized (q_s (S_MD_of x1 2).toNatClampNeg)), .int (S_MD_sized (q_s (S_MD_of x2 2).toNatClampNeg))]) (ws2 := (Wd40 cI aR q_hasImage q_place q_rowAt q_rowEnd q_seed q_thrown q_s)) hx hb hml hown hts hK hN hA hP hD hS hl (c_MD_sized l D cI cM cS cJ H.size (q_s (S_MD_of x1 2).toNatClampNeg) rfl) gX12_doesTrust_X12_sized rfl kdS_X12_sized [] ⟨rfl, rfl⟩ ⟨Nat.le_of_ble_eq_true rfl, Nat.le_of_ble_eq_true rfl⟩ ⟨Nat.zero_le _, Nat.zero_le _⟩ rfl rfl (by decide +kernel) rfl rfl rfl (Nat.le_of_ble_eq_true rfl) dX12_doesTrust_46 rfl (fun H locs hP hD hS => ?_)
      refine lv_bipush (v := 10) hx hb dX12_doesTrust_49 (by decide) ?_
      refine lv_iadd hx hb dX12_doesTrust_51 ?_
      refine lv_icmp_gt (tgt := 59) hx hb dX12_doesTrust_52 (by decide) (fun c52 => ?_) (fun c52 => ?_)
      · have h := k_pos c52 h
        refine lv_iconst (v := 0) hx hb dX12_doesTrust_59 (by decide) ?_
        cases h
        exact hret _ _ _ _ rfl hP hS dX12_doesTrust_60
      · have h := k_neg c52 h
        refine lv_iconst (v := 1) hx hb dX12_doesTrust_55 (by decide) ?_
        refine lv_goto (tgt := 60) hx hb dX12_doesTrust_56 (by decide) ?_
        cases h
        exact hret _ _ _ _ rfl hP hS dX12_doesTrust_60
theorem kdV_X12_doesTrust : yX12_doesTrust.cls = RX12 ∧ yX12_doesTrust.cls ≠ "java/lang/invoke/MethodHandle" ∧ yX12_doesTrust.cls ≠ "java/lang/invoke/VarHandle" ∧ (parseMethodDescriptor yX12_doesTrust.desc).map (fun d => d.parameters.length) = some 2 := by decide +kernel
abbrev rm_X12_trustedBy : Room := { frames := 2, cells := 0, slots := 0, locals := 45 }
set_option maxHeartbeats 4000000 in
set_option maxRecDepth 100000 in
theorem c_MD_trustedBy (l : Launch) (D : va_G) (cI cM cS cJ : ClassId) (aR : Nat → Nat) (sz : Nat) (x1 : Int32) (q_hasImage : Int32) (q_place : Int32) (q_rowAt : Int32) (q_rowEnd : Int32) (q_seed : Int32) (q_thrown : Int32) (q_s : Nat → Int32) {o : (Int32)} (hsem : S_MD_trustedBy x1 q_s = some o) : kMet l yX12_trustedBy wsX12_trustedBy rm_X12_trustedBy [.ref (aR 0), .int x1] D (kT cI cM cS cJ) (Wd40 cI aR q_hasImage q_place q_rowAt q_rowEnd q_seed q_thrown q_s) sz (some (.int o)) (Wd40 cI aR q_hasImage q_place q_rowAt q_rowEnd q_seed q_thrown q_s) := by
  refine k_metI (by decide) rfl rfl (Nat.le_of_ble_eq_true rfl) ?_
  intro p e s m below meth c ls Q A hx hb hml hts hown hK hN hA hP hD hS hl hsz hnm hret
  have hown : s.vm.findClass RX12 = some m.cls := hown
  have hf9 := hts (.fieldLink RX12 9 "PlumbLineModel" "s" "[I") (List.mem_of_getElem? (i := 1) rfl)
  have hiX12 : ∀ w ∈ u_ws RX12 TX12 18, w ∈ wsX12_trustedBy := fun w h => List.mem_cons_of_mem _ (List.mem_append_right _ h)
  replace hl : lv_has ls 4 [(0, .ref (aR 0)), (1, .int x1)] := hl
  have h := hsem
  clear hsem
  rw [S_MD_trustedBy] at h
  refine lv_iconst (v := 0) hx hb dX12_trustedBy_0 (by decide) ?_
  refine lv_istore_n (lv' := [(2, .int 0), (0, .ref (aR 0)), (1, .int x1)]) hx hb dX12_trustedBy_1 rfl hl (by decide) rfl (fun ls hl => ?_)
  refine lv_iconst (v := 0) hx hb dX12_trustedBy_2 (by decide) ?_
  have B4 : ∀ (n4 : Nat) (y2 : Int32) (y3 : Int32) (H : Heap) (locs : List Loc) (ls : Array Slot), va_P D vwCl (Wd40 cI aR q_hasImage q_place q_rowAt q_rowEnd q_seed q_thrown q_s) H → va_D A (Wd40 cI aR q_hasImage q_place q_rowAt q_rowEnd q_seed q_thrown q_s) → va_S A s.heap H locs → lv_has ls 4 [(0, .ref (aR 0)), (1, .int x1), (2, .int y2), (3, .int y3)] → S_MD_trustedBy_L4 x1 q_s n4 y2 y3 = some o → W p l e rm_X12_trustedBy s m ([.ref (aR 0), .int x1] : List Value).toArray below meth c H locs 0 0 Q (F0 m 4 ls []) := by
    intro n4
    induction n4 with
    | zero => intro y2 y3 H locs ls hP hD hS hl h; exact absurd h (by simp [S_MD_trustedBy_L4])
    | succ n4 ih4 =>
      intro y2 y3 H locs ls hP hD hS hl h
      rw [S_MD_trustedBy_L4] at h
      refine lv_iload_n hx hb dX12_trustedBy_4 rfl (lv_at hl 3 rfl) ?_
      refine lv_aload_n hx hb dX12_trustedBy_5 rfl (lv_at hl 0 rfl) ?_
      refine va_get (D := D) (ci := 12) (v := .ref (aR 1)) (C := RX12) (T := TX12) (N := 18) hx hb hts hiX12 hown hK hP 0 rfl rfl 0 (by decide) hf9 (fun _ z => z) rfl dX12_trustedBy_6 ?_
      refine lv_iconst (v := 0) hx hb dX12_trustedBy_9 (by decide) ?_
      refine va_iald hx hb hK hP 1 0 rfl rfl (by decide) dX12_trustedBy_10 ?_
      refine lv_icmp_ge (tgt := 39) hx hb dX12_trustedBy_11 (by decide) (fun c11 => ?_) (fun c11 => ?_)
      · have h := k_pos c11 h
        refine lv_iload_n hx hb dX12_trustedBy_39 rfl (lv_at hl 2 rfl) ?_
        cases h
        exact hret _ _ _ _ hP hS dX12_trustedBy_40
      · have h := k_neg c11 h
        refine lv_iload_n hx hb dX12_trustedBy_14 rfl (lv_at hl 2 rfl) ?_
        refine lv_aload_n hx hb dX12_trustedBy_15 rfl (lv_at hl 0 rfl) ?_
        refine lv_iload_n hx hb dX12_trustedBy_16 rfl (lv_at hl 3 rfl) ?_
        refine lv_iload_n hx hb dX12_trustedBy_17 rfl (lv_at hl 1 rfl) ?_
        obtain ⟨r18, g18, h⟩ := k_bind h
        refine k_callV (As := [.int y3, .int x1]) (rest := [.int y2]) (st1 := [.int r18, .int y2]) (ws2 := (Wd40 cI aR q_hasImage q_place q_rowAt q_rowEnd q_seed q_thrown q_s)) hx hb hml hown hts hK hN hA hP hD hS hl (c_MD_doesTrust l D cI cM cS cJ aR H.size y3 x1 q_hasImage q_place q_rowAt q_rowEnd q_seed q_thrown q_s g18) gX12_trustedBy_X12_doesTrust rfl kdV_X12_doesTrust 0 12 rfl rfl rfl [0, 1] ⟨rfl, rfl⟩ ⟨Nat.le_of_ble_eq_true rfl, Nat.le_of_ble_eq_true rfl⟩ ⟨Nat.zero_le _, Nat.zero_le _⟩ rfl rfl (by decide +kernel) rfl rfl rfl (Nat.le_of_ble_eq_true rfl) dX12_trustedBy_18 rfl (fun H locs hP hD hS => ?_)
        refine lv_if_eq (tgt := 30) hx hb dX12_trustedBy_21 (by decide) (fun c21 => ?_) (fun c21 => ?_)
        · have h := k_pos c21 h
          refine lv_iconst (v := 0) hx hb dX12_trustedBy_30 (by decide) ?_
          refine lv_ior hx hb dX12_trustedBy_31 ?_
          refine lv_istore_n (lv' := [(2, .int (y2 ||| 0)), (0, .ref (aR 0)), (1, .int x1), (3, .int y3)]) hx hb dX12_trustedBy_32 rfl hl (by decide) rfl (fun ls hl => ?_)
          refine lv_iinc (v := (y3 + 1)) (lv' := [(3, .int (y3 + 1)), (2, .int (y2 ||| 0)), (0, .ref (aR 0)), (1, .int x1)]) hx hb dX12_trustedBy_33 hl (k := 3) rfl (by first | rfl | decide) (by decide) rfl (fun ls hl => ?_)
          refine lv_goto (tgt := 4) hx hb dX12_trustedBy_36 (by decide) ?_
          exact ih4 (y2 ||| 0) (y3 + 1) H locs ls hP hD hS (lv_sub hl [2, 3, 1, 0] rfl) h
        · have h := k_neg c21 h
          refine lv_iconst (v := 1) hx hb dX12_trustedBy_24 (by decide) ?_
          refine lv_iload_n hx hb dX12_trustedBy_25 rfl (lv_at hl 3 rfl) ?_
          refine lv_ishl hx hb dX12_trustedBy_26 ?_
          refine lv_goto (tgt := 31) hx hb dX12_trustedBy_27 (by decide) ?_
          refine lv_ior hx hb dX12_trustedBy_31 ?_
          refine lv_istore_n (lv' := [(2, .int (y2 ||| ((1 : Int32) <<< (y3 &&& 31)))), (0, .ref (aR 0)), (1, .int x1), (3, .int y3)]) hx hb dX12_trustedBy_32 rfl hl (by decide) rfl (fun ls hl => ?_)
          refine lv_iinc (v := (y3 + 1)) (lv' := [(3, .int (y3 + 1)), (2, .int (y2 ||| ((1 : Int32) <<< (y3 &&& 31)))), (0, .ref (aR 0)), (1, .int x1)]) hx hb dX12_trustedBy_33 hl (k := 3) rfl (by first | rfl | decide) (by decide) rfl (fun ls hl => ?_)
          refine lv_goto (tgt := 4) hx hb dX12_trustedBy_36 (by decide) ?_
          exact ih4 (y2 ||| ((1 : Int32) <<< (y3 &&& 31))) (y3 + 1) H locs ls hP hD hS (lv_sub hl [2, 3, 1, 0] rfl) h
  refine lv_istore_n (lv' := [(3, .int 0), (2, .int 0), (0, .ref (aR 0)), (1, .int x1)]) hx hb dX12_trustedBy_3 rfl hl (by decide) rfl (fun ls hl => ?_)
  exact B4 lfu 0 0 s.heap [] ls hP hD hS (lv_sub hl [2, 3, 1, 0] rfl) h
abbrev rm_X12_lean : Room := { frames := 2, cells := 0, slots := 0, locals := 43 }
set_option maxHeartbeats 4000000 in
set_option maxRecDepth 100000 in
theorem c_MD_lean (l : Launch) (D : va_G) (cI cM cS cJ : ClassId) (aR : Nat → Nat) (sz : Nat) (x1 : Int32) (q_hasImage : Int32) (q_place : Int32) (q_rowAt : Int32) (q_rowEnd : Int32) (q_seed : Int32) (q_thrown : Int32) (q_s : Nat → Int32) {o : (Int32)} (hsem : S_MD_lean x1 q_s = some o) : kMet l yX12_lean wsX12_lean rm_X12_lean [.ref (aR 0), .int x1] D (kT cI cM cS cJ) (Wd40 cI aR q_hasImage q_place q_rowAt q_rowEnd q_seed q_thrown q_s) sz (some (.int o)) (Wd40 cI aR q_hasImage q_place q_rowAt q_rowEnd q_seed q_thrown q_s) := by
  refine k_metI (by decide) rfl rfl (Nat.le_of_ble_eq_true rfl) ?_
  intro p e s m below meth c ls Q A hx hb hml hts hown hK hN hA hP hD hS hl hsz hnm hret
  have hown : s.vm.findClass RX12 = some m.cls := hown
  have hf9 := hts (.fieldLink RX12 9 "PlumbLineModel" "s" "[I") (List.mem_of_getElem? (i := 1) rfl)
  have hiX12 : ∀ w ∈ u_ws RX12 TX12 18, w ∈ wsX12_lean := fun w h => List.mem_cons_of_mem _ (List.mem_append_right _ h)
  replace hl : lv_has ls 2 [(0, .ref (aR 0)), (1, .int x1)] := hl
  have h := hsem
  clear hsem
  rw [S_MD_lean] at h
  refine lv_aload_n hx hb dX12_lean_0 rfl (lv_at hl 0 rfl) ?_
  refine lv_iload_n hx hb dX12_lean_1 rfl (lv_at hl 1 rfl) ?_
  obtain ⟨r2, g2, h⟩ := k_bind h
  refine k_callV (As := [.int x1]) (rest := []) (st1 := [.int r2]) (ws2 := (Wd40 cI aR q_hasImage q_place q_rowAt q_rowEnd q_seed q_thrown q_s)) hx hb hml hown hts hK hN hA hP hD hS hl (c_MD_isMan l D cI cM cS cJ aR s.heap.size x1 q_hasImage q_place q_rowAt q_rowEnd q_seed q_thrown q_s g2) gX12_lean_X12_isMan rfl kdV_X12_isMan 0 12 rfl rfl rfl [0, 1] ⟨rfl, rfl⟩ ⟨Nat.le_of_ble_eq_true rfl, Nat.le_of_ble_eq_true rfl⟩ ⟨Nat.zero_le _, Nat.zero_le _⟩ rfl rfl (by decide +kernel) rfl rfl rfl (Nat.le_of_ble_eq_true rfl) dX12_lean_2 rfl (fun H locs hP hD hS => ?_)
  refine lv_if_eq (tgt := 21) hx hb dX12_lean_5 (by decide) (fun c5 => ?_) (fun c5 => ?_)
  · have h := k_pos c5 h
    refine lv_ldc (v := 1000000001) hx hb hown (hts (.constant RX12 155 1000000001) (List.mem_of_getElem? (i := 2) rfl)) dX12_lean_21 ?_
    cases h
    exact hret _ _ _ _ hP hS dX12_lean_23
  · have h := k_neg c5 h
    refine lv_aload_n hx hb dX12_lean_8 rfl (lv_at hl 0 rfl) ?_
    refine va_get (D := D) (ci := 12) (v := .ref (aR 1)) (C := RX12) (T := TX12) (N := 18) hx hb hts hiX12 hown hK hP 0 rfl rfl 0 (by decide) hf9 (fun _ z => z) rfl dX12_lean_9 ?_
    refine lv_iload_n hx hb dX12_lean_12 rfl (lv_at hl 1 rfl) ?_
    refine lv_iconst (v := 2) hx hb dX12_lean_13 (by decide) ?_
    refine k_callS (As := [.int x1, .int 2]) (rest := [.ref (aR 1)]) (st1 := [.int (S_MD_of x1 2), .ref (aR 1)]) (ws2 := (Wd40 cI aR q_hasImage q_place q_rowAt q_rowEnd q_seed q_thrown q_s)) hx hb hml hown hts hK hN hA hP hD hS hl (c_MD_of l D cI cM cS cJ H.size x1 2 rfl) gX12_lean_X12_of rfl kdS_X12_of [] ⟨rfl, rfl⟩ ⟨Nat.le_of_ble_eq_true rfl, Nat.le_of_ble_eq_true rfl⟩ ⟨Nat.zero_le _, Nat.zero_le _⟩ rfl rfl (by decide +kernel) rfl rfl rfl (Nat.le_of_ble_eq_true rfl) dX12_lean_14 rfl (fun H locs hP hD hS => ?_)
    obtain ⟨g17, h⟩ := k_guard h
    refine va_iald hx hb hK hP 1 0 rfl rfl g17 dX12_lean_17 ?_
    refine lv_goto (tgt := 23) hx hb dX12_lean_18 (by decide) ?_
    cases h
    exact hret _ _ _ _ hP hS dX12_lean_23
theorem kdS_X12_discountBy : yX12_discountBy.cls ≠ "java/lang/invoke/MethodHandle" ∧ yX12_discountBy.cls ≠ "java/lang/invoke/VarHandle" ∧ (parseMethodDescriptor yX12_discountBy.desc).map (fun d => d.parameters.length) = some 3 := by decide +kernel
abbrev rm_X12_discount : Room := { frames := 2, cells := 0, slots := 0, locals := 43 }
set_option maxHeartbeats 4000000 in
set_option maxRecDepth 100000 in
theorem c_MD_discount (l : Launch) (D : va_G) (cI cM cS cJ : ClassId) (aR : Nat → Nat) (sz : Nat) (x1 : Int32) (q_hasImage : Int32) (q_place : Int32) (q_rowAt : Int32) (q_rowEnd : Int32) (q_seed : Int32) (q_thrown : Int32) (q_s : Nat → Int32) {o : (Int32)} (hsem : S_MD_discount x1 q_s = some o) : kMet l yX12_discount wsX12_discount rm_X12_discount [.ref (aR 0), .int x1] D (kT cI cM cS cJ) (Wd40 cI aR q_hasImage q_place q_rowAt q_rowEnd q_seed q_thrown q_s) sz (some (.int o)) (Wd40 cI aR q_hasImage q_place q_rowAt q_rowEnd q_seed q_thrown q_s) := by
  refine k_metI (by decide) rfl rfl (Nat.le_of_ble_eq_true rfl) ?_
  intro p e s m below meth c ls Q A hx hb hml hts hown hK hN hA hP hD hS hl hsz hnm hret
  have hown : s.vm.findClass RX12 = some m.cls := hown
  have hf9 := hts (.fieldLink RX12 9 "PlumbLineModel" "s" "[I") (List.mem_of_getElem? (i := 1) rfl)
  have hiX12 : ∀ w ∈ u_ws RX12 TX12 18, w ∈ wsX12_discount := fun w h => List.mem_cons_of_mem _ (List.mem_append_right _ h)
  replace hl : lv_has ls 2 [(0, .ref (aR 0)), (1, .int x1)] := hl
  have h := hsem
  clear hsem
  rw [S_MD_discount] at h
  refine lv_aload_n hx hb dX12_discount_0 rfl (lv_at hl 0 rfl) ?_
  refine va_get (D := D) (ci := 12) (v := .ref (aR 1)) (C := RX12) (T := TX12) (N := 18) hx hb hts hiX12 hown hK hP 0 rfl rfl 0 (by decide) hf9 (fun _ z => z) rfl dX12_discount_1 ?_
  refine lv_iload_n hx hb dX12_discount_4 rfl (lv_at hl 1 rfl) ?_
  refine lv_iconst (v := 0) hx hb dX12_discount_5 (by decide) ?_
  refine k_callS (As := [.int x1, .int 0]) (rest := [.ref (aR 1)]) (st1 := [.int (S_MD_of x1 0), .ref (aR 1)]) (ws2 := (Wd40 cI aR q_hasImage q_place q_rowAt q_rowEnd q_seed q_thrown q_s)) hx hb hml hown hts hK hN hA hP hD hS hl (c_MD_of l D cI cM cS cJ s.heap.size x1 0 rfl) gX12_discount_X12_of rfl kdS_X12_of [] ⟨rfl, rfl⟩ ⟨Nat.le_of_ble_eq_true rfl, Nat.le_of_ble_eq_true rfl⟩ ⟨Nat.zero_le _, Nat.zero_le _⟩ rfl rfl (by decide +kernel) rfl rfl rfl (Nat.le_of_ble_eq_true rfl) dX12_discount_6 rfl (fun H locs hP hD hS => ?_)
  obtain ⟨g9, h⟩ := k_guard h
  refine va_iald hx hb hK hP 1 0 rfl rfl g9 dX12_discount_9 ?_
  refine lv_aload_n hx hb dX12_discount_10 rfl (lv_at hl 0 rfl) ?_
  refine va_get (D := D) (ci := 12) (v := .ref (aR 1)) (C := RX12) (T := TX12) (N := 18) hx hb hts hiX12 hown hK hP 0 rfl rfl 0 (by decide) hf9 (fun _ z => z) rfl dX12_discount_11 ?_
  refine lv_iload_n hx hb dX12_discount_14 rfl (lv_at hl 1 rfl) ?_
  refine lv_iconst (v := 1) hx hb dX12_discount_15 (by decide) ?_
  refine k_callS (As := [.int x1, .int 1]) (rest := [.ref (aR 1), .int (q_s (S_MD_of x1 0).toNatClampNeg)]) (st1 := [.int (S_MD_of x1 1), .ref (aR 1), .int (q_s (S_MD_of x1 0).toNatClampNeg)]) (ws2 := (Wd40 cI aR q_hasImage q_place q_rowAt q_rowEnd q_seed q_thrown q_s)) hx hb hml hown hts hK hN hA hP hD hS hl (c_MD_of l D cI cM cS cJ H.size x1 1 rfl) gX12_discount_X12_of rfl kdS_X12_of [] ⟨rfl, rfl⟩ ⟨Nat.le_of_ble_eq_true rfl, Nat.le_of_ble_eq_true rfl⟩ ⟨Nat.zero_le _, Nat.zero_le _⟩ rfl rfl (by decide +kernel) rfl rfl rfl (Nat.le_of_ble_eq_true rfl) dX12_discount_16 rfl (fun H locs hP hD hS => ?_)
  obtain ⟨g19, h⟩ := k_guard h
  refine va_iald hx hb hK hP 1 0 rfl rfl g19 dX12_discount_19 ?_
  refine lv_aload_n hx hb dX12_discount_20 rfl (lv_at hl 0 rfl) ?_
  refine va_get (D := D) (ci := 12) (v := .ref (aR 1)) (C := RX12) (T := TX12) (N := 18) hx hb hts hiX12 hown hK hP 0 rfl rfl 0 (by decide) hf9 (fun _ z => z) rfl dX12_discount_21 ?_
  refine lv_iload_n hx hb dX12_discount_24 rfl (lv_at hl 1 rfl) ?_
  refine lv_iconst (v := 2) hx hb dX12_discount_25 (by decide) ?_
  refine k_callS (As := [.int x1, .int 2]) (rest := [.ref (aR 1), .int (q_s (S_MD_of x1 1).toNatClampNeg), .int (q_s (S_MD_of x1 0).toNatClampNeg)]) (st1 := [.int (S_MD_of x1 2), .ref (aR 1), .int (q_s (S_MD_of x1 1).toNatClampNeg), .int (q_s (S_MD_of x1 0).toNatClampNeg)]) (ws2 := (Wd40 cI aR q_hasImage q_place q_rowAt q_rowEnd q_seed q_thrown q_s)) hx hb hml hown hts hK hN hA hP hD hS hl (c_MD_of l D cI cM cS cJ H.size x1 2 rfl) gX12_discount_X12_of rfl kdS_X12_of [] ⟨rfl, rfl⟩ ⟨Nat.le_of_ble_eq_true rfl, Nat.le_of_ble_eq_true rfl⟩ ⟨Nat.zero_le _, Nat.zero_le _⟩ rfl rfl (by decide +kernel) rfl rfl rfl (Nat.le_of_ble_eq_true rfl) dX12_discount_26 rfl (fun H locs hP hD hS => ?_)
  obtain ⟨g29, h⟩ := k_guard h
  refine va_iald hx hb hK hP 1 0 rfl rfl g29 dX12_discount_29 ?_
  refine k_callS (As := [.int (q_s (S_MD_of x1 0).toNatClampNeg), .int (q_s (S_MD_of x1 1).toNatClampNeg), .int (q_s (S_MD_of x1 2).toNatClampNeg)]) (rest := []) (st1 := [.int (S_MD_discountBy (q_s (S_MD_of x1 0).toNatClampNeg) (q_s (S_MD_of x1 1).toNatClampNeg) (q_s (S_MD_of x1 2).toNatClampNeg))]) (ws2 := (Wd40 cI aR q_hasImage q_place q_rowAt q_rowEnd q_seed q_thrown q_s)) hx hb hml hown hts hK hN hA hP hD hS hl (c_MD_discountBy l D cI cM cS cJ H.size (q_s (S_MD_of x1 0).toNatClampNeg) (q_s (S_MD_of x1 1).toNatClampNeg) (q_s (S_MD_of x1 2).toNatClampNeg) rfl) gX12_discount_X12_discountBy rfl kdS_X12_discountBy [] ⟨rfl, rfl⟩ ⟨Nat.le_of_ble_eq_true rfl, Nat.le_of_ble_eq_true rfl⟩ ⟨Nat.zero_le _, Nat.zero_le _⟩ rfl rfl (by decide +kernel) rfl rfl rfl (Nat.le_of_ble_eq_true rfl) dX12_discount_30 rfl (fun H locs hP hD hS => ?_)
  cases h
  exact hret _ _ _ _ hP hS dX12_discount_33
theorem kdV_X12_discount : yX12_discount.cls = RX12 ∧ yX12_discount.cls ≠ "java/lang/invoke/MethodHandle" ∧ yX12_discount.cls ≠ "java/lang/invoke/VarHandle" ∧ (parseMethodDescriptor yX12_discount.desc).map (fun d => d.parameters.length) = some 1 := by decide +kernel
theorem kdV_X12_trustedBy : yX12_trustedBy.cls = RX12 ∧ yX12_trustedBy.cls ≠ "java/lang/invoke/MethodHandle" ∧ yX12_trustedBy.cls ≠ "java/lang/invoke/VarHandle" ∧ (parseMethodDescriptor yX12_trustedBy.desc).map (fun d => d.parameters.length) = some 1 := by decide +kernel
abbrev rm_X12_man : Room := { frames := 3, cells := 0, slots := 0, locals := 68 }
set_option maxHeartbeats 4000000 in
set_option maxRecDepth 100000 in
theorem c_MD_man (l : Launch) (D : va_G) (cI cM cS cJ : ClassId) (aR : Nat → Nat) (sz : Nat) (x1 : Int32) (x2 : Int32) (q_hasImage : Int32) (q_place : Int32) (q_rowAt : Int32) (q_rowEnd : Int32) (q_seed : Int32) (q_thrown : Int32) (q_s : Nat → Int32) {o : (Int32)} (hsem : S_MD_man x1 x2 q_s = some o) : kMet l yX12_man wsX12_man rm_X12_man [.ref (aR 0), .int x1, .int x2] D (kT cI cM cS cJ) (Wd40 cI aR q_hasImage q_place q_rowAt q_rowEnd q_seed q_thrown q_s) sz (some (.int o)) (Wd40 cI aR q_hasImage q_place q_rowAt q_rowEnd q_seed q_thrown q_s) := by
  refine k_metI (by decide) rfl rfl (Nat.le_of_ble_eq_true rfl) ?_
  intro p e s m below meth c ls Q A hx hb hml hts hown hK hN hA hP hD hS hl hsz hnm hret
  have hown : s.vm.findClass RX12 = some m.cls := hown
  have hf9 := hts (.fieldLink RX12 9 "PlumbLineModel" "s" "[I") (List.mem_of_getElem? (i := 1) rfl)
  have hiX12 : ∀ w ∈ u_ws RX12 TX12 18, w ∈ wsX12_man := fun w h => List.mem_cons_of_mem _ (List.mem_append_right _ h)
  replace hl : lv_has ls 3 [(0, .ref (aR 0)), (1, .int x1), (2, .int x2)] := hl
  have h := hsem
  clear hsem
  rw [S_MD_man] at h
  refine lv_aload_n hx hb dX12_man_0 rfl (lv_at hl 0 rfl) ?_
  refine lv_iload_n hx hb dX12_man_1 rfl (lv_at hl 1 rfl) ?_
  obtain ⟨r2, g2, h⟩ := k_bind h
  refine k_callV (As := [.int x1]) (rest := []) (st1 := [.int r2]) (ws2 := (Wd40 cI aR q_hasImage q_place q_rowAt q_rowEnd q_seed q_thrown q_s)) hx hb hml hown hts hK hN hA hP hD hS hl (c_MD_isMan l D cI cM cS cJ aR s.heap.size x1 q_hasImage q_place q_rowAt q_rowEnd q_seed q_thrown q_s g2) gX12_man_X12_isMan rfl kdV_X12_isMan 0 12 rfl rfl rfl [0, 1] ⟨rfl, rfl⟩ ⟨Nat.le_of_ble_eq_true rfl, Nat.le_of_ble_eq_true rfl⟩ ⟨Nat.zero_le _, Nat.zero_le _⟩ rfl rfl (by decide +kernel) rfl rfl rfl (Nat.le_of_ble_eq_true rfl) dX12_man_2 rfl (fun H locs hP hD hS => ?_)
  refine lv_if_eq (tgt := 17) hx hb dX12_man_5 (by decide) (fun c5 => ?_) (fun c5 => ?_)
  · have h := k_pos c5 h
    refine lv_iconst (v := (-1)) hx hb dX12_man_17 (by decide) ?_
    cases h
    exact hret _ _ _ _ hP hS dX12_man_18
  · have h := k_neg c5 h
    refine lv_iload_n hx hb dX12_man_8 rfl (lv_at hl 2 rfl) ?_
    refine lv_iconst (v := 0) hx hb dX12_man_9 (by decide) ?_
    refine lv_iconst (v := 5) hx hb dX12_man_10 (by decide) ?_
    refine k_callS (As := [.int x2, .int 0, .int 5]) (rest := []) (st1 := [.int (S_MD_isIn x2 0 5)]) (ws2 := (Wd40 cI aR q_hasImage q_place q_rowAt q_rowEnd q_seed q_thrown q_s)) hx hb hml hown hts hK hN hA hP hD hS hl (c_MD_isIn l D cI cM cS cJ H.size x2 0 5 rfl) gX12_man_X12_isIn rfl kdS_X12_isIn [] ⟨rfl, rfl⟩ ⟨Nat.le_of_ble_eq_true rfl, Nat.le_of_ble_eq_true rfl⟩ ⟨Nat.zero_le _, Nat.zero_le _⟩ rfl rfl (by decide +kernel) rfl rfl rfl (Nat.le_of_ble_eq_true rfl) dX12_man_11 rfl (fun H locs hP hD hS => ?_)
    refine lv_if_ne (tgt := 19) hx hb dX12_man_14 (by decide) (fun c14 => ?_) (fun c14 => ?_)
    · have h := k_neg c14 h
      refine lv_iload_n hx hb dX12_man_19 rfl (lv_at hl 2 rfl) ?_
      by_cases s20_2 : x2 = 2
      · refine k_tblI (tgt := 52) (v := 2) hx hb dX12_man_20 s20_2 (by decide) (by decide) rfl (by decide) ?_
        have h := k_pos s20_2 h
        refine lv_aload_n hx hb dX12_man_52 rfl (lv_at hl 0 rfl) ?_
        refine va_get (D := D) (ci := 12) (v := .ref (aR 1)) (C := RX12) (T := TX12) (N := 18) hx hb hts hiX12 hown hK hP 0 rfl rfl 0 (by decide) hf9 (fun _ z => z) rfl dX12_man_53 ?_
        refine lv_iload_n hx hb dX12_man_56 rfl (lv_at hl 1 rfl) ?_
        refine lv_iconst (v := 3) hx hb dX12_man_57 (by decide) ?_
        refine k_callS (As := [.int x1, .int 3]) (rest := [.ref (aR 1)]) (st1 := [.int (S_MD_of x1 3), .ref (aR 1)]) (ws2 := (Wd40 cI aR q_hasImage q_place q_rowAt q_rowEnd q_seed q_thrown q_s)) hx hb hml hown hts hK hN hA hP hD hS hl (c_MD_of l D cI cM cS cJ H.size x1 3 rfl) gX12_man_X12_of rfl kdS_X12_of [] ⟨rfl, rfl⟩ ⟨Nat.le_of_ble_eq_true rfl, Nat.le_of_ble_eq_true rfl⟩ ⟨Nat.zero_le _, Nat.zero_le _⟩ rfl rfl (by decide +kernel) rfl rfl rfl (Nat.le_of_ble_eq_true rfl) dX12_man_58 rfl (fun H locs hP hD hS => ?_)
        obtain ⟨g61, h⟩ := k_guard h
        refine va_iald hx hb hK hP 1 0 rfl rfl g61 dX12_man_61 ?_
        cases h
        exact hret _ _ _ _ hP hS dX12_man_62
      · have h := k_neg s20_2 h
        by_cases s20_3 : x2 = 3
        · refine k_tblI (tgt := 63) (v := 3) hx hb dX12_man_20 s20_3 (by decide) (by decide) rfl (by decide) ?_
          have h := k_pos s20_3 h
          refine lv_aload_n hx hb dX12_man_63 rfl (lv_at hl 0 rfl) ?_
          refine va_get (D := D) (ci := 12) (v := .ref (aR 1)) (C := RX12) (T := TX12) (N := 18) hx hb hts hiX12 hown hK hP 0 rfl rfl 0 (by decide) hf9 (fun _ z => z) rfl dX12_man_64 ?_
          obtain ⟨r67, g67, h⟩ := k_bind h
          refine k_callS (As := [.ref (aR 1)]) (rest := []) (st1 := [.int r67]) (ws2 := (Wd40 cI aR q_hasImage q_place q_rowAt q_rowEnd q_seed q_thrown q_s)) hx hb hml hown hts hK hN hA hP hD hS hl (c_MD_upright l D cI cM cS cJ (aR 1) H.size q_s g67) gX12_man_X12_upright rfl kdS_X12_upright [1] ⟨rfl, rfl⟩ ⟨Nat.le_of_ble_eq_true rfl, Nat.le_of_ble_eq_true rfl⟩ ⟨Nat.zero_le _, Nat.zero_le _⟩ rfl rfl (by decide +kernel) rfl rfl rfl (Nat.le_of_ble_eq_true rfl) dX12_man_67 rfl (fun H locs hP hD hS => ?_)
          refine lv_iload_n hx hb dX12_man_70 rfl (lv_at hl 1 rfl) ?_
          refine lv_ishr hx hb dX12_man_71 ?_
          refine lv_iconst (v := 1) hx hb dX12_man_72 (by decide) ?_
          refine lv_iand hx hb dX12_man_73 ?_
          cases h
          exact hret _ _ _ _ hP hS dX12_man_74
        · have h := k_neg s20_3 h
          by_cases s20_4 : x2 = 4
          · refine k_tblI (tgt := 75) (v := 4) hx hb dX12_man_20 s20_4 (by decide) (by decide) rfl (by decide) ?_
            have h := k_pos s20_4 h
            refine lv_aload_n hx hb dX12_man_75 rfl (lv_at hl 0 rfl) ?_
            refine lv_iload_n hx hb dX12_man_76 rfl (lv_at hl 1 rfl) ?_
            obtain ⟨r77, g77, h⟩ := k_bind h
            refine k_callV (As := [.int x1]) (rest := []) (st1 := [.int r77]) (ws2 := (Wd40 cI aR q_hasImage q_place q_rowAt q_rowEnd q_seed q_thrown q_s)) hx hb hml hown hts hK hN hA hP hD hS hl (c_MD_discount l D cI cM cS cJ aR H.size x1 q_hasImage q_place q_rowAt q_rowEnd q_seed q_thrown q_s g77) gX12_man_X12_discount rfl kdV_X12_discount 0 12 rfl rfl rfl [0, 1] ⟨rfl, rfl⟩ ⟨Nat.le_of_ble_eq_true rfl, Nat.le_of_ble_eq_true rfl⟩ ⟨Nat.zero_le _, Nat.zero_le _⟩ rfl rfl (by decide +kernel) rfl rfl rfl (Nat.le_of_ble_eq_true rfl) dX12_man_77 rfl (fun H locs hP hD hS => ?_)
            cases h
            exact hret _ _ _ _ hP hS dX12_man_80
          · have h := k_neg s20_4 h
            by_cases s20_5 : x2 = 5
            · refine k_tblI (tgt := 81) (v := 5) hx hb dX12_man_20 s20_5 (by decide) (by decide) rfl (by decide) ?_
              have h := k_pos s20_5 h
              refine lv_aload_n hx hb dX12_man_81 rfl (lv_at hl 0 rfl) ?_
              refine lv_iload_n hx hb dX12_man_82 rfl (lv_at hl 1 rfl) ?_
              obtain ⟨r83, g83, h⟩ := k_bind h
              refine k_callV (As := [.int x1]) (rest := []) (st1 := [.int r83]) (ws2 := (Wd40 cI aR q_hasImage q_place q_rowAt q_rowEnd q_seed q_thrown q_s)) hx hb hml hown hts hK hN hA hP hD hS hl (c_MD_trustedBy l D cI cM cS cJ aR H.size x1 q_hasImage q_place q_rowAt q_rowEnd q_seed q_thrown q_s g83) gX12_man_X12_trustedBy rfl kdV_X12_trustedBy 0 12 rfl rfl rfl [0, 1] ⟨rfl, rfl⟩ ⟨Nat.le_of_ble_eq_true rfl, Nat.le_of_ble_eq_true rfl⟩ ⟨Nat.zero_le _, Nat.zero_le _⟩ rfl rfl (by decide +kernel) rfl rfl rfl (Nat.le_of_ble_eq_true rfl) dX12_man_83 rfl (fun H locs hP hD hS => ?_)
              cases h
              exact hret _ _ _ _ hP hS dX12_man_86
            · have h := k_neg s20_5 h
              refine lv_tableOut (tgt := 87) hx hb dX12_man_20 (k_out [2, 3, 4, 5] (by decide) (List.forall_mem_cons.mpr ⟨s20_2, (List.forall_mem_cons.mpr ⟨s20_3, (List.forall_mem_cons.mpr ⟨s20_4, (List.forall_mem_cons.mpr ⟨s20_5, (fun _ z => absurd z List.not_mem_nil)⟩)⟩)⟩)⟩)) (by decide) ?_
              refine lv_aload_n hx hb dX12_man_87 rfl (lv_at hl 0 rfl) ?_
              refine va_get (D := D) (ci := 12) (v := .ref (aR 1)) (C := RX12) (T := TX12) (N := 18) hx hb hts hiX12 hown hK hP 0 rfl rfl 0 (by decide) hf9 (fun _ z => z) rfl dX12_man_88 ?_
              refine lv_iload_n hx hb dX12_man_91 rfl (lv_at hl 1 rfl) ?_
              refine lv_iload_n hx hb dX12_man_92 rfl (lv_at hl 2 rfl) ?_
              refine k_callS (As := [.int x1, .int x2]) (rest := [.ref (aR 1)]) (st1 := [.int (S_MD_of x1 x2), .ref (aR 1)]) (ws2 := (Wd40 cI aR q_hasImage q_place q_rowAt q_rowEnd q_seed q_thrown q_s)) hx hb hml hown hts hK hN hA hP hD hS hl (c_MD_of l D cI cM cS cJ H.size x1 x2 rfl) gX12_man_X12_of rfl kdS_X12_of [] ⟨rfl, rfl⟩ ⟨Nat.le_of_ble_eq_true rfl, Nat.le_of_ble_eq_true rfl⟩ ⟨Nat.zero_le _, Nat.zero_le _⟩ rfl rfl (by decide +kernel) rfl rfl rfl (Nat.le_of_ble_eq_true rfl) dX12_man_93 rfl (fun H locs hP hD hS => ?_)
              obtain ⟨g96, h⟩ := k_guard h
              refine va_iald hx hb hK hP 1 0 rfl rfl g96 dX12_man_96 ?_
              cases h
              exact hret _ _ _ _ hP hS dX12_man_97
    · have h := k_pos c14 h
      refine lv_iconst (v := (-1)) hx hb dX12_man_17 (by decide) ?_
      cases h
      exact hret _ _ _ _ hP hS dX12_man_18
abbrev Wd47 (cI : ClassId) (aR : Nat → Nat) (q_hasImage : Int32) (q_place : Int32) (q_rowAt : Int32) (q_rowEnd : Int32) (q_seed : Int32) (q_thrown : Int32) (q_kept : Nat → Int32) : va_W := [((aR 0), .inr (12, [.ref (aR 1), .ref (aR 2), .ref (aR 3), .ref (aR 4), .int q_hasImage, .int q_place, .int q_rowAt, .int q_rowEnd, .ref (aR 5), .ref (aR 6), .int q_seed, .ref (aR 7), .ref (aR 8), .ref (aR 9), .ref (aR 10), .ref (aR 11), .ref (aR 12), .int q_thrown])), ((aR 7), .inl (cI, 8, .inl q_kept))]
abbrev rm_X12_wrongKept : Room := { frames := 2, cells := 0, slots := 0, locals := 42 }
set_option maxHeartbeats 4000000 in
set_option maxRecDepth 100000 in
theorem c_MD_wrongKept (l : Launch) (D : va_G) (cI cM cS cJ : ClassId) (aR : Nat → Nat) (sz : Nat) (x1 : Int32) (q_hasImage : Int32) (q_place : Int32) (q_rowAt : Int32) (q_rowEnd : Int32) (q_seed : Int32) (q_thrown : Int32) (q_kept : Nat → Int32) {o : (Int32)} (hsem : S_MD_wrongKept x1 q_kept = some o) : kMet l yX12_wrongKept wsX12_wrongKept rm_X12_wrongKept [.ref (aR 0), .int x1] D (kT cI cM cS cJ) (Wd47 cI aR q_hasImage q_place q_rowAt q_rowEnd q_seed q_thrown q_kept) sz (some (.int o)) (Wd47 cI aR q_hasImage q_place q_rowAt q_rowEnd q_seed q_thrown q_kept) := by
  refine k_metI (by decide) rfl rfl (Nat.le_of_ble_eq_true rfl) ?_
  intro p e s m below meth c ls Q A hx hb hml hts hown hK hN hA hP hD hS hl hsz hnm hret
  have hown : s.vm.findClass RX12 = some m.cls := hown
  have hf28 := hts (.fieldLink RX12 28 "PlumbLineModel" "kept" "[I") (List.mem_of_getElem? (i := 1) rfl)
  have hiX12 : ∀ w ∈ u_ws RX12 TX12 18, w ∈ wsX12_wrongKept := fun w h => List.mem_cons_of_mem _ (List.mem_append_right _ h)
  replace hl : lv_has ls 2 [(0, .ref (aR 0)), (1, .int x1)] := hl
  have h := hsem
  clear hsem
  rw [S_MD_wrongKept] at h
  refine lv_iload_n hx hb dX12_wrongKept_0 rfl (lv_at hl 1 rfl) ?_
  obtain ⟨r1, g1, h⟩ := k_bind h
  refine k_callS (As := [.int x1]) (rest := []) (st1 := [.int r1]) (ws2 := (Wd47 cI aR q_hasImage q_place q_rowAt q_rowEnd q_seed q_thrown q_kept)) hx hb hml hown hts hK hN hA hP hD hS hl (c_MD_isShelf l D cI cM cS cJ s.heap.size x1 g1) gX12_wrongKept_X12_isShelf rfl kdS_X12_isShelf [] ⟨rfl, rfl⟩ ⟨Nat.le_of_ble_eq_true rfl, Nat.le_of_ble_eq_true rfl⟩ ⟨Nat.zero_le _, Nat.zero_le _⟩ rfl rfl (by decide +kernel) rfl rfl rfl (Nat.le_of_ble_eq_true rfl) dX12_wrongKept_1 rfl (fun H locs hP hD hS => ?_)
  refine lv_if_ne (tgt := 11) hx hb dX12_wrongKept_4 (by decide) (fun c4 => ?_) (fun c4 => ?_)
  · have h := k_neg c4 h
    refine lv_aload_n hx hb dX12_wrongKept_11 rfl (lv_at hl 0 rfl) ?_
    refine va_get (D := D) (ci := 12) (v := .ref (aR 7)) (C := RX12) (T := TX12) (N := 18) hx hb hts hiX12 hown hK hP 0 rfl rfl 11 (by decide) hf28 (fun _ z => z) rfl dX12_wrongKept_12 ?_
    refine lv_iload_n hx hb dX12_wrongKept_15 rfl (lv_at hl 1 rfl) ?_
    obtain ⟨g16, h⟩ := k_guard h
    refine va_iald hx hb hK hP 1 0 rfl rfl g16 dX12_wrongKept_16 ?_
    refine lv_if_ne (tgt := 25) hx hb dX12_wrongKept_17 (by decide) (fun c17 => ?_) (fun c17 => ?_)
    · have h := k_neg c17 h
      refine lv_aload_n hx hb dX12_wrongKept_25 rfl (lv_at hl 0 rfl) ?_
      refine va_get (D := D) (ci := 12) (v := .ref (aR 7)) (C := RX12) (T := TX12) (N := 18) hx hb hts hiX12 hown hK hP 0 rfl rfl 11 (by decide) hf28 (fun _ z => z) rfl dX12_wrongKept_26 ?_
      refine lv_iload_n hx hb dX12_wrongKept_29 rfl (lv_at hl 1 rfl) ?_
      refine va_iald hx hb hK hP 1 0 rfl rfl g16 dX12_wrongKept_30 ?_
      refine lv_iconst (v := 2) hx hb dX12_wrongKept_31 (by decide) ?_
      refine lv_icmp_ne (tgt := 40) hx hb dX12_wrongKept_32 (by decide) (fun c32 => ?_) (fun c32 => ?_)
      · have h := k_neg c32 h
        refine lv_iconst (v := 0) hx hb dX12_wrongKept_40 (by decide) ?_
        cases h
        exact hret _ _ _ _ hP hS dX12_wrongKept_41
      · have h := k_pos c32 h
        refine lv_bipush (v := (-12)) hx hb dX12_wrongKept_35 (by decide) ?_
        refine lv_goto (tgt := 41) hx hb dX12_wrongKept_37 (by decide) ?_
        cases h
        exact hret _ _ _ _ hP hS dX12_wrongKept_41
    · have h := k_pos c17 h
      refine lv_bipush (v := (-11)) hx hb dX12_wrongKept_20 (by decide) ?_
      refine lv_goto (tgt := 41) hx hb dX12_wrongKept_22 (by decide) ?_
      cases h
      exact hret _ _ _ _ hP hS dX12_wrongKept_41
  · have h := k_pos c4 h
    refine lv_iconst (v := (-1)) hx hb dX12_wrongKept_7 (by decide) ?_
    refine lv_goto (tgt := 41) hx hb dX12_wrongKept_8 (by decide) ?_
    cases h
    exact hret _ _ _ _ hP hS dX12_wrongKept_41
abbrev Wd48 (cI : ClassId) (aR : Nat → Nat) (q_hasImage : Int32) (q_place : Int32) (q_rowAt : Int32) (q_rowEnd : Int32) (q_seed : Int32) (q_thrown : Int32) (q_s : Nat → Int32) (q_kept : Nat → Int32) (q_keptKind : Nat → Int32) (q_keptFigure : Nat → Int32) : va_W := [((aR 0), .inr (12, [.ref (aR 1), .ref (aR 2), .ref (aR 3), .ref (aR 4), .int q_hasImage, .int q_place, .int q_rowAt, .int q_rowEnd, .ref (aR 5), .ref (aR 6), .int q_seed, .ref (aR 7), .ref (aR 8), .ref (aR 9), .ref (aR 10), .ref (aR 11), .ref (aR 12), .int q_thrown])), ((aR 1), .inl (cI, 37, .inl q_s)), ((aR 7), .inl (cI, 8, .inl q_kept)), ((aR 8), .inl (cI, 8, .inl q_keptKind)), ((aR 9), .inl (cI, 8, .inl q_keptFigure))]
theorem kdS_X12_isLean : yX12_isLean.cls ≠ "java/lang/invoke/MethodHandle" ∧ yX12_isLean.cls ≠ "java/lang/invoke/VarHandle" ∧ (parseMethodDescriptor yX12_isLean.desc).map (fun d => d.parameters.length) = some 1 := by decide +kernel
theorem kdV_X12_wrongKept : yX12_wrongKept.cls = RX12 ∧ yX12_wrongKept.cls ≠ "java/lang/invoke/MethodHandle" ∧ yX12_wrongKept.cls ≠ "java/lang/invoke/VarHandle" ∧ (parseMethodDescriptor yX12_wrongKept.desc).map (fun d => d.parameters.length) = some 1 := by decide +kernel
abbrev rm_X12_comes : Room := { frames := 3, cells := 0, slots := 0, locals := 63 }
set_option maxHeartbeats 4000000 in
set_option maxRecDepth 100000 in
theorem c_MD_comes (l : Launch) (D : va_G) (cI cM cS cJ : ClassId) (aR : Nat → Nat) (sz : Nat) (x1 : Int32) (x2 : Int32) (q_hasImage : Int32) (q_place : Int32) (q_rowAt : Int32) (q_rowEnd : Int32) (q_seed : Int32) (q_thrown : Int32) (q_s : Nat → Int32) (q_kept : Nat → Int32) (q_keptKind : Nat → Int32) (q_keptFigure : Nat → Int32) {o : (Int32) × (Nat → Int32)} (hsem : S_MD_comes x1 x2 q_s q_kept q_keptKind q_keptFigure = some o) : kMet l yX12_comes wsX12_comes rm_X12_comes [.ref (aR 0), .int x1, .int x2] D (kT cI cM cS cJ) (Wd48 cI aR q_hasImage q_place q_rowAt q_rowEnd q_seed q_thrown q_s q_kept q_keptKind q_keptFigure) sz (some (.int o.1)) (Wd48 cI aR q_hasImage q_place q_rowAt q_rowEnd q_seed q_thrown o.2 q_kept q_keptKind q_keptFigure) := by
  refine k_metI (by decide) rfl rfl (Nat.le_of_ble_eq_true rfl) ?_
  intro p e s m below meth c ls Q A hx hb hml hts hown hK hN hA hP hD hS hl hsz hnm hret
  have hown : s.vm.findClass RX12 = some m.cls := hown
  have hf9 := hts (.fieldLink RX12 9 "PlumbLineModel" "s" "[I") (List.mem_of_getElem? (i := 1) rfl)
  have hf31 := hts (.fieldLink RX12 31 "PlumbLineModel" "keptKind" "[I") (List.mem_of_getElem? (i := 2) rfl)
  have hf34 := hts (.fieldLink RX12 34 "PlumbLineModel" "keptFigure" "[I") (List.mem_of_getElem? (i := 3) rfl)
  have hiX12 : ∀ w ∈ u_ws RX12 TX12 18, w ∈ wsX12_comes := fun w h => List.mem_cons_of_mem _ (List.mem_append_right _ h)
  replace hl : lv_has ls 4 [(0, .ref (aR 0)), (1, .int x1), (2, .int x2)] := hl
  have h := hsem
  clear hsem
  rw [S_MD_comes] at h
  refine lv_iload_n hx hb dX12_comes_0 rfl (lv_at hl 2 rfl) ?_
  obtain ⟨r1, g1, h⟩ := k_bind h
  refine k_callS (As := [.int x2]) (rest := []) (st1 := [.int r1]) (ws2 := (Wd48 cI aR q_hasImage q_place q_rowAt q_rowEnd q_seed q_thrown q_s q_kept q_keptKind q_keptFigure)) hx hb hml hown hts hK hN hA hP hD hS hl (c_MD_isLean l D cI cM cS cJ s.heap.size x2 g1) gX12_comes_X12_isLean rfl kdS_X12_isLean [] ⟨rfl, rfl⟩ ⟨Nat.le_of_ble_eq_true rfl, Nat.le_of_ble_eq_true rfl⟩ ⟨Nat.zero_le _, Nat.zero_le _⟩ rfl rfl (by decide +kernel) rfl rfl rfl (Nat.le_of_ble_eq_true rfl) dX12_comes_1 rfl (fun H locs hP hD hS => ?_)
  refine lv_if_ne (tgt := 9) hx hb dX12_comes_4 (by decide) (fun c4 => ?_) (fun c4 => ?_)
  · have h := k_neg c4 h
    refine lv_aload_n hx hb dX12_comes_9 rfl (lv_at hl 0 rfl) ?_
    refine lv_iload_n hx hb dX12_comes_10 rfl (lv_at hl 1 rfl) ?_
    obtain ⟨r11, g11, h⟩ := k_bind h
    refine k_callV (As := [.int x1]) (rest := []) (st1 := [.int r11]) (ws2 := (Wd48 cI aR q_hasImage q_place q_rowAt q_rowEnd q_seed q_thrown q_s q_kept q_keptKind q_keptFigure)) hx hb hml hown hts hK hN hA hP hD hS hl (c_MD_wrongKept l D cI cM cS cJ aR H.size x1 q_hasImage q_place q_rowAt q_rowEnd q_seed q_thrown q_kept g11) gX12_comes_X12_wrongKept rfl kdV_X12_wrongKept 0 12 rfl rfl rfl [0, 2] ⟨rfl, rfl⟩ ⟨Nat.le_of_ble_eq_true rfl, Nat.le_of_ble_eq_true rfl⟩ ⟨Nat.zero_le _, Nat.zero_le _⟩ rfl rfl (by decide +kernel) rfl rfl rfl (Nat.le_of_ble_eq_true rfl) dX12_comes_11 rfl (fun H locs hP hD hS => ?_)
    refine lv_istore_n (lv' := [(3, .int r11), (0, .ref (aR 0)), (1, .int x1), (2, .int x2)]) hx hb dX12_comes_14 rfl hl (by decide) rfl (fun ls hl => ?_)
    refine lv_iload_n hx hb dX12_comes_15 rfl (lv_at hl 0 rfl) ?_
    refine lv_if_eq (tgt := 21) hx hb dX12_comes_16 (by decide) (fun c16 => ?_) (fun c16 => ?_)
    · have h := k_pos c16 h
      refine lv_aload_n hx hb dX12_comes_21 rfl (lv_at hl 1 rfl) ?_
      refine va_get (D := D) (ci := 12) (v := .ref (aR 1)) (C := RX12) (T := TX12) (N := 18) hx hb hts hiX12 hown hK hP 0 rfl rfl 0 (by decide) hf9 (fun _ z => z) rfl dX12_comes_22 ?_
      refine lv_iconst (v := 0) hx hb dX12_comes_25 (by decide) ?_
      refine va_iald hx hb hK hP 1 0 rfl rfl (by decide) dX12_comes_26 ?_
      refine lv_bipush (v := 8) hx hb dX12_comes_27 (by decide) ?_
      refine lv_icmp_ne (tgt := 35) hx hb dX12_comes_29 (by decide) (fun c29 => ?_) (fun c29 => ?_)
      · have h := k_neg c29 h
        refine lv_aload_n hx hb dX12_comes_35 rfl (lv_at hl 1 rfl) ?_
        refine lv_aload_n hx hb dX12_comes_36 rfl (lv_at hl 1 rfl) ?_
        refine va_get (D := D) (ci := 12) (v := .ref (aR 8)) (C := RX12) (T := TX12) (N := 18) hx hb hts hiX12 hown hK hP 0 rfl rfl 12 (by decide) hf31 (fun _ z => z) rfl dX12_comes_37 ?_
        refine lv_iload_n hx hb dX12_comes_40 rfl (lv_at hl 2 rfl) ?_
        obtain ⟨g41, h⟩ := k_guard h
        refine va_iald hx hb hK hP 3 0 rfl rfl g41 dX12_comes_41 ?_
        refine lv_aload_n hx hb dX12_comes_42 rfl (lv_at hl 1 rfl) ?_
        refine va_get (D := D) (ci := 12) (v := .ref (aR 9)) (C := RX12) (T := TX12) (N := 18) hx hb hts hiX12 hown hK hP 0 rfl rfl 13 (by decide) hf34 (fun _ z => z) rfl dX12_comes_43 ?_
        refine lv_iload_n hx hb dX12_comes_46 rfl (lv_at hl 2 rfl) ?_
        refine va_iald hx hb hK hP 4 0 rfl rfl g41 dX12_comes_47 ?_
        refine lv_iload_n hx hb dX12_comes_48 rfl (lv_at hl 3 rfl) ?_
        obtain ⟨r49, g49, h⟩ := k_bind h
        refine k_callV (As := [.int (q_keptKind x1.toNatClampNeg), .int (q_keptFigure x1.toNatClampNeg), .int x2]) (rest := []) (st1 := []) (ws2 := (Wd48 cI aR q_hasImage q_place q_rowAt q_rowEnd q_seed q_thrown r49 q_kept q_keptKind q_keptFigure)) hx hb hml hown hts hK hN hA hP hD hS hl (c_MD_adds l D cI cM cS cJ aR H.size (q_keptKind x1.toNatClampNeg) (q_keptFigure x1.toNatClampNeg) x2 q_hasImage q_place q_rowAt q_rowEnd q_seed q_thrown q_s g49) gX12_comes_X12_adds rfl kdV_X12_adds 0 12 rfl rfl rfl [0, 1] ⟨rfl, rfl⟩ ⟨Nat.le_of_ble_eq_true rfl, Nat.le_of_ble_eq_true rfl⟩ ⟨Nat.zero_le _, Nat.zero_le _⟩ rfl rfl (by decide +kernel) rfl rfl rfl (Nat.le_of_ble_eq_true rfl) dX12_comes_49 rfl (fun H locs hP hD hS => ?_)
        refine lv_aload_n hx hb dX12_comes_52 rfl (lv_at hl 1 rfl) ?_
        refine va_get (D := D) (ci := 12) (v := .ref (aR 1)) (C := RX12) (T := TX12) (N := 18) hx hb hts hiX12 hown hK hP 0 rfl rfl 0 (by decide) hf9 (fun _ z => z) rfl dX12_comes_53 ?_
        refine lv_iconst (v := 0) hx hb dX12_comes_56 (by decide) ?_
        refine va_iald hx hb hK hP 1 0 rfl rfl (by decide) dX12_comes_57 ?_
        refine lv_iconst (v := 1) hx hb dX12_comes_58 (by decide) ?_
        refine lv_isub hx hb dX12_comes_59 ?_
        cases h
        exact hret _ _ _ _ hP hS dX12_comes_60
      · have h := k_pos c29 h
        refine lv_bipush (v := (-2)) hx hb dX12_comes_32 (by decide) ?_
        cases h
        exact hret _ _ _ _ hP hS dX12_comes_34
    · have h := k_neg c16 h
      refine lv_iload_n hx hb dX12_comes_19 rfl (lv_at hl 0 rfl) ?_
      cases h
      exact hret _ _ _ _ hP hS dX12_comes_20
  · have h := k_pos c4 h
    refine lv_iconst (v := (-1)) hx hb dX12_comes_7 (by decide) ?_
    cases h
    exact hret _ _ _ _ hP hS dX12_comes_8
abbrev rm_X12_pushes : Room := { frames := 2, cells := 0, slots := 0, locals := 43 }
set_option maxHeartbeats 4000000 in
set_option maxRecDepth 100000 in
theorem c_MD_pushes (l : Launch) (D : va_G) (cI cM cS cJ : ClassId) (aR : Nat → Nat) (sz : Nat) (x1 : Int32) (x2 : Int32) (q_hasImage : Int32) (q_place : Int32) (q_rowAt : Int32) (q_rowEnd : Int32) (q_seed : Int32) (q_thrown : Int32) (q_s : Nat → Int32) {o : (Int32) × (Nat → Int32)} (hsem : S_MD_pushes x1 x2 q_s = some o) : kMet l yX12_pushes wsX12_pushes rm_X12_pushes [.ref (aR 0), .int x1, .int x2] D (kT cI cM cS cJ) (Wd40 cI aR q_hasImage q_place q_rowAt q_rowEnd q_seed q_thrown q_s) sz (some (.int o.1)) (Wd40 cI aR q_hasImage q_place q_rowAt q_rowEnd q_seed q_thrown o.2) := by
  refine k_metI (by decide) rfl rfl (Nat.le_of_ble_eq_true rfl) ?_
  intro p e s m below meth c ls Q A hx hb hml hts hown hK hN hA hP hD hS hl hsz hnm hret
  have hown : s.vm.findClass RX12 = some m.cls := hown
  have hf9 := hts (.fieldLink RX12 9 "PlumbLineModel" "s" "[I") (List.mem_of_getElem? (i := 2) rfl)
  have hiX12 : ∀ w ∈ u_ws RX12 TX12 18, w ∈ wsX12_pushes := fun w h => List.mem_cons_of_mem _ (List.mem_append_right _ h)
  replace hl : lv_has ls 4 [(0, .ref (aR 0)), (1, .int x1), (2, .int x2)] := hl
  have h := hsem
  clear hsem
  rw [S_MD_pushes] at h
  refine lv_aload_n hx hb dX12_pushes_0 rfl (lv_at hl 0 rfl) ?_
  refine lv_iload_n hx hb dX12_pushes_1 rfl (lv_at hl 1 rfl) ?_
  obtain ⟨r2, g2, h⟩ := k_bind h
  refine k_callV (As := [.int x1]) (rest := []) (st1 := [.int r2]) (ws2 := (Wd40 cI aR q_hasImage q_place q_rowAt q_rowEnd q_seed q_thrown q_s)) hx hb hml hown hts hK hN hA hP hD hS hl (c_MD_isMan l D cI cM cS cJ aR s.heap.size x1 q_hasImage q_place q_rowAt q_rowEnd q_seed q_thrown q_s g2) gX12_pushes_X12_isMan rfl kdV_X12_isMan 0 12 rfl rfl rfl [0, 1] ⟨rfl, rfl⟩ ⟨Nat.le_of_ble_eq_true rfl, Nat.le_of_ble_eq_true rfl⟩ ⟨Nat.zero_le _, Nat.zero_le _⟩ rfl rfl (by decide +kernel) rfl rfl rfl (Nat.le_of_ble_eq_true rfl) dX12_pushes_2 rfl (fun H locs hP hD hS => ?_)
  refine lv_if_eq (tgt := 15) hx hb dX12_pushes_5 (by decide) (fun c5 => ?_) (fun c5 => ?_)
  · have h := k_pos c5 h
    refine lv_ldc (v := 1000000001) hx hb hown (hts (.constant RX12 155 1000000001) (List.mem_of_getElem? (i := 1) rfl)) dX12_pushes_15 ?_
    cases h
    exact hret _ _ _ _ hP hS dX12_pushes_17
  · have h := k_neg c5 h
    refine lv_iload_n hx hb dX12_pushes_8 rfl (lv_at hl 2 rfl) ?_
    obtain ⟨r9, g9, h⟩ := k_bind h
    refine k_callS (As := [.int x2]) (rest := []) (st1 := [.int r9]) (ws2 := (Wd40 cI aR q_hasImage q_place q_rowAt q_rowEnd q_seed q_thrown q_s)) hx hb hml hown hts hK hN hA hP hD hS hl (c_MD_isLean l D cI cM cS cJ H.size x2 g9) gX12_pushes_X12_isLean rfl kdS_X12_isLean [] ⟨rfl, rfl⟩ ⟨Nat.le_of_ble_eq_true rfl, Nat.le_of_ble_eq_true rfl⟩ ⟨Nat.zero_le _, Nat.zero_le _⟩ rfl rfl (by decide +kernel) rfl rfl rfl (Nat.le_of_ble_eq_true rfl) dX12_pushes_9 rfl (fun H locs hP hD hS => ?_)
    refine lv_if_ne (tgt := 18) hx hb dX12_pushes_12 (by decide) (fun c12 => ?_) (fun c12 => ?_)
    · have h := k_neg c12 h
      refine lv_aload_n hx hb dX12_pushes_18 rfl (lv_at hl 0 rfl) ?_
      refine va_get (D := D) (ci := 12) (v := .ref (aR 1)) (C := RX12) (T := TX12) (N := 18) hx hb hts hiX12 hown hK hP 0 rfl rfl 0 (by decide) hf9 (fun _ z => z) rfl dX12_pushes_19 ?_
      refine lv_iload_n hx hb dX12_pushes_22 rfl (lv_at hl 1 rfl) ?_
      refine lv_iconst (v := 2) hx hb dX12_pushes_23 (by decide) ?_
      refine k_callS (As := [.int x1, .int 2]) (rest := [.ref (aR 1)]) (st1 := [.int (S_MD_of x1 2), .ref (aR 1)]) (ws2 := (Wd40 cI aR q_hasImage q_place q_rowAt q_rowEnd q_seed q_thrown q_s)) hx hb hml hown hts hK hN hA hP hD hS hl (c_MD_of l D cI cM cS cJ H.size x1 2 rfl) gX12_pushes_X12_of rfl kdS_X12_of [] ⟨rfl, rfl⟩ ⟨Nat.le_of_ble_eq_true rfl, Nat.le_of_ble_eq_true rfl⟩ ⟨Nat.zero_le _, Nat.zero_le _⟩ rfl rfl (by decide +kernel) rfl rfl rfl (Nat.le_of_ble_eq_true rfl) dX12_pushes_24 rfl (fun H locs hP hD hS => ?_)
      obtain ⟨g27, h⟩ := k_guard h
      refine va_iald hx hb hK hP 1 0 rfl rfl g27 dX12_pushes_27 ?_
      refine lv_istore_n (lv' := [(3, .int (q_s (S_MD_of x1 2).toNatClampNeg)), (0, .ref (aR 0)), (1, .int x1), (2, .int x2)]) hx hb dX12_pushes_28 rfl hl (by decide) rfl (fun ls hl => ?_)
      refine lv_aload_n hx hb dX12_pushes_29 rfl (lv_at hl 1 rfl) ?_
      refine va_get (D := D) (ci := 12) (v := .ref (aR 1)) (C := RX12) (T := TX12) (N := 18) hx hb hts hiX12 hown hK hP 0 rfl rfl 0 (by decide) hf9 (fun _ z => z) rfl dX12_pushes_30 ?_
      refine lv_iload_n hx hb dX12_pushes_33 rfl (lv_at hl 2 rfl) ?_
      refine lv_iconst (v := 2) hx hb dX12_pushes_34 (by decide) ?_
      refine k_callS (As := [.int x1, .int 2]) (rest := [.ref (aR 1)]) (st1 := [.int (S_MD_of x1 2), .ref (aR 1)]) (ws2 := (Wd40 cI aR q_hasImage q_place q_rowAt q_rowEnd q_seed q_thrown q_s)) hx hb hml hown hts hK hN hA hP hD hS hl (c_MD_of l D cI cM cS cJ H.size x1 2 rfl) gX12_pushes_X12_of rfl kdS_X12_of [] ⟨rfl, rfl⟩ ⟨Nat.le_of_ble_eq_true rfl, Nat.le_of_ble_eq_true rfl⟩ ⟨Nat.zero_le _, Nat.zero_le _⟩ rfl rfl (by decide +kernel) rfl rfl rfl (Nat.le_of_ble_eq_true rfl) dX12_pushes_35 rfl (fun H locs hP hD hS => ?_)
      refine lv_iload_n hx hb dX12_pushes_38 rfl (lv_at hl 3 rfl) ?_
      refine va_iast hx hb hK hP hD hS 1 0 rfl rfl g27 dX12_pushes_39 (fun H locs hP hD hS => ?_)
      replace hP : va_P D vwCl (Wd40 cI aR q_hasImage q_place q_rowAt q_rowEnd q_seed q_thrown (upd q_s (S_MD_of x1 2).toNatClampNeg x2)) H := hP
      replace hD : va_D A (Wd40 cI aR q_hasImage q_place q_rowAt q_rowEnd q_seed q_thrown (upd q_s (S_MD_of x1 2).toNatClampNeg x2)) := hD
      refine lv_iload_n hx hb dX12_pushes_40 rfl (lv_at hl 0 rfl) ?_
      cases h
      exact hret _ _ _ _ hP hS dX12_pushes_41
    · have h := k_pos c12 h
      refine lv_ldc (v := 1000000001) hx hb hown (hts (.constant RX12 155 1000000001) (List.mem_of_getElem? (i := 1) rfl)) dX12_pushes_15 ?_
      cases h
      exact hret _ _ _ _ hP hS dX12_pushes_17
abbrev rm_X12_props : Room := { frames := 2, cells := 0, slots := 0, locals := 43 }
set_option maxHeartbeats 4000000 in
set_option maxRecDepth 100000 in
theorem c_MD_props (l : Launch) (D : va_G) (cI cM cS cJ : ClassId) (aR : Nat → Nat) (sz : Nat) (x1 : Int32) (q_hasImage : Int32) (q_place : Int32) (q_rowAt : Int32) (q_rowEnd : Int32) (q_seed : Int32) (q_thrown : Int32) (q_s : Nat → Int32) {o : (Int32) × (Nat → Int32)} (hsem : S_MD_props x1 q_s = some o) : kMet l yX12_props wsX12_props rm_X12_props [.ref (aR 0), .int x1] D (kT cI cM cS cJ) (Wd40 cI aR q_hasImage q_place q_rowAt q_rowEnd q_seed q_thrown q_s) sz (some (.int o.1)) (Wd40 cI aR q_hasImage q_place q_rowAt q_rowEnd q_seed q_thrown o.2) := by
  refine k_metI (by decide) rfl rfl (Nat.le_of_ble_eq_true rfl) ?_
  intro p e s m below meth c ls Q A hx hb hml hts hown hK hN hA hP hD hS hl hsz hnm hret
  have hown : s.vm.findClass RX12 = some m.cls := hown
  have hf9 := hts (.fieldLink RX12 9 "PlumbLineModel" "s" "[I") (List.mem_of_getElem? (i := 1) rfl)
  have hiX12 : ∀ w ∈ u_ws RX12 TX12 18, w ∈ wsX12_props := fun w h => List.mem_cons_of_mem _ (List.mem_append_right _ h)
  replace hl : lv_has ls 2 [(0, .ref (aR 0)), (1, .int x1)] := hl
  have h := hsem
  clear hsem
  rw [S_MD_props] at h
  refine lv_aload_n hx hb dX12_props_0 rfl (lv_at hl 0 rfl) ?_
  refine lv_iload_n hx hb dX12_props_1 rfl (lv_at hl 1 rfl) ?_
  obtain ⟨r2, g2, h⟩ := k_bind h
  refine k_callV (As := [.int x1]) (rest := []) (st1 := [.int r2]) (ws2 := (Wd40 cI aR q_hasImage q_place q_rowAt q_rowEnd q_seed q_thrown q_s)) hx hb hml hown hts hK hN hA hP hD hS hl (c_MD_isMan l D cI cM cS cJ aR s.heap.size x1 q_hasImage q_place q_rowAt q_rowEnd q_seed q_thrown q_s g2) gX12_props_X12_isMan rfl kdV_X12_isMan 0 12 rfl rfl rfl [0, 1] ⟨rfl, rfl⟩ ⟨Nat.le_of_ble_eq_true rfl, Nat.le_of_ble_eq_true rfl⟩ ⟨Nat.zero_le _, Nat.zero_le _⟩ rfl rfl (by decide +kernel) rfl rfl rfl (Nat.le_of_ble_eq_true rfl) dX12_props_2 rfl (fun H locs hP hD hS => ?_)
  refine lv_if_ne (tgt := 10) hx hb dX12_props_5 (by decide) (fun c5 => ?_) (fun c5 => ?_)
  · have h := k_neg c5 h
    refine lv_aload_n hx hb dX12_props_10 rfl (lv_at hl 0 rfl) ?_
    refine va_get (D := D) (ci := 12) (v := .ref (aR 1)) (C := RX12) (T := TX12) (N := 18) hx hb hts hiX12 hown hK hP 0 rfl rfl 0 (by decide) hf9 (fun _ z => z) rfl dX12_props_11 ?_
    refine lv_iload_n hx hb dX12_props_14 rfl (lv_at hl 1 rfl) ?_
    refine lv_iconst (v := 3) hx hb dX12_props_15 (by decide) ?_
    refine k_callS (As := [.int x1, .int 3]) (rest := [.ref (aR 1)]) (st1 := [.int (S_MD_of x1 3), .ref (aR 1)]) (ws2 := (Wd40 cI aR q_hasImage q_place q_rowAt q_rowEnd q_seed q_thrown q_s)) hx hb hml hown hts hK hN hA hP hD hS hl (c_MD_of l D cI cM cS cJ H.size x1 3 rfl) gX12_props_X12_of rfl kdS_X12_of [] ⟨rfl, rfl⟩ ⟨Nat.le_of_ble_eq_true rfl, Nat.le_of_ble_eq_true rfl⟩ ⟨Nat.zero_le _, Nat.zero_le _⟩ rfl rfl (by decide +kernel) rfl rfl rfl (Nat.le_of_ble_eq_true rfl) dX12_props_16 rfl (fun H locs hP hD hS => ?_)
    refine lv_dup2_11 hx hb dX12_props_19 rfl rfl ?_
    obtain ⟨g20, h⟩ := k_guard h
    refine va_iald hx hb hK hP 1 0 rfl rfl g20 dX12_props_20 ?_
    refine lv_iconst (v := 1) hx hb dX12_props_21 (by decide) ?_
    refine lv_ixor hx hb dX12_props_22 ?_
    refine va_iast hx hb hK hP hD hS 1 0 rfl rfl g20 dX12_props_23 (fun H locs hP hD hS => ?_)
    replace hP : va_P D vwCl (Wd40 cI aR q_hasImage q_place q_rowAt q_rowEnd q_seed q_thrown (upd q_s (S_MD_of x1 3).toNatClampNeg ((q_s (S_MD_of x1 3).toNatClampNeg) ^^^ 1))) H := hP
    replace hD : va_D A (Wd40 cI aR q_hasImage q_place q_rowAt q_rowEnd q_seed q_thrown (upd q_s (S_MD_of x1 3).toNatClampNeg ((q_s (S_MD_of x1 3).toNatClampNeg) ^^^ 1))) := hD
    refine lv_aload_n hx hb dX12_props_24 rfl (lv_at hl 0 rfl) ?_
    refine va_get (D := D) (ci := 12) (v := .ref (aR 1)) (C := RX12) (T := TX12) (N := 18) hx hb hts hiX12 hown hK hP 0 rfl rfl 0 (by decide) hf9 (fun _ z => z) rfl dX12_props_25 ?_
    refine lv_iload_n hx hb dX12_props_28 rfl (lv_at hl 1 rfl) ?_
    refine lv_iconst (v := 3) hx hb dX12_props_29 (by decide) ?_
    refine k_callS (As := [.int x1, .int 3]) (rest := [.ref (aR 1)]) (st1 := [.int (S_MD_of x1 3), .ref (aR 1)]) (ws2 := (Wd40 cI aR q_hasImage q_place q_rowAt q_rowEnd q_seed q_thrown (upd q_s (S_MD_of x1 3).toNatClampNeg ((q_s (S_MD_of x1 3).toNatClampNeg) ^^^ 1)))) hx hb hml hown hts hK hN hA hP hD hS hl (c_MD_of l D cI cM cS cJ H.size x1 3 rfl) gX12_props_X12_of rfl kdS_X12_of [] ⟨rfl, rfl⟩ ⟨Nat.le_of_ble_eq_true rfl, Nat.le_of_ble_eq_true rfl⟩ ⟨Nat.zero_le _, Nat.zero_le _⟩ rfl rfl (by decide +kernel) rfl rfl rfl (Nat.le_of_ble_eq_true rfl) dX12_props_30 rfl (fun H locs hP hD hS => ?_)
    refine va_iald hx hb hK hP 1 0 rfl rfl g20 dX12_props_33 ?_
    cases h
    exact hret _ _ _ _ hP hS dX12_props_34
  · have h := k_pos c5 h
    refine lv_iconst (v := (-1)) hx hb dX12_props_8 (by decide) ?_
    cases h
    exact hret _ _ _ _ hP hS dX12_props_9
abbrev rm_X12_hangs : Room := { frames := 1, cells := 0, slots := 0, locals := 22 }
set_option maxHeartbeats 4000000 in
set_option maxRecDepth 100000 in
theorem c_MD_hangs (l : Launch) (D : va_G) (cI cM cS cJ : ClassId) (aR : Nat → Nat) (sz : Nat) (x1 : Int32) (x2 : Int32) (q_hasImage : Int32) (q_place : Int32) (q_rowAt : Int32) (q_rowEnd : Int32) (q_seed : Int32) (q_thrown : Int32) (q_s : Nat → Int32) {o : (Int32) × (Nat → Int32)} (hsem : S_MD_hangs x1 x2 q_s = o) : kMet l yX12_hangs wsX12_hangs rm_X12_hangs [.ref (aR 0), .int x1, .int x2] D (kT cI cM cS cJ) (Wd40 cI aR q_hasImage q_place q_rowAt q_rowEnd q_seed q_thrown q_s) sz (some (.int o.1)) (Wd40 cI aR q_hasImage q_place q_rowAt q_rowEnd q_seed q_thrown o.2) := by
  refine k_metI (by decide) rfl rfl (Nat.le_of_ble_eq_true rfl) ?_
  intro p e s m below meth c ls Q A hx hb hml hts hown hK hN hA hP hD hS hl hsz hnm hret
  have hown : s.vm.findClass RX12 = some m.cls := hown
  have hf9 := hts (.fieldLink RX12 9 "PlumbLineModel" "s" "[I") (List.mem_of_getElem? (i := 1) rfl)
  have hiX12 : ∀ w ∈ u_ws RX12 TX12 18, w ∈ wsX12_hangs := fun w h => List.mem_cons_of_mem _ (List.mem_append_right _ h)
  replace hl : lv_has ls 4 [(0, .ref (aR 0)), (1, .int x1), (2, .int x2)] := hl
  have h := hsem
  clear hsem
  rw [S_MD_hangs] at h
  refine lv_iload_n hx hb dX12_hangs_0 rfl (lv_at hl 1 rfl) ?_
  refine lv_iconst (v := 0) hx hb dX12_hangs_1 (by decide) ?_
  refine lv_bipush (v := 9) hx hb dX12_hangs_2 (by decide) ?_
  refine k_callS (As := [.int x1, .int 0, .int 9]) (rest := []) (st1 := [.int (S_MD_isIn x1 0 9)]) (ws2 := (Wd40 cI aR q_hasImage q_place q_rowAt q_rowEnd q_seed q_thrown q_s)) hx hb hml hown hts hK hN hA hP hD hS hl (c_MD_isIn l D cI cM cS cJ s.heap.size x1 0 9 rfl) gX12_hangs_X12_isIn rfl kdS_X12_isIn [] ⟨rfl, rfl⟩ ⟨Nat.le_of_ble_eq_true rfl, Nat.le_of_ble_eq_true rfl⟩ ⟨Nat.zero_le _, Nat.zero_le _⟩ rfl rfl (by decide +kernel) rfl rfl rfl (Nat.le_of_ble_eq_true rfl) dX12_hangs_4 rfl (fun H locs hP hD hS => ?_)
  refine lv_if_eq (tgt := 20) hx hb dX12_hangs_7 (by decide) (fun c7 => ?_) (fun c7 => ?_)
  · have h := k_pos c7 h
    refine lv_iconst (v := (-1)) hx hb dX12_hangs_20 (by decide) ?_
    cases h
    exact hret _ _ _ _ hP hS dX12_hangs_21
  · have h := k_neg c7 h
    refine lv_iload_n hx hb dX12_hangs_10 rfl (lv_at hl 2 rfl) ?_
    refine lv_iconst (v := 0) hx hb dX12_hangs_11 (by decide) ?_
    refine lv_bipush (v := 7) hx hb dX12_hangs_12 (by decide) ?_
    refine k_callS (As := [.int x2, .int 0, .int 7]) (rest := []) (st1 := [.int (S_MD_isIn x2 0 7)]) (ws2 := (Wd40 cI aR q_hasImage q_place q_rowAt q_rowEnd q_seed q_thrown q_s)) hx hb hml hown hts hK hN hA hP hD hS hl (c_MD_isIn l D cI cM cS cJ H.size x2 0 7 rfl) gX12_hangs_X12_isIn rfl kdS_X12_isIn [] ⟨rfl, rfl⟩ ⟨Nat.le_of_ble_eq_true rfl, Nat.le_of_ble_eq_true rfl⟩ ⟨Nat.zero_le _, Nat.zero_le _⟩ rfl rfl (by decide +kernel) rfl rfl rfl (Nat.le_of_ble_eq_true rfl) dX12_hangs_14 rfl (fun H locs hP hD hS => ?_)
    refine lv_if_ne (tgt := 22) hx hb dX12_hangs_17 (by decide) (fun c17 => ?_) (fun c17 => ?_)
    · have h := k_neg c17 h
      refine lv_bipush (v := 10) hx hb dX12_hangs_22 (by decide) ?_
      refine lv_aload_n hx hb dX12_hangs_24 rfl (lv_at hl 0 rfl) ?_
      refine va_get (D := D) (ci := 12) (v := .ref (aR 1)) (C := RX12) (T := TX12) (N := 18) hx hb hts hiX12 hown hK hP 0 rfl rfl 0 (by decide) hf9 (fun _ z => z) rfl dX12_hangs_25 ?_
      refine lv_iconst (v := 3) hx hb dX12_hangs_28 (by decide) ?_
      refine va_iald hx hb hK hP 1 0 rfl rfl (by decide) dX12_hangs_29 ?_
      refine lv_imul hx hb dX12_hangs_30 ?_
      refine lv_aload_n hx hb dX12_hangs_31 rfl (lv_at hl 0 rfl) ?_
      refine va_get (D := D) (ci := 12) (v := .ref (aR 1)) (C := RX12) (T := TX12) (N := 18) hx hb hts hiX12 hown hK hP 0 rfl rfl 0 (by decide) hf9 (fun _ z => z) rfl dX12_hangs_32 ?_
      refine lv_iconst (v := 2) hx hb dX12_hangs_35 (by decide) ?_
      refine va_iald hx hb hK hP 1 0 rfl rfl (by decide) dX12_hangs_36 ?_
      refine lv_iadd hx hb dX12_hangs_37 ?_
      refine lv_istore_n (lv' := [(3, .int (((10 : Int32) * (q_s (3 : Int32).toNatClampNeg)) + (q_s (2 : Int32).toNatClampNeg))), (0, .ref (aR 0)), (1, .int x1), (2, .int x2)]) hx hb dX12_hangs_38 rfl hl (by decide) rfl (fun ls hl => ?_)
      refine lv_aload_n hx hb dX12_hangs_39 rfl (lv_at hl 1 rfl) ?_
      refine va_get (D := D) (ci := 12) (v := .ref (aR 1)) (C := RX12) (T := TX12) (N := 18) hx hb hts hiX12 hown hK hP 0 rfl rfl 0 (by decide) hf9 (fun _ z => z) rfl dX12_hangs_40 ?_
      refine lv_iconst (v := 3) hx hb dX12_hangs_43 (by decide) ?_
      refine lv_iload_n hx hb dX12_hangs_44 rfl (lv_at hl 2 rfl) ?_
      refine va_iast hx hb hK hP hD hS 1 0 rfl rfl (by decide) dX12_hangs_45 (fun H locs hP hD hS => ?_)
      replace hP : va_P D vwCl (Wd40 cI aR q_hasImage q_place q_rowAt q_rowEnd q_seed q_thrown (upd q_s (3 : Int32).toNatClampNeg x1)) H := hP
      replace hD : va_D A (Wd40 cI aR q_hasImage q_place q_rowAt q_rowEnd q_seed q_thrown (upd q_s (3 : Int32).toNatClampNeg x1)) := hD
      refine lv_aload_n hx hb dX12_hangs_46 rfl (lv_at hl 1 rfl) ?_
      refine va_get (D := D) (ci := 12) (v := .ref (aR 1)) (C := RX12) (T := TX12) (N := 18) hx hb hts hiX12 hown hK hP 0 rfl rfl 0 (by decide) hf9 (fun _ z => z) rfl dX12_hangs_47 ?_
      refine lv_iconst (v := 2) hx hb dX12_hangs_50 (by decide) ?_
      refine lv_iload_n hx hb dX12_hangs_51 rfl (lv_at hl 3 rfl) ?_
      refine va_iast hx hb hK hP hD hS 1 0 rfl rfl (by decide) dX12_hangs_52 (fun H locs hP hD hS => ?_)
      replace hP : va_P D vwCl (Wd40 cI aR q_hasImage q_place q_rowAt q_rowEnd q_seed q_thrown (upd (upd q_s (3 : Int32).toNatClampNeg x1) (2 : Int32).toNatClampNeg x2)) H := hP
      replace hD : va_D A (Wd40 cI aR q_hasImage q_place q_rowAt q_rowEnd q_seed q_thrown (upd (upd q_s (3 : Int32).toNatClampNeg x1) (2 : Int32).toNatClampNeg x2)) := hD
      refine lv_iload_n hx hb dX12_hangs_53 rfl (lv_at hl 0 rfl) ?_
      cases h
      exact hret _ _ _ _ hP hS dX12_hangs_54
    · have h := k_pos c17 h
      refine lv_iconst (v := (-1)) hx hb dX12_hangs_20 (by decide) ?_
      cases h
      exact hret _ _ _ _ hP hS dX12_hangs_21
abbrev rm_X12_days : Room := { frames := 5, cells := 0, slots := 0, locals := 112 }
set_option maxHeartbeats 4000000 in
set_option maxRecDepth 100000 in
theorem c_MD_days (l : Launch) (D : va_G) (cI cM cS cJ : ClassId) (aR : Nat → Nat) (sz : Nat) (x1 : Int32) (q_hasImage : Int32) (q_place : Int32) (q_rowAt : Int32) (q_rowEnd : Int32) (q_seed : Int32) (q_thrown : Int32) (q_s : Nat → Int32) {o : (Int32) × (Nat → Int32)} (hsem : S_MD_days x1 q_s = some o) : kMet l yX12_days wsX12_days rm_X12_days [.ref (aR 0), .int x1] D (kT cI cM cS cJ) (Wd40 cI aR q_hasImage q_place q_rowAt q_rowEnd q_seed q_thrown q_s) sz (some (.int o.1)) (Wd40 cI aR q_hasImage q_place q_rowAt q_rowEnd q_seed q_thrown o.2) := by
  refine k_metI (by decide) rfl rfl (Nat.le_of_ble_eq_true rfl) ?_
  intro p e s m below meth c ls Q A hx hb hml hts hown hK hN hA hP hD hS hl hsz hnm hret
  have hown : s.vm.findClass RX12 = some m.cls := hown
  have hf9 := hts (.fieldLink RX12 9 "PlumbLineModel" "s" "[I") (List.mem_of_getElem? (i := 1) rfl)
  have hiX12 : ∀ w ∈ u_ws RX12 TX12 18, w ∈ wsX12_days := fun w h => List.mem_cons_of_mem _ (List.mem_append_right _ h)
  replace hl : lv_has ls 2 [(0, .ref (aR 0)), (1, .int x1)] := hl
  have h := hsem
  clear hsem
  rw [S_MD_days] at h
  refine lv_iload_n hx hb dX12_days_0 rfl (lv_at hl 1 rfl) ?_
  refine lv_iconst (v := 1) hx hb dX12_days_1 (by decide) ?_
  refine lv_bipush (v := 60) hx hb dX12_days_2 (by decide) ?_
  refine k_callS (As := [.int x1, .int 1, .int 60]) (rest := []) (st1 := [.int (S_MD_isIn x1 1 60)]) (ws2 := (Wd40 cI aR q_hasImage q_place q_rowAt q_rowEnd q_seed q_thrown q_s)) hx hb hml hown hts hK hN hA hP hD hS hl (c_MD_isIn l D cI cM cS cJ s.heap.size x1 1 60 rfl) gX12_days_X12_isIn rfl kdS_X12_isIn [] ⟨rfl, rfl⟩ ⟨Nat.le_of_ble_eq_true rfl, Nat.le_of_ble_eq_true rfl⟩ ⟨Nat.zero_le _, Nat.zero_le _⟩ rfl rfl (by decide +kernel) rfl rfl rfl (Nat.le_of_ble_eq_true rfl) dX12_days_4 rfl (fun H locs hP hD hS => ?_)
  refine lv_if_ne (tgt := 12) hx hb dX12_days_7 (by decide) (fun c7 => ?_) (fun c7 => ?_)
  · have h := k_neg c7 h
    refine lv_aload_n hx hb dX12_days_12 rfl (lv_at hl 0 rfl) ?_
    refine va_get (D := D) (ci := 12) (v := .ref (aR 1)) (C := RX12) (T := TX12) (N := 18) hx hb hts hiX12 hown hK hP 0 rfl rfl 0 (by decide) hf9 (fun _ z => z) rfl dX12_days_13 ?_
    refine lv_iconst (v := 1) hx hb dX12_days_16 (by decide) ?_
    refine va_iald hx hb hK hP 1 0 rfl rfl (by decide) dX12_days_17 ?_
    refine lv_iload_n hx hb dX12_days_18 rfl (lv_at hl 1 rfl) ?_
    refine lv_iadd hx hb dX12_days_19 ?_
    refine lv_sipush (v := 999) hx hb dX12_days_20 (by decide) ?_
    refine lv_icmp_le (tgt := 29) hx hb dX12_days_23 (by decide) (fun c23 => ?_) (fun c23 => ?_)
    · have h := k_pos c23 h
      refine lv_aload_n hx hb dX12_days_29 rfl (lv_at hl 0 rfl) ?_
      refine va_get (D := D) (ci := 12) (v := .ref (aR 1)) (C := RX12) (T := TX12) (N := 18) hx hb hts hiX12 hown hK hP 0 rfl rfl 0 (by decide) hf9 (fun _ z => z) rfl dX12_days_30 ?_
      refine lv_iload_n hx hb dX12_days_33 rfl (lv_at hl 1 rfl) ?_
      obtain ⟨r34, g34, h⟩ := k_bind h
      refine k_callS (As := [.ref (aR 1), .int x1]) (rest := []) (st1 := []) (ws2 := (Wd40 cI aR q_hasImage q_place q_rowAt q_rowEnd q_seed q_thrown r34)) hx hb hml hown hts hK hN hA hP hD hS hl (c_MD_daysOn l D cI cM cS cJ (aR 1) H.size x1 q_s g34) gX12_days_X12_daysOn rfl kdS_X12_daysOn [1] ⟨rfl, rfl⟩ ⟨Nat.le_of_ble_eq_true rfl, Nat.le_of_ble_eq_true rfl⟩ ⟨Nat.zero_le _, Nat.zero_le _⟩ rfl rfl (by decide +kernel) rfl rfl rfl (Nat.le_of_ble_eq_true rfl) dX12_days_34 rfl (fun H locs hP hD hS => ?_)
      refine lv_aload_n hx hb dX12_days_37 rfl (lv_at hl 0 rfl) ?_
      refine va_get (D := D) (ci := 12) (v := .ref (aR 1)) (C := RX12) (T := TX12) (N := 18) hx hb hts hiX12 hown hK hP 0 rfl rfl 0 (by decide) hf9 (fun _ z => z) rfl dX12_days_38 ?_
      obtain ⟨r41, g41, h⟩ := k_bind h
      refine k_callS (As := [.ref (aR 1)]) (rest := []) (st1 := [.int r41]) (ws2 := (Wd40 cI aR q_hasImage q_place q_rowAt q_rowEnd q_seed q_thrown r34)) hx hb hml hown hts hK hN hA hP hD hS hl (c_MD_upright l D cI cM cS cJ (aR 1) H.size r34 g41) gX12_days_X12_upright rfl kdS_X12_upright [1] ⟨rfl, rfl⟩ ⟨Nat.le_of_ble_eq_true rfl, Nat.le_of_ble_eq_true rfl⟩ ⟨Nat.zero_le _, Nat.zero_le _⟩ rfl rfl (by decide +kernel) rfl rfl rfl (Nat.le_of_ble_eq_true rfl) dX12_days_41 rfl (fun H locs hP hD hS => ?_)
      obtain ⟨r44, g44, h⟩ := k_bind h
      refine k_callS (As := [.int r41]) (rest := []) (st1 := [.int r44]) (ws2 := (Wd40 cI aR q_hasImage q_place q_rowAt q_rowEnd q_seed q_thrown r34)) hx hb hml hown hts hK hN hA hP hD hS hl (c_MD_bits l D cI cM cS cJ H.size r41 g44) gX12_days_X12_bits rfl kdS_X12_bits [] ⟨rfl, rfl⟩ ⟨Nat.le_of_ble_eq_true rfl, Nat.le_of_ble_eq_true rfl⟩ ⟨Nat.zero_le _, Nat.zero_le _⟩ rfl rfl (by decide +kernel) rfl rfl rfl (Nat.le_of_ble_eq_true rfl) dX12_days_44 rfl (fun H locs hP hD hS => ?_)
      cases h
      exact hret _ _ _ _ hP hS dX12_days_47
    · have h := k_neg c23 h
      refine lv_bipush (v := (-3)) hx hb dX12_days_26 (by decide) ?_
      cases h
      exact hret _ _ _ _ hP hS dX12_days_28
  · have h := k_pos c7 h
    refine lv_iconst (v := (-1)) hx hb dX12_days_10 (by decide) ?_
    cases h
    exact hret _ _ _ _ hP hS dX12_days_11
abbrev rm_X12_isLate : Room := { frames := 1, cells := 0, slots := 0, locals := 22 }
set_option maxHeartbeats 4000000 in
set_option maxRecDepth 100000 in
theorem c_MD_isLate (l : Launch) (D : va_G) (cI cM cS cJ : ClassId) (sz : Nat) (x0 : Int32) {o : (Int32)} (hsem : S_MD_isLate x0 = some o) : kMet l yX12_isLate wsX12_isLate rm_X12_isLate [.int x0] D (kT cI cM cS cJ) (Wd0) sz (some (.int o)) (Wd0) := by
  refine k_metZ (by decide) rfl rfl (Nat.le_of_ble_eq_true rfl) ?_
  intro p e s m below meth c ls Q A hx hb hml hts hown hK hN hA hP hD hS hl hsz hnm hret
  have hown : s.vm.findClass RX12 = some m.cls := hown
  replace hl : lv_has ls 1 [(0, .int x0)] := hl
  have h := hsem
  clear hsem
  rw [S_MD_isLate] at h
  refine lv_iload_n hx hb dX12_isLate_0 rfl (lv_at hl 0 rfl) ?_
  refine lv_iconst (v := 0) hx hb dX12_isLate_1 (by decide) ?_
  refine lv_bipush (v := 60) hx hb dX12_isLate_2 (by decide) ?_
  refine k_callS (As := [.int x0, .int 0, .int 60]) (rest := []) (st1 := [.int (S_MD_isIn x0 0 60)]) (ws2 := (Wd0)) hx hb hml hown hts hK hN hA hP hD hS hl (c_MD_isIn l D cI cM cS cJ s.heap.size x0 0 60 rfl) gX12_isLate_X12_isIn rfl kdS_X12_isIn [] ⟨rfl, rfl⟩ ⟨Nat.le_of_ble_eq_true rfl, Nat.le_of_ble_eq_true rfl⟩ ⟨Nat.zero_le _, Nat.zero_le _⟩ rfl rfl (by decide +kernel) rfl rfl rfl (Nat.le_of_ble_eq_true rfl) dX12_isLate_4 rfl (fun H locs hP hD hS => ?_)
  obtain ⟨g7, h⟩ := k_guard h
  cases h
  exact hret _ _ _ _ (k_z01 g7) hP hS dX12_isLate_7
abbrev Wd49 (cI : ClassId) (aR : Nat → Nat) (q_hasImage : Int32) (q_place : Int32) (q_rowAt : Int32) (q_rowEnd : Int32) (q_seed : Int32) (q_thrown : Int32) (q_s : Nat → Int32) (q_m : Nat → Int32) : va_W := [((aR 0), .inr (12, [.ref (aR 1), .ref (aR 2), .ref (aR 3), .ref (aR 4), .int q_hasImage, .int q_place, .int q_rowAt, .int q_rowEnd, .ref (aR 5), .ref (aR 6), .int q_seed, .ref (aR 7), .ref (aR 8), .ref (aR 9), .ref (aR 10), .ref (aR 11), .ref (aR 12), .int q_thrown])), ((aR 1), .inl (cI, 37, .inl q_s)), ((aR 2), .inl (cI, 37, .inl q_m))]
abbrev rm_X12_takes : Room := { frames := 5, cells := 0, slots := 0, locals := 112 }
set_option maxHeartbeats 4000000 in
set_option maxRecDepth 100000 in
theorem c_MD_takes (l : Launch) (D : va_G) (cI cM cS cJ : ClassId) (aR : Nat → Nat) (sz : Nat) (x1 : Int32) (q_hasImage : Int32) (q_place : Int32) (q_rowAt : Int32) (q_rowEnd : Int32) (q_seed : Int32) (q_thrown : Int32) (q_s : Nat → Int32) (q_m : Nat → Int32) {o : (Nat → Int32)} (hsem : S_MD_takes x1 q_s q_m = some o) : kMet l yX12_takes wsX12_takes rm_X12_takes [.ref (aR 0), .int x1] D (kT cI cM cS cJ) (Wd49 cI aR q_hasImage q_place q_rowAt q_rowEnd q_seed q_thrown q_s q_m) sz none (Wd49 cI aR q_hasImage q_place q_rowAt q_rowEnd q_seed q_thrown q_s o) := by
  refine k_metV (by decide) rfl rfl (Nat.le_of_ble_eq_true rfl) ?_
  intro p e s m below meth c ls Q A hx hb hml hts hown hK hN hA hP hD hS hl hsz hnm hret
  have hown : s.vm.findClass RX12 = some m.cls := hown
  have hf9 := hts (.fieldLink RX12 9 "PlumbLineModel" "s" "[I") (List.mem_of_getElem? (i := 1) rfl)
  have hf13 := hts (.fieldLink RX12 13 "PlumbLineModel" "m" "[I") (List.mem_of_getElem? (i := 2) rfl)
  have hiX12 : ∀ w ∈ u_ws RX12 TX12 18, w ∈ wsX12_takes := fun w h => List.mem_cons_of_mem _ (List.mem_append_right _ h)
  replace hl : lv_has ls 2 [(0, .ref (aR 0)), (1, .int x1)] := hl
  have h := hsem
  clear hsem
  rw [S_MD_takes] at h
  refine lv_aload_n hx hb dX12_takes_0 rfl (lv_at hl 0 rfl) ?_
  refine va_get (D := D) (ci := 12) (v := .ref (aR 1)) (C := RX12) (T := TX12) (N := 18) hx hb hts hiX12 hown hK hP 0 rfl rfl 0 (by decide) hf9 (fun _ z => z) rfl dX12_takes_1 ?_
  refine lv_aload_n hx hb dX12_takes_4 rfl (lv_at hl 0 rfl) ?_
  refine va_get (D := D) (ci := 12) (v := .ref (aR 2)) (C := RX12) (T := TX12) (N := 18) hx hb hts hiX12 hown hK hP 0 rfl rfl 1 (by decide) hf13 (fun _ z => z) rfl dX12_takes_5 ?_
  obtain ⟨r8, g8, h⟩ := k_bind h
  refine k_callS (As := [.ref (aR 1), .ref (aR 2)]) (rest := []) (st1 := []) (ws2 := (Wd49 cI aR q_hasImage q_place q_rowAt q_rowEnd q_seed q_thrown q_s r8)) hx hb hml hown hts hK hN hA hP hD hS hl (c_MD_copies l D cI cM cS cJ (aR 1) (aR 2) s.heap.size q_s q_m g8) gX12_takes_X12_copies rfl kdS_X12_copies [1, 2] ⟨rfl, rfl⟩ ⟨Nat.le_of_ble_eq_true rfl, Nat.le_of_ble_eq_true rfl⟩ ⟨Nat.zero_le _, Nat.zero_le _⟩ rfl rfl (by decide +kernel) rfl rfl rfl (Nat.le_of_ble_eq_true rfl) dX12_takes_8 rfl (fun H locs hP hD hS => ?_)
  refine lv_aload_n hx hb dX12_takes_11 rfl (lv_at hl 0 rfl) ?_
  refine va_get (D := D) (ci := 12) (v := .ref (aR 2)) (C := RX12) (T := TX12) (N := 18) hx hb hts hiX12 hown hK hP 0 rfl rfl 1 (by decide) hf13 (fun _ z => z) rfl dX12_takes_12 ?_
  refine lv_iload_n hx hb dX12_takes_15 rfl (lv_at hl 1 rfl) ?_
  obtain ⟨r16, g16, h⟩ := k_bind h
  refine k_callS (As := [.ref (aR 2), .int x1]) (rest := []) (st1 := []) (ws2 := (Wd49 cI aR q_hasImage q_place q_rowAt q_rowEnd q_seed q_thrown q_s r16)) hx hb hml hown hts hK hN hA hP hD hS hl (c_MD_daysOn l D cI cM cS cJ (aR 2) H.size x1 r8 g16) gX12_takes_X12_daysOn rfl kdS_X12_daysOn [2] ⟨rfl, rfl⟩ ⟨Nat.le_of_ble_eq_true rfl, Nat.le_of_ble_eq_true rfl⟩ ⟨Nat.zero_le _, Nat.zero_le _⟩ rfl rfl (by decide +kernel) rfl rfl rfl (Nat.le_of_ble_eq_true rfl) dX12_takes_16 rfl (fun H locs hP hD hS => ?_)
  cases h
  exact hret _ _ _ _ hP hS dX12_takes_19
theorem kdS_X12_isLate : yX12_isLate.cls ≠ "java/lang/invoke/MethodHandle" ∧ yX12_isLate.cls ≠ "java/lang/invoke/VarHandle" ∧ (parseMethodDescriptor yX12_isLate.desc).map (fun d => d.parameters.length) = some 1 := by decide +kernel
theorem kdV_X12_takes : yX12_takes.cls = RX12 ∧ yX12_takes.cls ≠ "java/lang/invoke/MethodHandle" ∧ yX12_takes.cls ≠ "java/lang/invoke/VarHandle" ∧ (parseMethodDescriptor yX12_takes.desc).map (fun d => d.parameters.length) = some 1 := by decide +kernel
abbrev rm_X12_leanThen : Room := { frames := 6, cells := 0, slots := 0, locals := 133 }
set_option maxHeartbeats 4000000 in
set_option maxRecDepth 100000 in
theorem c_MD_leanThen (l : Launch) (D : va_G) (cI cM cS cJ : ClassId) (aR : Nat → Nat) (sz : Nat) (x1 : Int32) (x2 : Int32) (q_hasImage : Int32) (q_place : Int32) (q_rowAt : Int32) (q_rowEnd : Int32) (q_seed : Int32) (q_thrown : Int32) (q_s : Nat → Int32) (q_m : Nat → Int32) {o : (Int32) × (Nat → Int32)} (hsem : S_MD_leanThen x1 x2 q_s q_m = some o) : kMet l yX12_leanThen wsX12_leanThen rm_X12_leanThen [.ref (aR 0), .int x1, .int x2] D (kT cI cM cS cJ) (Wd49 cI aR q_hasImage q_place q_rowAt q_rowEnd q_seed q_thrown q_s q_m) sz (some (.int o.1)) (Wd49 cI aR q_hasImage q_place q_rowAt q_rowEnd q_seed q_thrown q_s o.2) := by
  refine k_metI (by decide) rfl rfl (Nat.le_of_ble_eq_true rfl) ?_
  intro p e s m below meth c ls Q A hx hb hml hts hown hK hN hA hP hD hS hl hsz hnm hret
  have hown : s.vm.findClass RX12 = some m.cls := hown
  have hf13 := hts (.fieldLink RX12 13 "PlumbLineModel" "m" "[I") (List.mem_of_getElem? (i := 2) rfl)
  have hiX12 : ∀ w ∈ u_ws RX12 TX12 18, w ∈ wsX12_leanThen := fun w h => List.mem_cons_of_mem _ (List.mem_append_right _ h)
  replace hl : lv_has ls 3 [(0, .ref (aR 0)), (1, .int x1), (2, .int x2)] := hl
  have h := hsem
  clear hsem
  rw [S_MD_leanThen] at h
  refine lv_aload_n hx hb dX12_leanThen_0 rfl (lv_at hl 0 rfl) ?_
  refine lv_iload_n hx hb dX12_leanThen_1 rfl (lv_at hl 1 rfl) ?_
  obtain ⟨r2, g2, h⟩ := k_bind h
  refine k_callV (As := [.int x1]) (rest := []) (st1 := [.int r2]) (ws2 := (Wd49 cI aR q_hasImage q_place q_rowAt q_rowEnd q_seed q_thrown q_s q_m)) hx hb hml hown hts hK hN hA hP hD hS hl (c_MD_isMan l D cI cM cS cJ aR s.heap.size x1 q_hasImage q_place q_rowAt q_rowEnd q_seed q_thrown q_s g2) gX12_leanThen_X12_isMan rfl kdV_X12_isMan 0 12 rfl rfl rfl [0, 1] ⟨rfl, rfl⟩ ⟨Nat.le_of_ble_eq_true rfl, Nat.le_of_ble_eq_true rfl⟩ ⟨Nat.zero_le _, Nat.zero_le _⟩ rfl rfl (by decide +kernel) rfl rfl rfl (Nat.le_of_ble_eq_true rfl) dX12_leanThen_2 rfl (fun H locs hP hD hS => ?_)
  refine lv_if_eq (tgt := 15) hx hb dX12_leanThen_5 (by decide) (fun c5 => ?_) (fun c5 => ?_)
  · have h := k_pos c5 h
    refine lv_ldc (v := 1000000001) hx hb hown (hts (.constant RX12 155 1000000001) (List.mem_of_getElem? (i := 1) rfl)) dX12_leanThen_15 ?_
    cases h
    exact hret _ _ _ _ hP hS dX12_leanThen_17
  · have h := k_neg c5 h
    refine lv_iload_n hx hb dX12_leanThen_8 rfl (lv_at hl 2 rfl) ?_
    obtain ⟨r9, g9, h⟩ := k_bind h
    refine k_callS (As := [.int x2]) (rest := []) (st1 := [.int r9]) (ws2 := (Wd49 cI aR q_hasImage q_place q_rowAt q_rowEnd q_seed q_thrown q_s q_m)) hx hb hml hown hts hK hN hA hP hD hS hl (c_MD_isLate l D cI cM cS cJ H.size x2 g9) gX12_leanThen_X12_isLate rfl kdS_X12_isLate [] ⟨rfl, rfl⟩ ⟨Nat.le_of_ble_eq_true rfl, Nat.le_of_ble_eq_true rfl⟩ ⟨Nat.zero_le _, Nat.zero_le _⟩ rfl rfl (by decide +kernel) rfl rfl rfl (Nat.le_of_ble_eq_true rfl) dX12_leanThen_9 rfl (fun H locs hP hD hS => ?_)
    refine lv_if_ne (tgt := 18) hx hb dX12_leanThen_12 (by decide) (fun c12 => ?_) (fun c12 => ?_)
    · have h := k_neg c12 h
      refine lv_aload_n hx hb dX12_leanThen_18 rfl (lv_at hl 0 rfl) ?_
      refine lv_iload_n hx hb dX12_leanThen_19 rfl (lv_at hl 2 rfl) ?_
      obtain ⟨r20, g20, h⟩ := k_bind h
      refine k_callV (As := [.int x2]) (rest := []) (st1 := []) (ws2 := (Wd49 cI aR q_hasImage q_place q_rowAt q_rowEnd q_seed q_thrown q_s r20)) hx hb hml hown hts hK hN hA hP hD hS hl (c_MD_takes l D cI cM cS cJ aR H.size x2 q_hasImage q_place q_rowAt q_rowEnd q_seed q_thrown q_s q_m g20) gX12_leanThen_X12_takes rfl kdV_X12_takes 0 12 rfl rfl rfl [0, 1, 2] ⟨rfl, rfl⟩ ⟨Nat.le_of_ble_eq_true rfl, Nat.le_of_ble_eq_true rfl⟩ ⟨Nat.zero_le _, Nat.zero_le _⟩ rfl rfl (by decide +kernel) rfl rfl rfl (Nat.le_of_ble_eq_true rfl) dX12_leanThen_20 rfl (fun H locs hP hD hS => ?_)
      refine lv_aload_n hx hb dX12_leanThen_23 rfl (lv_at hl 0 rfl) ?_
      refine va_get (D := D) (ci := 12) (v := .ref (aR 2)) (C := RX12) (T := TX12) (N := 18) hx hb hts hiX12 hown hK hP 0 rfl rfl 1 (by decide) hf13 (fun _ z => z) rfl dX12_leanThen_24 ?_
      refine lv_iload_n hx hb dX12_leanThen_27 rfl (lv_at hl 1 rfl) ?_
      refine lv_iconst (v := 2) hx hb dX12_leanThen_28 (by decide) ?_
      refine k_callS (As := [.int x1, .int 2]) (rest := [.ref (aR 2)]) (st1 := [.int (S_MD_of x1 2), .ref (aR 2)]) (ws2 := (Wd49 cI aR q_hasImage q_place q_rowAt q_rowEnd q_seed q_thrown q_s r20)) hx hb hml hown hts hK hN hA hP hD hS hl (c_MD_of l D cI cM cS cJ H.size x1 2 rfl) gX12_leanThen_X12_of rfl kdS_X12_of [] ⟨rfl, rfl⟩ ⟨Nat.le_of_ble_eq_true rfl, Nat.le_of_ble_eq_true rfl⟩ ⟨Nat.zero_le _, Nat.zero_le _⟩ rfl rfl (by decide +kernel) rfl rfl rfl (Nat.le_of_ble_eq_true rfl) dX12_leanThen_29 rfl (fun H locs hP hD hS => ?_)
      obtain ⟨g32, h⟩ := k_guard h
      refine va_iald hx hb hK hP 2 0 rfl rfl g32 dX12_leanThen_32 ?_
      cases h
      exact hret _ _ _ _ hP hS dX12_leanThen_33
    · have h := k_pos c12 h
      refine lv_ldc (v := 1000000001) hx hb hown (hts (.constant RX12 155 1000000001) (List.mem_of_getElem? (i := 1) rfl)) dX12_leanThen_15 ?_
      cases h
      exact hret _ _ _ _ hP hS dX12_leanThen_17
abbrev rm_X12_then : Room := { frames := 6, cells := 0, slots := 0, locals := 133 }
set_option maxHeartbeats 4000000 in
set_option maxRecDepth 100000 in
theorem c_MD_then (l : Launch) (D : va_G) (cI cM cS cJ : ClassId) (aR : Nat → Nat) (sz : Nat) (x1 : Int32) (x2 : Int32) (q_hasImage : Int32) (q_place : Int32) (q_rowAt : Int32) (q_rowEnd : Int32) (q_seed : Int32) (q_thrown : Int32) (q_s : Nat → Int32) (q_m : Nat → Int32) {o : (Int32) × (Nat → Int32)} (hsem : S_MD_then x1 x2 q_s q_m = some o) : kMet l yX12_then wsX12_then rm_X12_then [.ref (aR 0), .int x1, .int x2] D (kT cI cM cS cJ) (Wd49 cI aR q_hasImage q_place q_rowAt q_rowEnd q_seed q_thrown q_s q_m) sz (some (.int o.1)) (Wd49 cI aR q_hasImage q_place q_rowAt q_rowEnd q_seed q_thrown q_s o.2) := by
  refine k_metI (by decide) rfl rfl (Nat.le_of_ble_eq_true rfl) ?_
  intro p e s m below meth c ls Q A hx hb hml hts hown hK hN hA hP hD hS hl hsz hnm hret
  have hown : s.vm.findClass RX12 = some m.cls := hown
  have hf13 := hts (.fieldLink RX12 13 "PlumbLineModel" "m" "[I") (List.mem_of_getElem? (i := 1) rfl)
  have hiX12 : ∀ w ∈ u_ws RX12 TX12 18, w ∈ wsX12_then := fun w h => List.mem_cons_of_mem _ (List.mem_append_right _ h)
  replace hl : lv_has ls 3 [(0, .ref (aR 0)), (1, .int x1), (2, .int x2)] := hl
  have h := hsem
  clear hsem
  rw [S_MD_then] at h
  refine lv_iload_n hx hb dX12_then_0 rfl (lv_at hl 1 rfl) ?_
  obtain ⟨r1, g1, h⟩ := k_bind h
  refine k_callS (As := [.int x1]) (rest := []) (st1 := [.int r1]) (ws2 := (Wd49 cI aR q_hasImage q_place q_rowAt q_rowEnd q_seed q_thrown q_s q_m)) hx hb hml hown hts hK hN hA hP hD hS hl (c_MD_isLate l D cI cM cS cJ s.heap.size x1 g1) gX12_then_X12_isLate rfl kdS_X12_isLate [] ⟨rfl, rfl⟩ ⟨Nat.le_of_ble_eq_true rfl, Nat.le_of_ble_eq_true rfl⟩ ⟨Nat.zero_le _, Nat.zero_le _⟩ rfl rfl (by decide +kernel) rfl rfl rfl (Nat.le_of_ble_eq_true rfl) dX12_then_1 rfl (fun H locs hP hD hS => ?_)
  refine lv_if_eq (tgt := 16) hx hb dX12_then_4 (by decide) (fun c4 => ?_) (fun c4 => ?_)
  · have h := k_pos c4 h
    refine lv_iconst (v := (-1)) hx hb dX12_then_16 (by decide) ?_
    cases h
    exact hret _ _ _ _ hP hS dX12_then_17
  · have h := k_neg c4 h
    refine lv_iload_n hx hb dX12_then_7 rfl (lv_at hl 2 rfl) ?_
    refine lv_iconst (v := 0) hx hb dX12_then_8 (by decide) ?_
    refine lv_iconst (v := 3) hx hb dX12_then_9 (by decide) ?_
    refine k_callS (As := [.int x2, .int 0, .int 3]) (rest := []) (st1 := [.int (S_MD_isIn x2 0 3)]) (ws2 := (Wd49 cI aR q_hasImage q_place q_rowAt q_rowEnd q_seed q_thrown q_s q_m)) hx hb hml hown hts hK hN hA hP hD hS hl (c_MD_isIn l D cI cM cS cJ H.size x2 0 3 rfl) gX12_then_X12_isIn rfl kdS_X12_isIn [] ⟨rfl, rfl⟩ ⟨Nat.le_of_ble_eq_true rfl, Nat.le_of_ble_eq_true rfl⟩ ⟨Nat.zero_le _, Nat.zero_le _⟩ rfl rfl (by decide +kernel) rfl rfl rfl (Nat.le_of_ble_eq_true rfl) dX12_then_10 rfl (fun H locs hP hD hS => ?_)
    refine lv_if_ne (tgt := 18) hx hb dX12_then_13 (by decide) (fun c13 => ?_) (fun c13 => ?_)
    · have h := k_neg c13 h
      refine lv_aload_n hx hb dX12_then_18 rfl (lv_at hl 0 rfl) ?_
      refine lv_iload_n hx hb dX12_then_19 rfl (lv_at hl 1 rfl) ?_
      obtain ⟨r20, g20, h⟩ := k_bind h
      refine k_callV (As := [.int x1]) (rest := []) (st1 := []) (ws2 := (Wd49 cI aR q_hasImage q_place q_rowAt q_rowEnd q_seed q_thrown q_s r20)) hx hb hml hown hts hK hN hA hP hD hS hl (c_MD_takes l D cI cM cS cJ aR H.size x1 q_hasImage q_place q_rowAt q_rowEnd q_seed q_thrown q_s q_m g20) gX12_then_X12_takes rfl kdV_X12_takes 0 12 rfl rfl rfl [0, 1, 2] ⟨rfl, rfl⟩ ⟨Nat.le_of_ble_eq_true rfl, Nat.le_of_ble_eq_true rfl⟩ ⟨Nat.zero_le _, Nat.zero_le _⟩ rfl rfl (by decide +kernel) rfl rfl rfl (Nat.le_of_ble_eq_true rfl) dX12_then_20 rfl (fun H locs hP hD hS => ?_)
      refine lv_iload_n hx hb dX12_then_23 rfl (lv_at hl 2 rfl) ?_
      refine lv_iconst (v := 3) hx hb dX12_then_24 (by decide) ?_
      refine lv_icmp_ne (tgt := 38) hx hb dX12_then_25 (by decide) (fun c25 => ?_) (fun c25 => ?_)
      · have h := k_neg c25 h
        refine lv_aload_n hx hb dX12_then_38 rfl (lv_at hl 0 rfl) ?_
        refine va_get (D := D) (ci := 12) (v := .ref (aR 2)) (C := RX12) (T := TX12) (N := 18) hx hb hts hiX12 hown hK hP 0 rfl rfl 1 (by decide) hf13 (fun _ z => z) rfl dX12_then_39 ?_
        refine lv_iconst (v := 2) hx hb dX12_then_42 (by decide) ?_
        refine lv_iload_n hx hb dX12_then_43 rfl (lv_at hl 2 rfl) ?_
        refine lv_iadd hx hb dX12_then_44 ?_
        obtain ⟨g45, h⟩ := k_guard h
        refine va_iald hx hb hK hP 2 0 rfl rfl g45 dX12_then_45 ?_
        cases h
        exact hret _ _ _ _ hP hS dX12_then_46
      · have h := k_pos c25 h
        refine lv_aload_n hx hb dX12_then_28 rfl (lv_at hl 0 rfl) ?_
        refine va_get (D := D) (ci := 12) (v := .ref (aR 2)) (C := RX12) (T := TX12) (N := 18) hx hb hts hiX12 hown hK hP 0 rfl rfl 1 (by decide) hf13 (fun _ z => z) rfl dX12_then_29 ?_
        obtain ⟨r32, g32, h⟩ := k_bind h
        refine k_callS (As := [.ref (aR 2)]) (rest := []) (st1 := [.int r32]) (ws2 := (Wd49 cI aR q_hasImage q_place q_rowAt q_rowEnd q_seed q_thrown q_s r20)) hx hb hml hown hts hK hN hA hP hD hS hl (c_MD_upright l D cI cM cS cJ (aR 2) H.size r20 g32) gX12_then_X12_upright rfl kdS_X12_upright [2] ⟨rfl, rfl⟩ ⟨Nat.le_of_ble_eq_true rfl, Nat.le_of_ble_eq_true rfl⟩ ⟨Nat.zero_le _, Nat.zero_le _⟩ rfl rfl (by decide +kernel) rfl rfl rfl (Nat.le_of_ble_eq_true rfl) dX12_then_32 rfl (fun H locs hP hD hS => ?_)
        refine lv_goto (tgt := 46) hx hb dX12_then_35 (by decide) ?_
        cases h
        exact hret _ _ _ _ hP hS dX12_then_46
    · have h := k_pos c13 h
      refine lv_iconst (v := (-1)) hx hb dX12_then_16 (by decide) ?_
      cases h
      exact hret _ _ _ _ hP hS dX12_then_17
abbrev rm_X12_straight : Room := { frames := 4, cells := 0, slots := 0, locals := 90 }
set_option maxHeartbeats 4000000 in
set_option maxRecDepth 100000 in
theorem c_MD_straight (l : Launch) (D : va_G) (cI cM cS cJ : ClassId) (aR : Nat → Nat) (sz : Nat) (x1 : Int32) (q_hasImage : Int32) (q_place : Int32) (q_rowAt : Int32) (q_rowEnd : Int32) (q_seed : Int32) (q_thrown : Int32) (q_s : Nat → Int32) (q_m : Nat → Int32) {o : (Int32) × (Nat → Int32)} (hsem : S_MD_straight x1 q_s q_m = some o) : kMet l yX12_straight wsX12_straight rm_X12_straight [.ref (aR 0), .int x1] D (kT cI cM cS cJ) (Wd49 cI aR q_hasImage q_place q_rowAt q_rowEnd q_seed q_thrown q_s q_m) sz (some (.int o.1)) (Wd49 cI aR q_hasImage q_place q_rowAt q_rowEnd q_seed q_thrown q_s o.2) := by
  refine k_metI (by decide) rfl rfl (Nat.le_of_ble_eq_true rfl) ?_
  intro p e s m below meth c ls Q A hx hb hml hts hown hK hN hA hP hD hS hl hsz hnm hret
  have hown : s.vm.findClass RX12 = some m.cls := hown
  have hf9 := hts (.fieldLink RX12 9 "PlumbLineModel" "s" "[I") (List.mem_of_getElem? (i := 1) rfl)
  have hf13 := hts (.fieldLink RX12 13 "PlumbLineModel" "m" "[I") (List.mem_of_getElem? (i := 2) rfl)
  have hiX12 : ∀ w ∈ u_ws RX12 TX12 18, w ∈ wsX12_straight := fun w h => List.mem_cons_of_mem _ (List.mem_append_right _ h)
  replace hl : lv_has ls 3 [(0, .ref (aR 0)), (1, .int x1)] := hl
  have h := hsem
  clear hsem
  rw [S_MD_straight] at h
  refine lv_aload_n hx hb dX12_straight_0 rfl (lv_at hl 0 rfl) ?_
  refine lv_iload_n hx hb dX12_straight_1 rfl (lv_at hl 1 rfl) ?_
  obtain ⟨r2, g2, h⟩ := k_bind h
  refine k_callV (As := [.int x1]) (rest := []) (st1 := [.int r2]) (ws2 := (Wd49 cI aR q_hasImage q_place q_rowAt q_rowEnd q_seed q_thrown q_s q_m)) hx hb hml hown hts hK hN hA hP hD hS hl (c_MD_isMan l D cI cM cS cJ aR s.heap.size x1 q_hasImage q_place q_rowAt q_rowEnd q_seed q_thrown q_s g2) gX12_straight_X12_isMan rfl kdV_X12_isMan 0 12 rfl rfl rfl [0, 1] ⟨rfl, rfl⟩ ⟨Nat.le_of_ble_eq_true rfl, Nat.le_of_ble_eq_true rfl⟩ ⟨Nat.zero_le _, Nat.zero_le _⟩ rfl rfl (by decide +kernel) rfl rfl rfl (Nat.le_of_ble_eq_true rfl) dX12_straight_2 rfl (fun H locs hP hD hS => ?_)
  refine lv_if_ne (tgt := 10) hx hb dX12_straight_5 (by decide) (fun c5 => ?_) (fun c5 => ?_)
  · have h := k_neg c5 h
    refine lv_aload_n hx hb dX12_straight_10 rfl (lv_at hl 0 rfl) ?_
    refine va_get (D := D) (ci := 12) (v := .ref (aR 1)) (C := RX12) (T := TX12) (N := 18) hx hb hts hiX12 hown hK hP 0 rfl rfl 0 (by decide) hf9 (fun _ z => z) rfl dX12_straight_11 ?_
    refine lv_aload_n hx hb dX12_straight_14 rfl (lv_at hl 0 rfl) ?_
    refine va_get (D := D) (ci := 12) (v := .ref (aR 2)) (C := RX12) (T := TX12) (N := 18) hx hb hts hiX12 hown hK hP 0 rfl rfl 1 (by decide) hf13 (fun _ z => z) rfl dX12_straight_15 ?_
    obtain ⟨r18, g18, h⟩ := k_bind h
    refine k_callS (As := [.ref (aR 1), .ref (aR 2)]) (rest := []) (st1 := []) (ws2 := (Wd49 cI aR q_hasImage q_place q_rowAt q_rowEnd q_seed q_thrown q_s r18)) hx hb hml hown hts hK hN hA hP hD hS hl (c_MD_copies l D cI cM cS cJ (aR 1) (aR 2) H.size q_s q_m g18) gX12_straight_X12_copies rfl kdS_X12_copies [1, 2] ⟨rfl, rfl⟩ ⟨Nat.le_of_ble_eq_true rfl, Nat.le_of_ble_eq_true rfl⟩ ⟨Nat.zero_le _, Nat.zero_le _⟩ rfl rfl (by decide +kernel) rfl rfl rfl (Nat.le_of_ble_eq_true rfl) dX12_straight_18 rfl (fun H locs hP hD hS => ?_)
    refine lv_iconst (v := 0) hx hb dX12_straight_21 (by decide) ?_
    have B23 : ∀ (n23 : Nat) (y2 : Int32) (q_m : Nat → Int32) (H : Heap) (locs : List Loc) (ls : Array Slot), va_P D vwCl (Wd49 cI aR q_hasImage q_place q_rowAt q_rowEnd q_seed q_thrown q_s q_m) H → va_D A (Wd49 cI aR q_hasImage q_place q_rowAt q_rowEnd q_seed q_thrown q_s q_m) → va_S A s.heap H locs → lv_has ls 3 [(0, .ref (aR 0)), (1, .int x1), (2, .int y2)] → S_MD_straight_L23 x1 n23 y2 q_m = some o → W p l e rm_X12_straight s m ([.ref (aR 0), .int x1] : List Value).toArray below meth c H locs 0 0 Q (F0 m 23 ls []) := by
      intro n23
      induction n23 with
      | zero => intro y2 q_m H locs ls hP hD hS hl h; exact absurd h (by simp [S_MD_straight_L23])
      | succ n23 ih23 =>
        intro y2 q_m H locs ls hP hD hS hl h
        rw [S_MD_straight_L23] at h
        refine lv_iload_n hx hb dX12_straight_23 rfl (lv_at hl 2 rfl) ?_
        refine lv_bipush (v := 60) hx hb dX12_straight_24 (by decide) ?_
        refine lv_icmp_gt (tgt := 57) hx hb dX12_straight_26 (by decide) (fun c26 => ?_) (fun c26 => ?_)
        · have h := k_pos c26 h
          refine lv_bipush (v := (-4)) hx hb dX12_straight_57 (by decide) ?_
          cases h
          exact hret _ _ _ _ hP hS dX12_straight_59
        · have h := k_neg c26 h
          refine lv_aload_n hx hb dX12_straight_29 rfl (lv_at hl 0 rfl) ?_
          refine va_get (D := D) (ci := 12) (v := .ref (aR 2)) (C := RX12) (T := TX12) (N := 18) hx hb hts hiX12 hown hK hP 0 rfl rfl 1 (by decide) hf13 (fun _ z => z) rfl dX12_straight_30 ?_
          refine lv_iload_n hx hb dX12_straight_33 rfl (lv_at hl 1 rfl) ?_
          refine lv_iconst (v := 2) hx hb dX12_straight_34 (by decide) ?_
          refine k_callS (As := [.int x1, .int 2]) (rest := [.ref (aR 2)]) (st1 := [.int (S_MD_of x1 2), .ref (aR 2)]) (ws2 := (Wd49 cI aR q_hasImage q_place q_rowAt q_rowEnd q_seed q_thrown q_s q_m)) hx hb hml hown hts hK hN hA hP hD hS hl (c_MD_of l D cI cM cS cJ H.size x1 2 rfl) gX12_straight_X12_of rfl kdS_X12_of [] ⟨rfl, rfl⟩ ⟨Nat.le_of_ble_eq_true rfl, Nat.le_of_ble_eq_true rfl⟩ ⟨Nat.zero_le _, Nat.zero_le _⟩ rfl rfl (by decide +kernel) rfl rfl rfl (Nat.le_of_ble_eq_true rfl) dX12_straight_35 rfl (fun H locs hP hD hS => ?_)
          obtain ⟨g38, h⟩ := k_guard h
          refine va_iald hx hb hK hP 2 0 rfl rfl g38 dX12_straight_38 ?_
          refine lv_if_ne (tgt := 44) hx hb dX12_straight_39 (by decide) (fun c39 => ?_) (fun c39 => ?_)
          · have h := k_neg c39 h
            refine lv_aload_n hx hb dX12_straight_44 rfl (lv_at hl 0 rfl) ?_
            refine va_get (D := D) (ci := 12) (v := .ref (aR 2)) (C := RX12) (T := TX12) (N := 18) hx hb hts hiX12 hown hK hP 0 rfl rfl 1 (by decide) hf13 (fun _ z => z) rfl dX12_straight_45 ?_
            obtain ⟨r48, g48, h⟩ := k_bind h
            refine k_callS (As := [.ref (aR 2)]) (rest := []) (st1 := []) (ws2 := (Wd49 cI aR q_hasImage q_place q_rowAt q_rowEnd q_seed q_thrown q_s r48)) hx hb hml hown hts hK hN hA hP hD hS hl (c_MD_day l D cI cM cS cJ (aR 2) H.size q_m g48) gX12_straight_X12_day rfl kdS_X12_day [2] ⟨rfl, rfl⟩ ⟨Nat.le_of_ble_eq_true rfl, Nat.le_of_ble_eq_true rfl⟩ ⟨Nat.zero_le _, Nat.zero_le _⟩ rfl rfl (by decide +kernel) rfl rfl rfl (Nat.le_of_ble_eq_true rfl) dX12_straight_48 rfl (fun H locs hP hD hS => ?_)
            refine lv_iinc (v := (y2 + 1)) (lv' := [(2, .int (y2 + 1)), (0, .ref (aR 0)), (1, .int x1)]) hx hb dX12_straight_51 hl (k := 2) rfl (by first | rfl | decide) (by decide) rfl (fun ls hl => ?_)
            refine lv_goto (tgt := 23) hx hb dX12_straight_54 (by decide) ?_
            exact ih23 (y2 + 1) r48 H locs ls hP hD hS (lv_sub hl [1, 2, 0] rfl) h
          · have h := k_pos c39 h
            refine lv_iload_n hx hb dX12_straight_42 rfl (lv_at hl 2 rfl) ?_
            cases h
            exact hret _ _ _ _ hP hS dX12_straight_43
    refine lv_istore_n (lv' := [(2, .int 0), (0, .ref (aR 0)), (1, .int x1)]) hx hb dX12_straight_22 rfl hl (by decide) rfl (fun ls hl => ?_)
    exact B23 lfu 0 r18 H locs ls hP hD hS (lv_sub hl [1, 2, 0] rfl) h
  · have h := k_pos c5 h
    refine lv_iconst (v := (-1)) hx hb dX12_straight_8 (by decide) ?_
    cases h
    exact hret _ _ _ _ hP hS dX12_straight_9
abbrev rm_X12_firstCrash : Room := { frames := 4, cells := 0, slots := 0, locals := 90 }
set_option maxHeartbeats 4000000 in
set_option maxRecDepth 100000 in
theorem c_MD_firstCrash (l : Launch) (D : va_G) (cI cM cS cJ : ClassId) (aR : Nat → Nat) (sz : Nat) (q_hasImage : Int32) (q_place : Int32) (q_rowAt : Int32) (q_rowEnd : Int32) (q_seed : Int32) (q_thrown : Int32) (q_s : Nat → Int32) (q_m : Nat → Int32) {o : (Int32) × (Nat → Int32)} (hsem : S_MD_firstCrash q_s q_m = some o) : kMet l yX12_firstCrash wsX12_firstCrash rm_X12_firstCrash [.ref (aR 0)] D (kT cI cM cS cJ) (Wd49 cI aR q_hasImage q_place q_rowAt q_rowEnd q_seed q_thrown q_s q_m) sz (some (.int o.1)) (Wd49 cI aR q_hasImage q_place q_rowAt q_rowEnd q_seed q_thrown q_s o.2) := by
  refine k_metI (by decide) rfl rfl (Nat.le_of_ble_eq_true rfl) ?_
  intro p e s m below meth c ls Q A hx hb hml hts hown hK hN hA hP hD hS hl hsz hnm hret
  have hown : s.vm.findClass RX12 = some m.cls := hown
  have hf9 := hts (.fieldLink RX12 9 "PlumbLineModel" "s" "[I") (List.mem_of_getElem? (i := 1) rfl)
  have hf13 := hts (.fieldLink RX12 13 "PlumbLineModel" "m" "[I") (List.mem_of_getElem? (i := 2) rfl)
  have hiX12 : ∀ w ∈ u_ws RX12 TX12 18, w ∈ wsX12_firstCrash := fun w h => List.mem_cons_of_mem _ (List.mem_append_right _ h)
  replace hl : lv_has ls 2 [(0, .ref (aR 0))] := hl
  have h := hsem
  clear hsem
  rw [S_MD_firstCrash] at h
  refine lv_aload_n hx hb dX12_firstCrash_0 rfl (lv_at hl 0 rfl) ?_
  refine va_get (D := D) (ci := 12) (v := .ref (aR 1)) (C := RX12) (T := TX12) (N := 18) hx hb hts hiX12 hown hK hP 0 rfl rfl 0 (by decide) hf9 (fun _ z => z) rfl dX12_firstCrash_1 ?_
  refine lv_aload_n hx hb dX12_firstCrash_4 rfl (lv_at hl 0 rfl) ?_
  refine va_get (D := D) (ci := 12) (v := .ref (aR 2)) (C := RX12) (T := TX12) (N := 18) hx hb hts hiX12 hown hK hP 0 rfl rfl 1 (by decide) hf13 (fun _ z => z) rfl dX12_firstCrash_5 ?_
  obtain ⟨r8, g8, h⟩ := k_bind h
  refine k_callS (As := [.ref (aR 1), .ref (aR 2)]) (rest := []) (st1 := []) (ws2 := (Wd49 cI aR q_hasImage q_place q_rowAt q_rowEnd q_seed q_thrown q_s r8)) hx hb hml hown hts hK hN hA hP hD hS hl (c_MD_copies l D cI cM cS cJ (aR 1) (aR 2) s.heap.size q_s q_m g8) gX12_firstCrash_X12_copies rfl kdS_X12_copies [1, 2] ⟨rfl, rfl⟩ ⟨Nat.le_of_ble_eq_true rfl, Nat.le_of_ble_eq_true rfl⟩ ⟨Nat.zero_le _, Nat.zero_le _⟩ rfl rfl (by decide +kernel) rfl rfl rfl (Nat.le_of_ble_eq_true rfl) dX12_firstCrash_8 rfl (fun H locs hP hD hS => ?_)
  refine lv_aload_n hx hb dX12_firstCrash_11 rfl (lv_at hl 0 rfl) ?_
  refine va_get (D := D) (ci := 12) (v := .ref (aR 2)) (C := RX12) (T := TX12) (N := 18) hx hb hts hiX12 hown hK hP 0 rfl rfl 1 (by decide) hf13 (fun _ z => z) rfl dX12_firstCrash_12 ?_
  refine lv_iconst (v := 4) hx hb dX12_firstCrash_15 (by decide) ?_
  refine lv_iconst (v := 0) hx hb dX12_firstCrash_16 (by decide) ?_
  refine va_iast hx hb hK hP hD hS 2 0 rfl rfl (by decide) dX12_firstCrash_17 (fun H locs hP hD hS => ?_)
  replace hP : va_P D vwCl (Wd49 cI aR q_hasImage q_place q_rowAt q_rowEnd q_seed q_thrown q_s (upd r8 (4 : Int32).toNatClampNeg 0)) H := hP
  replace hD : va_D A (Wd49 cI aR q_hasImage q_place q_rowAt q_rowEnd q_seed q_thrown q_s (upd r8 (4 : Int32).toNatClampNeg 0)) := hD
  refine lv_iconst (v := 1) hx hb dX12_firstCrash_18 (by decide) ?_
  have B20 : ∀ (n20 : Nat) (y1 : Int32) (q_m : Nat → Int32) (H : Heap) (locs : List Loc) (ls : Array Slot), va_P D vwCl (Wd49 cI aR q_hasImage q_place q_rowAt q_rowEnd q_seed q_thrown q_s q_m) H → va_D A (Wd49 cI aR q_hasImage q_place q_rowAt q_rowEnd q_seed q_thrown q_s q_m) → va_S A s.heap H locs → lv_has ls 2 [(0, .ref (aR 0)), (1, .int y1)] → S_MD_firstCrash_L20 n20 y1 q_m = some o → W p l e rm_X12_firstCrash s m ([.ref (aR 0)] : List Value).toArray below meth c H locs 0 0 Q (F0 m 20 ls []) := by
    intro n20
    induction n20 with
    | zero => intro y1 q_m H locs ls hP hD hS hl h; exact absurd h (by simp [S_MD_firstCrash_L20])
    | succ n20 ih20 =>
      intro y1 q_m H locs ls hP hD hS hl h
      rw [S_MD_firstCrash_L20] at h
      refine lv_iload_n hx hb dX12_firstCrash_20 rfl (lv_at hl 1 rfl) ?_
      refine lv_bipush (v := 60) hx hb dX12_firstCrash_21 (by decide) ?_
      refine lv_icmp_gt (tgt := 50) hx hb dX12_firstCrash_23 (by decide) (fun c23 => ?_) (fun c23 => ?_)
      · have h := k_pos c23 h
        refine lv_bipush (v := (-4)) hx hb dX12_firstCrash_50 (by decide) ?_
        cases h
        exact hret _ _ _ _ hP hS dX12_firstCrash_52
      · have h := k_neg c23 h
        refine lv_aload_n hx hb dX12_firstCrash_26 rfl (lv_at hl 0 rfl) ?_
        refine va_get (D := D) (ci := 12) (v := .ref (aR 2)) (C := RX12) (T := TX12) (N := 18) hx hb hts hiX12 hown hK hP 0 rfl rfl 1 (by decide) hf13 (fun _ z => z) rfl dX12_firstCrash_27 ?_
        obtain ⟨r30, g30, h⟩ := k_bind h
        refine k_callS (As := [.ref (aR 2)]) (rest := []) (st1 := []) (ws2 := (Wd49 cI aR q_hasImage q_place q_rowAt q_rowEnd q_seed q_thrown q_s r30)) hx hb hml hown hts hK hN hA hP hD hS hl (c_MD_day l D cI cM cS cJ (aR 2) H.size q_m g30) gX12_firstCrash_X12_day rfl kdS_X12_day [2] ⟨rfl, rfl⟩ ⟨Nat.le_of_ble_eq_true rfl, Nat.le_of_ble_eq_true rfl⟩ ⟨Nat.zero_le _, Nat.zero_le _⟩ rfl rfl (by decide +kernel) rfl rfl rfl (Nat.le_of_ble_eq_true rfl) dX12_firstCrash_30 rfl (fun H locs hP hD hS => ?_)
        refine lv_aload_n hx hb dX12_firstCrash_33 rfl (lv_at hl 0 rfl) ?_
        refine va_get (D := D) (ci := 12) (v := .ref (aR 2)) (C := RX12) (T := TX12) (N := 18) hx hb hts hiX12 hown hK hP 0 rfl rfl 1 (by decide) hf13 (fun _ z => z) rfl dX12_firstCrash_34 ?_
        refine lv_iconst (v := 4) hx hb dX12_firstCrash_37 (by decide) ?_
        refine va_iald hx hb hK hP 2 0 rfl rfl (by decide) dX12_firstCrash_38 ?_
        refine lv_if_le (tgt := 44) hx hb dX12_firstCrash_39 (by decide) (fun c39 => ?_) (fun c39 => ?_)
        · have h := k_pos c39 h
          refine lv_iinc (v := (y1 + 1)) (lv' := [(1, .int (y1 + 1)), (0, .ref (aR 0))]) hx hb dX12_firstCrash_44 hl (k := 1) rfl (by first | rfl | decide) (by decide) rfl (fun ls hl => ?_)
          refine lv_goto (tgt := 20) hx hb dX12_firstCrash_47 (by decide) ?_
          exact ih20 (y1 + 1) r30 H locs ls hP hD hS (lv_sub hl [1, 0] rfl) h
        · have h := k_neg c39 h
          refine lv_iload_n hx hb dX12_firstCrash_42 rfl (lv_at hl 1 rfl) ?_
          cases h
          exact hret _ _ _ _ hP hS dX12_firstCrash_43
  refine lv_istore_n (lv' := [(1, .int 1), (0, .ref (aR 0))]) hx hb dX12_firstCrash_19 rfl hl (by decide) rfl (fun ls hl => ?_)
  exact B20 lfu 1 (upd r8 (4 : Int32).toNatClampNeg 0) H locs ls hP hD hS (lv_sub hl [1, 0] rfl) h
abbrev Wd50 (cI : ClassId) (aR : Nat → Nat) (q_hasImage : Int32) (q_place : Int32) (q_rowAt : Int32) (q_rowEnd : Int32) (q_seed : Int32) (q_thrown : Int32) (q_m : Nat → Int32) (q_was : Nat → Int32) : va_W := [((aR 0), .inr (12, [.ref (aR 1), .ref (aR 2), .ref (aR 3), .ref (aR 4), .int q_hasImage, .int q_place, .int q_rowAt, .int q_rowEnd, .ref (aR 5), .ref (aR 6), .int q_seed, .ref (aR 7), .ref (aR 8), .ref (aR 9), .ref (aR 10), .ref (aR 11), .ref (aR 12), .int q_thrown])), ((aR 2), .inl (cI, 37, .inl q_m)), ((aR 4), .inl (cI, 37, .inl q_was))]
abbrev rm_X12_isMoved : Room := { frames := 4, cells := 0, slots := 0, locals := 90 }
set_option maxHeartbeats 4000000 in
set_option maxRecDepth 100000 in
theorem c_MD_isMoved (l : Launch) (D : va_G) (cI cM cS cJ : ClassId) (aR : Nat → Nat) (sz : Nat) (q_hasImage : Int32) (q_place : Int32) (q_rowAt : Int32) (q_rowEnd : Int32) (q_seed : Int32) (q_thrown : Int32) (q_m : Nat → Int32) (q_was : Nat → Int32) {o : (Int32) × (Nat → Int32) × (Nat → Int32)} (hsem : S_MD_isMoved q_m q_was = some o) : kMet l yX12_isMoved wsX12_isMoved rm_X12_isMoved [.ref (aR 0)] D (kT cI cM cS cJ) (Wd50 cI aR q_hasImage q_place q_rowAt q_rowEnd q_seed q_thrown q_m q_was) sz (some (.int o.1)) (Wd50 cI aR q_hasImage q_place q_rowAt q_rowEnd q_seed q_thrown o.2.1 o.2.2) := by
  refine k_metZ (by decide) rfl rfl (Nat.le_of_ble_eq_true rfl) ?_
  intro p e s m below meth c ls Q A hx hb hml hts hown hK hN hA hP hD hS hl hsz hnm hret
  have hown : s.vm.findClass RX12 = some m.cls := hown
  have hf13 := hts (.fieldLink RX12 13 "PlumbLineModel" "m" "[I") (List.mem_of_getElem? (i := 1) rfl)
  have hf19 := hts (.fieldLink RX12 19 "PlumbLineModel" "was" "[I") (List.mem_of_getElem? (i := 2) rfl)
  have hiX12 : ∀ w ∈ u_ws RX12 TX12 18, w ∈ wsX12_isMoved := fun w h => List.mem_cons_of_mem _ (List.mem_append_right _ h)
  replace hl : lv_has ls 3 [(0, .ref (aR 0))] := hl
  have h := hsem
  clear hsem
  rw [S_MD_isMoved] at h
  refine lv_iconst (v := 0) hx hb dX12_isMoved_0 (by decide) ?_
  refine lv_istore_n (lv' := [(1, .int 0), (0, .ref (aR 0))]) hx hb dX12_isMoved_1 rfl hl (by decide) rfl (fun ls hl => ?_)
  refine lv_aload_n hx hb dX12_isMoved_2 rfl (lv_at hl 1 rfl) ?_
  refine va_get (D := D) (ci := 12) (v := .ref (aR 2)) (C := RX12) (T := TX12) (N := 18) hx hb hts hiX12 hown hK hP 0 rfl rfl 1 (by decide) hf13 (fun _ z => z) rfl dX12_isMoved_3 ?_
  refine lv_aload_n hx hb dX12_isMoved_6 rfl (lv_at hl 1 rfl) ?_
  refine va_get (D := D) (ci := 12) (v := .ref (aR 4)) (C := RX12) (T := TX12) (N := 18) hx hb hts hiX12 hown hK hP 0 rfl rfl 3 (by decide) hf19 (fun _ z => z) rfl dX12_isMoved_7 ?_
  obtain ⟨r10, g10, h⟩ := k_bind h
  refine k_callS (As := [.ref (aR 2), .ref (aR 4)]) (rest := []) (st1 := []) (ws2 := (Wd50 cI aR q_hasImage q_place q_rowAt q_rowEnd q_seed q_thrown q_m r10)) hx hb hml hown hts hK hN hA hP hD hS hl (c_MD_copies l D cI cM cS cJ (aR 2) (aR 4) s.heap.size q_m q_was g10) gX12_isMoved_X12_copies rfl kdS_X12_copies [1, 2] ⟨rfl, rfl⟩ ⟨Nat.le_of_ble_eq_true rfl, Nat.le_of_ble_eq_true rfl⟩ ⟨Nat.zero_le _, Nat.zero_le _⟩ rfl rfl (by decide +kernel) rfl rfl rfl (Nat.le_of_ble_eq_true rfl) dX12_isMoved_10 rfl (fun H locs hP hD hS => ?_)
  refine lv_aload_n hx hb dX12_isMoved_13 rfl (lv_at hl 1 rfl) ?_
  refine va_get (D := D) (ci := 12) (v := .ref (aR 2)) (C := RX12) (T := TX12) (N := 18) hx hb hts hiX12 hown hK hP 0 rfl rfl 1 (by decide) hf13 (fun _ z => z) rfl dX12_isMoved_14 ?_
  obtain ⟨r17, g17, h⟩ := k_bind h
  refine k_callS (As := [.ref (aR 2)]) (rest := []) (st1 := []) (ws2 := (Wd50 cI aR q_hasImage q_place q_rowAt q_rowEnd q_seed q_thrown r17 r10)) hx hb hml hown hts hK hN hA hP hD hS hl (c_MD_day l D cI cM cS cJ (aR 2) H.size q_m g17) gX12_isMoved_X12_day rfl kdS_X12_day [1] ⟨rfl, rfl⟩ ⟨Nat.le_of_ble_eq_true rfl, Nat.le_of_ble_eq_true rfl⟩ ⟨Nat.zero_le _, Nat.zero_le _⟩ rfl rfl (by decide +kernel) rfl rfl rfl (Nat.le_of_ble_eq_true rfl) dX12_isMoved_17 rfl (fun H locs hP hD hS => ?_)
  refine lv_iconst (v := 0) hx hb dX12_isMoved_20 (by decide) ?_
  have B22 : ∀ (q_m : Nat → Int32) (q_was : Nat → Int32) (n22 : Nat) (y1 : Int32) (y2 : Int32) (H : Heap) (locs : List Loc) (ls : Array Slot), va_P D vwCl (Wd50 cI aR q_hasImage q_place q_rowAt q_rowEnd q_seed q_thrown q_m q_was) H → va_D A (Wd50 cI aR q_hasImage q_place q_rowAt q_rowEnd q_seed q_thrown q_m q_was) → va_S A s.heap H locs → lv_has ls 3 [(0, .ref (aR 0)), (1, .int y1), (2, .int y2)] → S_MD_isMoved_L22 q_m q_was n22 y1 y2 = some o → W p l e rm_X12_isMoved s m ([.ref (aR 0)] : List Value).toArray below meth c H locs 0 0 Q (F0 m 22 ls []) := by
    intro q_m q_was
    intro n22
    induction n22 with
    | zero => intro y1 y2 H locs ls hP hD hS hl h; exact absurd h (by simp [S_MD_isMoved_L22])
    | succ n22 ih22 =>
      intro y1 y2 H locs ls hP hD hS hl h
      rw [S_MD_isMoved_L22] at h
      refine lv_iload_n hx hb dX12_isMoved_22 rfl (lv_at hl 2 rfl) ?_
      refine lv_aload_n hx hb dX12_isMoved_23 rfl (lv_at hl 0 rfl) ?_
      refine va_get (D := D) (ci := 12) (v := .ref (aR 2)) (C := RX12) (T := TX12) (N := 18) hx hb hts hiX12 hown hK hP 0 rfl rfl 1 (by decide) hf13 (fun _ z => z) rfl dX12_isMoved_24 ?_
      refine lv_iconst (v := 0) hx hb dX12_isMoved_27 (by decide) ?_
      refine va_iald hx hb hK hP 1 0 rfl rfl (by decide) dX12_isMoved_28 ?_
      refine lv_icmp_ge (tgt := 69) hx hb dX12_isMoved_29 (by decide) (fun c29 => ?_) (fun c29 => ?_)
      · have h := k_pos c29 h
        refine lv_iload_n hx hb dX12_isMoved_69 rfl (lv_at hl 1 rfl) ?_
        obtain ⟨g70, h⟩ := k_guard h
        cases h
        exact hret _ _ _ _ (k_z01 g70) hP hS dX12_isMoved_70
      · have h := k_neg c29 h
        refine lv_iload_n hx hb dX12_isMoved_32 rfl (lv_at hl 1 rfl) ?_
        refine lv_aload_n hx hb dX12_isMoved_33 rfl (lv_at hl 0 rfl) ?_
        refine va_get (D := D) (ci := 12) (v := .ref (aR 2)) (C := RX12) (T := TX12) (N := 18) hx hb hts hiX12 hown hK hP 0 rfl rfl 1 (by decide) hf13 (fun _ z => z) rfl dX12_isMoved_34 ?_
        refine lv_iload_n hx hb dX12_isMoved_37 rfl (lv_at hl 2 rfl) ?_
        refine lv_iconst (v := 2) hx hb dX12_isMoved_38 (by decide) ?_
        refine k_callS (As := [.int y2, .int 2]) (rest := [.ref (aR 2), .int y1]) (st1 := [.int (S_MD_of y2 2), .ref (aR 2), .int y1]) (ws2 := (Wd50 cI aR q_hasImage q_place q_rowAt q_rowEnd q_seed q_thrown q_m q_was)) hx hb hml hown hts hK hN hA hP hD hS hl (c_MD_of l D cI cM cS cJ H.size y2 2 rfl) gX12_isMoved_X12_of rfl kdS_X12_of [] ⟨rfl, rfl⟩ ⟨Nat.le_of_ble_eq_true rfl, Nat.le_of_ble_eq_true rfl⟩ ⟨Nat.zero_le _, Nat.zero_le _⟩ rfl rfl (by decide +kernel) rfl rfl rfl (Nat.le_of_ble_eq_true rfl) dX12_isMoved_39 rfl (fun H locs hP hD hS => ?_)
        obtain ⟨g42, h⟩ := k_guard h
        refine va_iald hx hb hK hP 1 0 rfl rfl g42 dX12_isMoved_42 ?_
        refine lv_aload_n hx hb dX12_isMoved_43 rfl (lv_at hl 0 rfl) ?_
        refine va_get (D := D) (ci := 12) (v := .ref (aR 4)) (C := RX12) (T := TX12) (N := 18) hx hb hts hiX12 hown hK hP 0 rfl rfl 3 (by decide) hf19 (fun _ z => z) rfl dX12_isMoved_44 ?_
        refine lv_iload_n hx hb dX12_isMoved_47 rfl (lv_at hl 2 rfl) ?_
        refine lv_iconst (v := 2) hx hb dX12_isMoved_48 (by decide) ?_
        refine k_callS (As := [.int y2, .int 2]) (rest := [.ref (aR 4), .int (q_m (S_MD_of y2 2).toNatClampNeg), .int y1]) (st1 := [.int (S_MD_of y2 2), .ref (aR 4), .int (q_m (S_MD_of y2 2).toNatClampNeg), .int y1]) (ws2 := (Wd50 cI aR q_hasImage q_place q_rowAt q_rowEnd q_seed q_thrown q_m q_was)) hx hb hml hown hts hK hN hA hP hD hS hl (c_MD_of l D cI cM cS cJ H.size y2 2 rfl) gX12_isMoved_X12_of rfl kdS_X12_of [] ⟨rfl, rfl⟩ ⟨Nat.le_of_ble_eq_true rfl, Nat.le_of_ble_eq_true rfl⟩ ⟨Nat.zero_le _, Nat.zero_le _⟩ rfl rfl (by decide +kernel) rfl rfl rfl (Nat.le_of_ble_eq_true rfl) dX12_isMoved_49 rfl (fun H locs hP hD hS => ?_)
        refine va_iald hx hb hK hP 2 0 rfl rfl g42 dX12_isMoved_52 ?_
        refine lv_icmp_eq (tgt := 60) hx hb dX12_isMoved_53 (by decide) (fun c53 => ?_) (fun c53 => ?_)
        · have h := k_pos c53 h
          refine lv_iconst (v := 0) hx hb dX12_isMoved_60 (by decide) ?_
          refine lv_ior hx hb dX12_isMoved_61 ?_
          refine lv_istore_n (lv' := [(1, .int (y1 ||| 0)), (0, .ref (aR 0)), (2, .int y2)]) hx hb dX12_isMoved_62 rfl hl (by decide) rfl (fun ls hl => ?_)
          refine lv_iinc (v := (y2 + 1)) (lv' := [(2, .int (y2 + 1)), (1, .int (y1 ||| 0)), (0, .ref (aR 0))]) hx hb dX12_isMoved_63 hl (k := 2) rfl (by first | rfl | decide) (by decide) rfl (fun ls hl => ?_)
          refine lv_goto (tgt := 22) hx hb dX12_isMoved_66 (by decide) ?_
          exact ih22 (y1 ||| 0) (y2 + 1) H locs ls hP hD hS (lv_sub hl [2, 1, 0] rfl) h
        · have h := k_neg c53 h
          refine lv_iconst (v := 1) hx hb dX12_isMoved_56 (by decide) ?_
          refine lv_goto (tgt := 61) hx hb dX12_isMoved_57 (by decide) ?_
          refine lv_ior hx hb dX12_isMoved_61 ?_
          refine lv_istore_n (lv' := [(1, .int (y1 ||| 1)), (0, .ref (aR 0)), (2, .int y2)]) hx hb dX12_isMoved_62 rfl hl (by decide) rfl (fun ls hl => ?_)
          refine lv_iinc (v := (y2 + 1)) (lv' := [(2, .int (y2 + 1)), (1, .int (y1 ||| 1)), (0, .ref (aR 0))]) hx hb dX12_isMoved_63 hl (k := 2) rfl (by first | rfl | decide) (by decide) rfl (fun ls hl => ?_)
          refine lv_goto (tgt := 22) hx hb dX12_isMoved_66 (by decide) ?_
          exact ih22 (y1 ||| 1) (y2 + 1) H locs ls hP hD hS (lv_sub hl [2, 1, 0] rfl) h
  refine lv_istore_n (lv' := [(2, .int 0), (1, .int 0), (0, .ref (aR 0))]) hx hb dX12_isMoved_21 rfl hl (by decide) rfl (fun ls hl => ?_)
  exact B22 r17 r10 lfu 0 0 H locs ls hP hD hS (lv_sub hl [2, 1, 0] rfl) h
abbrev Wd51 (cI : ClassId) (aR : Nat → Nat) (q_hasImage : Int32) (q_place : Int32) (q_rowAt : Int32) (q_rowEnd : Int32) (q_seed : Int32) (q_thrown : Int32) (q_s : Nat → Int32) (q_m : Nat → Int32) (q_was : Nat → Int32) : va_W := [((aR 0), .inr (12, [.ref (aR 1), .ref (aR 2), .ref (aR 3), .ref (aR 4), .int q_hasImage, .int q_place, .int q_rowAt, .int q_rowEnd, .ref (aR 5), .ref (aR 6), .int q_seed, .ref (aR 7), .ref (aR 8), .ref (aR 9), .ref (aR 10), .ref (aR 11), .ref (aR 12), .int q_thrown])), ((aR 1), .inl (cI, 37, .inl q_s)), ((aR 2), .inl (cI, 37, .inl q_m)), ((aR 4), .inl (cI, 37, .inl q_was))]
theorem kdV_X12_isMoved : yX12_isMoved.cls = RX12 ∧ yX12_isMoved.cls ≠ "java/lang/invoke/MethodHandle" ∧ yX12_isMoved.cls ≠ "java/lang/invoke/VarHandle" ∧ (parseMethodDescriptor yX12_isMoved.desc).map (fun d => d.parameters.length) = some 0 := by decide +kernel
abbrev rm_X12_still : Room := { frames := 5, cells := 0, slots := 0, locals := 112 }
set_option maxHeartbeats 4000000 in
set_option maxRecDepth 100000 in
theorem c_MD_still (l : Launch) (D : va_G) (cI cM cS cJ : ClassId) (aR : Nat → Nat) (sz : Nat) (q_hasImage : Int32) (q_place : Int32) (q_rowAt : Int32) (q_rowEnd : Int32) (q_seed : Int32) (q_thrown : Int32) (q_s : Nat → Int32) (q_m : Nat → Int32) (q_was : Nat → Int32) {o : (Int32) × (Nat → Int32) × (Nat → Int32)} (hsem : S_MD_still q_s q_m q_was = some o) : kMet l yX12_still wsX12_still rm_X12_still [.ref (aR 0)] D (kT cI cM cS cJ) (Wd51 cI aR q_hasImage q_place q_rowAt q_rowEnd q_seed q_thrown q_s q_m q_was) sz (some (.int o.1)) (Wd51 cI aR q_hasImage q_place q_rowAt q_rowEnd q_seed q_thrown q_s o.2.1 o.2.2) := by
  refine k_metI (by decide) rfl rfl (Nat.le_of_ble_eq_true rfl) ?_
  intro p e s m below meth c ls Q A hx hb hml hts hown hK hN hA hP hD hS hl hsz hnm hret
  have hown : s.vm.findClass RX12 = some m.cls := hown
  have hf9 := hts (.fieldLink RX12 9 "PlumbLineModel" "s" "[I") (List.mem_of_getElem? (i := 1) rfl)
  have hf13 := hts (.fieldLink RX12 13 "PlumbLineModel" "m" "[I") (List.mem_of_getElem? (i := 2) rfl)
  have hiX12 : ∀ w ∈ u_ws RX12 TX12 18, w ∈ wsX12_still := fun w h => List.mem_cons_of_mem _ (List.mem_append_right _ h)
  replace hl : lv_has ls 3 [(0, .ref (aR 0))] := hl
  have h := hsem
  clear hsem
  rw [S_MD_still] at h
  refine lv_aload_n hx hb dX12_still_0 rfl (lv_at hl 0 rfl) ?_
  refine va_get (D := D) (ci := 12) (v := .ref (aR 1)) (C := RX12) (T := TX12) (N := 18) hx hb hts hiX12 hown hK hP 0 rfl rfl 0 (by decide) hf9 (fun _ z => z) rfl dX12_still_1 ?_
  refine lv_aload_n hx hb dX12_still_4 rfl (lv_at hl 0 rfl) ?_
  refine va_get (D := D) (ci := 12) (v := .ref (aR 2)) (C := RX12) (T := TX12) (N := 18) hx hb hts hiX12 hown hK hP 0 rfl rfl 1 (by decide) hf13 (fun _ z => z) rfl dX12_still_5 ?_
  obtain ⟨r8, g8, h⟩ := k_bind h
  refine k_callS (As := [.ref (aR 1), .ref (aR 2)]) (rest := []) (st1 := []) (ws2 := (Wd51 cI aR q_hasImage q_place q_rowAt q_rowEnd q_seed q_thrown q_s r8 q_was)) hx hb hml hown hts hK hN hA hP hD hS hl (c_MD_copies l D cI cM cS cJ (aR 1) (aR 2) s.heap.size q_s q_m g8) gX12_still_X12_copies rfl kdS_X12_copies [1, 2] ⟨rfl, rfl⟩ ⟨Nat.le_of_ble_eq_true rfl, Nat.le_of_ble_eq_true rfl⟩ ⟨Nat.zero_le _, Nat.zero_le _⟩ rfl rfl (by decide +kernel) rfl rfl rfl (Nat.le_of_ble_eq_true rfl) dX12_still_8 rfl (fun H locs hP hD hS => ?_)
  refine lv_iconst (v := 0) hx hb dX12_still_11 (by decide) ?_
  refine lv_istore_n (lv' := [(1, .int 0), (0, .ref (aR 0))]) hx hb dX12_still_12 rfl hl (by decide) rfl (fun ls hl => ?_)
  refine lv_iconst (v := 0) hx hb dX12_still_13 (by decide) ?_
  have B15 : ∀ (n15 : Nat) (y1 : Int32) (y2 : Int32) (q_m : Nat → Int32) (q_was : Nat → Int32) (H : Heap) (locs : List Loc) (ls : Array Slot), va_P D vwCl (Wd51 cI aR q_hasImage q_place q_rowAt q_rowEnd q_seed q_thrown q_s q_m q_was) H → va_D A (Wd51 cI aR q_hasImage q_place q_rowAt q_rowEnd q_seed q_thrown q_s q_m q_was) → va_S A s.heap H locs → lv_has ls 3 [(0, .ref (aR 0)), (1, .int y1), (2, .int y2)] → S_MD_still_L15 n15 y1 y2 q_m q_was = some o → W p l e rm_X12_still s m ([.ref (aR 0)] : List Value).toArray below meth c H locs 0 0 Q (F0 m 15 ls []) := by
    intro n15
    induction n15 with
    | zero => intro y1 y2 q_m q_was H locs ls hP hD hS hl h; exact absurd h (by simp [S_MD_still_L15])
    | succ n15 ih15 =>
      intro y1 y2 q_m q_was H locs ls hP hD hS hl h
      rw [S_MD_still_L15] at h
      refine lv_iload_n hx hb dX12_still_15 rfl (lv_at hl 2 rfl) ?_
      refine lv_bipush (v := 60) hx hb dX12_still_16 (by decide) ?_
      refine lv_icmp_ge (tgt := 53) hx hb dX12_still_18 (by decide) (fun c18 => ?_) (fun c18 => ?_)
      · have h := k_pos c18 h
        refine lv_bipush (v := (-4)) hx hb dX12_still_53 (by decide) ?_
        cases h
        exact hret _ _ _ _ hP hS dX12_still_55
      · have h := k_neg c18 h
        refine lv_aload_n hx hb dX12_still_21 rfl (lv_at hl 0 rfl) ?_
        obtain ⟨r22, g22, h⟩ := k_bind h
        refine k_callV (As := []) (rest := []) (st1 := [.int r22.1]) (ws2 := (Wd51 cI aR q_hasImage q_place q_rowAt q_rowEnd q_seed q_thrown q_s r22.2.1 r22.2.2)) hx hb hml hown hts hK hN hA hP hD hS hl (c_MD_isMoved l D cI cM cS cJ aR H.size q_hasImage q_place q_rowAt q_rowEnd q_seed q_thrown q_m q_was g22) gX12_still_X12_isMoved rfl kdV_X12_isMoved 0 12 rfl rfl rfl [0, 2, 3] ⟨rfl, rfl⟩ ⟨Nat.le_of_ble_eq_true rfl, Nat.le_of_ble_eq_true rfl⟩ ⟨Nat.zero_le _, Nat.zero_le _⟩ rfl rfl (by decide +kernel) rfl rfl rfl (Nat.le_of_ble_eq_true rfl) dX12_still_22 rfl (fun H locs hP hD hS => ?_)
        refine lv_if_eq (tgt := 32) hx hb dX12_still_25 (by decide) (fun c25 => ?_) (fun c25 => ?_)
        · have h := k_pos c25 h
          refine lv_iload_n hx hb dX12_still_32 rfl (lv_at hl 1 rfl) ?_
          refine lv_iconst (v := 1) hx hb dX12_still_33 (by decide) ?_
          refine lv_iadd hx hb dX12_still_34 ?_
          refine lv_istore_n (lv' := [(1, .int (y1 + 1)), (0, .ref (aR 0)), (2, .int y2)]) hx hb dX12_still_35 rfl hl (by decide) rfl (fun ls hl => ?_)
          refine lv_iload_n hx hb dX12_still_36 rfl (lv_at hl 0 rfl) ?_
          refine lv_bipush (v := 10) hx hb dX12_still_37 (by decide) ?_
          refine lv_icmp_ne (tgt := 47) hx hb dX12_still_39 (by decide) (fun c39 => ?_) (fun c39 => ?_)
          · have h := k_neg c39 h
            refine lv_iinc (v := (y2 + 1)) (lv' := [(2, .int (y2 + 1)), (1, .int (y1 + 1)), (0, .ref (aR 0))]) hx hb dX12_still_47 hl (k := 2) rfl (by first | rfl | decide) (by decide) rfl (fun ls hl => ?_)
            refine lv_goto (tgt := 15) hx hb dX12_still_50 (by decide) ?_
            exact ih15 (y1 + 1) (y2 + 1) r22.2.1 r22.2.2 H locs ls hP hD hS (lv_sub hl [2, 1, 0] rfl) h
          · have h := k_pos c39 h
            refine lv_iload_n hx hb dX12_still_42 rfl (lv_at hl 2 rfl) ?_
            refine lv_bipush (v := 9) hx hb dX12_still_43 (by decide) ?_
            refine lv_isub hx hb dX12_still_45 ?_
            cases h
            exact hret _ _ _ _ hP hS dX12_still_46
        · have h := k_neg c25 h
          refine lv_iconst (v := 0) hx hb dX12_still_28 (by decide) ?_
          refine lv_goto (tgt := 35) hx hb dX12_still_29 (by decide) ?_
          refine lv_istore_n (lv' := [(1, .int 0), (0, .ref (aR 0)), (2, .int y2)]) hx hb dX12_still_35 rfl hl (by decide) rfl (fun ls hl => ?_)
          refine lv_iload_n hx hb dX12_still_36 rfl (lv_at hl 0 rfl) ?_
          refine lv_bipush (v := 10) hx hb dX12_still_37 (by decide) ?_
          refine lv_icmp_ne (tgt := 47) hx hb dX12_still_39 (by decide) (fun _ => ?_) (fun z => absurd z (by decide))
          refine lv_iinc (v := (y2 + 1)) (lv' := [(2, .int (y2 + 1)), (1, .int 0), (0, .ref (aR 0))]) hx hb dX12_still_47 hl (k := 2) rfl (by first | rfl | decide) (by decide) rfl (fun ls hl => ?_)
          refine lv_goto (tgt := 15) hx hb dX12_still_50 (by decide) ?_
          exact ih15 0 (y2 + 1) r22.2.1 r22.2.2 H locs ls hP hD hS (lv_sub hl [2, 1, 0] rfl) h
  refine lv_istore_n (lv' := [(2, .int 0), (1, .int 0), (0, .ref (aR 0))]) hx hb dX12_still_14 rfl hl (by decide) rfl (fun ls hl => ?_)
  exact B15 lfu 0 0 r8 q_was H locs ls hP hD hS (lv_sub hl [2, 1, 0] rfl) h
theorem kdV_X12_still : yX12_still.cls = RX12 ∧ yX12_still.cls ≠ "java/lang/invoke/MethodHandle" ∧ yX12_still.cls ≠ "java/lang/invoke/VarHandle" ∧ (parseMethodDescriptor yX12_still.desc).map (fun d => d.parameters.length) = some 0 := by decide +kernel
theorem kdV_X12_firstCrash : yX12_firstCrash.cls = RX12 ∧ yX12_firstCrash.cls ≠ "java/lang/invoke/MethodHandle" ∧ yX12_firstCrash.cls ≠ "java/lang/invoke/VarHandle" ∧ (parseMethodDescriptor yX12_firstCrash.desc).map (fun d => d.parameters.length) = some 0 := by decide +kernel
abbrev rm_X12_crash : Room := { frames := 6, cells := 0, slots := 0, locals := 134 }
set_option maxHeartbeats 4000000 in
set_option maxRecDepth 100000 in
theorem c_MD_crash (l : Launch) (D : va_G) (cI cM cS cJ : ClassId) (aR : Nat → Nat) (sz : Nat) (x1 : Int32) (q_hasImage : Int32) (q_place : Int32) (q_rowAt : Int32) (q_rowEnd : Int32) (q_seed : Int32) (q_thrown : Int32) (q_s : Nat → Int32) (q_m : Nat → Int32) (q_was : Nat → Int32) {o : (Int32) × (Nat → Int32) × (Nat → Int32)} (hsem : S_MD_crash x1 q_s q_m q_was = some o) : kMet l yX12_crash wsX12_crash rm_X12_crash [.ref (aR 0), .int x1] D (kT cI cM cS cJ) (Wd51 cI aR q_hasImage q_place q_rowAt q_rowEnd q_seed q_thrown q_s q_m q_was) sz (some (.int o.1)) (Wd51 cI aR q_hasImage q_place q_rowAt q_rowEnd q_seed q_thrown q_s o.2.1 o.2.2) := by
  refine k_metI (by decide) rfl rfl (Nat.le_of_ble_eq_true rfl) ?_
  intro p e s m below meth c ls Q A hx hb hml hts hown hK hN hA hP hD hS hl hsz hnm hret
  have hown : s.vm.findClass RX12 = some m.cls := hown
  replace hl : lv_has ls 2 [(0, .ref (aR 0)), (1, .int x1)] := hl
  have h := hsem
  clear hsem
  rw [S_MD_crash] at h
  refine lv_iload_n hx hb dX12_crash_0 rfl (lv_at hl 1 rfl) ?_
  refine lv_if_ne (tgt := 11) hx hb dX12_crash_1 (by decide) (fun c1 => ?_) (fun c1 => ?_)
  · have h := k_neg c1 h
    refine lv_iload_n hx hb dX12_crash_11 rfl (lv_at hl 1 rfl) ?_
    refine lv_iconst (v := 1) hx hb dX12_crash_12 (by decide) ?_
    refine lv_icmp_ne (tgt := 23) hx hb dX12_crash_13 (by decide) (fun c13 => ?_) (fun c13 => ?_)
    · have h := k_neg c13 h
      refine lv_iconst (v := (-1)) hx hb dX12_crash_23 (by decide) ?_
      cases h
      exact hret _ _ _ _ hP hS dX12_crash_24
    · have h := k_pos c13 h
      refine lv_aload_n hx hb dX12_crash_16 rfl (lv_at hl 0 rfl) ?_
      obtain ⟨r17, g17, h⟩ := k_bind h
      refine k_callV (As := []) (rest := []) (st1 := [.int r17.1]) (ws2 := (Wd51 cI aR q_hasImage q_place q_rowAt q_rowEnd q_seed q_thrown q_s r17.2.1 r17.2.2)) hx hb hml hown hts hK hN hA hP hD hS hl (c_MD_still l D cI cM cS cJ aR s.heap.size q_hasImage q_place q_rowAt q_rowEnd q_seed q_thrown q_s q_m q_was g17) gX12_crash_X12_still rfl kdV_X12_still 0 12 rfl rfl rfl [0, 1, 2, 3] ⟨rfl, rfl⟩ ⟨Nat.le_of_ble_eq_true rfl, Nat.le_of_ble_eq_true rfl⟩ ⟨Nat.zero_le _, Nat.zero_le _⟩ rfl rfl (by decide +kernel) rfl rfl rfl (Nat.le_of_ble_eq_true rfl) dX12_crash_17 rfl (fun H locs hP hD hS => ?_)
      refine lv_goto (tgt := 24) hx hb dX12_crash_20 (by decide) ?_
      cases h
      exact hret _ _ _ _ hP hS dX12_crash_24
  · have h := k_pos c1 h
    refine lv_aload_n hx hb dX12_crash_4 rfl (lv_at hl 0 rfl) ?_
    obtain ⟨r5, g5, h⟩ := k_bind h
    refine k_callV (As := []) (rest := []) (st1 := [.int r5.1]) (ws2 := (Wd51 cI aR q_hasImage q_place q_rowAt q_rowEnd q_seed q_thrown q_s r5.2 q_was)) hx hb hml hown hts hK hN hA hP hD hS hl (c_MD_firstCrash l D cI cM cS cJ aR s.heap.size q_hasImage q_place q_rowAt q_rowEnd q_seed q_thrown q_s q_m g5) gX12_crash_X12_firstCrash rfl kdV_X12_firstCrash 0 12 rfl rfl rfl [0, 1, 2] ⟨rfl, rfl⟩ ⟨Nat.le_of_ble_eq_true rfl, Nat.le_of_ble_eq_true rfl⟩ ⟨Nat.zero_le _, Nat.zero_le _⟩ rfl rfl (by decide +kernel) rfl rfl rfl (Nat.le_of_ble_eq_true rfl) dX12_crash_5 rfl (fun H locs hP hD hS => ?_)
    refine lv_goto (tgt := 24) hx hb dX12_crash_8 (by decide) ?_
    cases h
    exact hret _ _ _ _ hP hS dX12_crash_24
abbrev rm_X12_finds : Room := { frames := 4, cells := 0, slots := 0, locals := 90 }
set_option maxHeartbeats 4000000 in
set_option maxRecDepth 100000 in
theorem c_MD_finds (l : Launch) (D : va_G) (cI cM cS cJ : ClassId) (aR : Nat → Nat) (sz : Nat) (x1 : Int32) (q_hasImage : Int32) (q_place : Int32) (q_rowAt : Int32) (q_rowEnd : Int32) (q_seed : Int32) (q_thrown : Int32) (q_s : Nat → Int32) (q_m : Nat → Int32) {o : (Int32) × (Nat → Int32)} (hsem : S_MD_finds x1 q_s q_m = some o) : kMet l yX12_finds wsX12_finds rm_X12_finds [.ref (aR 0), .int x1] D (kT cI cM cS cJ) (Wd49 cI aR q_hasImage q_place q_rowAt q_rowEnd q_seed q_thrown q_s q_m) sz (some (.int o.1)) (Wd49 cI aR q_hasImage q_place q_rowAt q_rowEnd q_seed q_thrown q_s o.2) := by
  refine k_metI (by decide) rfl rfl (Nat.le_of_ble_eq_true rfl) ?_
  intro p e s m below meth c ls Q A hx hb hml hts hown hK hN hA hP hD hS hl hsz hnm hret
  have hown : s.vm.findClass RX12 = some m.cls := hown
  have hf9 := hts (.fieldLink RX12 9 "PlumbLineModel" "s" "[I") (List.mem_of_getElem? (i := 1) rfl)
  have hf13 := hts (.fieldLink RX12 13 "PlumbLineModel" "m" "[I") (List.mem_of_getElem? (i := 2) rfl)
  have hiX12 : ∀ w ∈ u_ws RX12 TX12 18, w ∈ wsX12_finds := fun w h => List.mem_cons_of_mem _ (List.mem_append_right _ h)
  replace hl : lv_has ls 3 [(0, .ref (aR 0)), (1, .int x1)] := hl
  have h := hsem
  clear hsem
  rw [S_MD_finds] at h
  refine lv_aload_n hx hb dX12_finds_0 rfl (lv_at hl 0 rfl) ?_
  refine lv_iload_n hx hb dX12_finds_1 rfl (lv_at hl 1 rfl) ?_
  obtain ⟨r2, g2, h⟩ := k_bind h
  refine k_callV (As := [.int x1]) (rest := []) (st1 := [.int r2]) (ws2 := (Wd49 cI aR q_hasImage q_place q_rowAt q_rowEnd q_seed q_thrown q_s q_m)) hx hb hml hown hts hK hN hA hP hD hS hl (c_MD_isMan l D cI cM cS cJ aR s.heap.size x1 q_hasImage q_place q_rowAt q_rowEnd q_seed q_thrown q_s g2) gX12_finds_X12_isMan rfl kdV_X12_isMan 0 12 rfl rfl rfl [0, 1] ⟨rfl, rfl⟩ ⟨Nat.le_of_ble_eq_true rfl, Nat.le_of_ble_eq_true rfl⟩ ⟨Nat.zero_le _, Nat.zero_le _⟩ rfl rfl (by decide +kernel) rfl rfl rfl (Nat.le_of_ble_eq_true rfl) dX12_finds_2 rfl (fun H locs hP hD hS => ?_)
  refine lv_if_ne (tgt := 10) hx hb dX12_finds_5 (by decide) (fun c5 => ?_) (fun c5 => ?_)
  · have h := k_neg c5 h
    refine lv_aload_n hx hb dX12_finds_10 rfl (lv_at hl 0 rfl) ?_
    refine va_get (D := D) (ci := 12) (v := .ref (aR 1)) (C := RX12) (T := TX12) (N := 18) hx hb hts hiX12 hown hK hP 0 rfl rfl 0 (by decide) hf9 (fun _ z => z) rfl dX12_finds_11 ?_
    refine lv_aload_n hx hb dX12_finds_14 rfl (lv_at hl 0 rfl) ?_
    refine va_get (D := D) (ci := 12) (v := .ref (aR 2)) (C := RX12) (T := TX12) (N := 18) hx hb hts hiX12 hown hK hP 0 rfl rfl 1 (by decide) hf13 (fun _ z => z) rfl dX12_finds_15 ?_
    obtain ⟨r18, g18, h⟩ := k_bind h
    refine k_callS (As := [.ref (aR 1), .ref (aR 2)]) (rest := []) (st1 := []) (ws2 := (Wd49 cI aR q_hasImage q_place q_rowAt q_rowEnd q_seed q_thrown q_s r18)) hx hb hml hown hts hK hN hA hP hD hS hl (c_MD_copies l D cI cM cS cJ (aR 1) (aR 2) H.size q_s q_m g18) gX12_finds_X12_copies rfl kdS_X12_copies [1, 2] ⟨rfl, rfl⟩ ⟨Nat.le_of_ble_eq_true rfl, Nat.le_of_ble_eq_true rfl⟩ ⟨Nat.zero_le _, Nat.zero_le _⟩ rfl rfl (by decide +kernel) rfl rfl rfl (Nat.le_of_ble_eq_true rfl) dX12_finds_18 rfl (fun H locs hP hD hS => ?_)
    refine lv_iconst (v := 0) hx hb dX12_finds_21 (by decide) ?_
    have B23 : ∀ (n23 : Nat) (y2 : Int32) (q_m : Nat → Int32) (H : Heap) (locs : List Loc) (ls : Array Slot), va_P D vwCl (Wd49 cI aR q_hasImage q_place q_rowAt q_rowEnd q_seed q_thrown q_s q_m) H → va_D A (Wd49 cI aR q_hasImage q_place q_rowAt q_rowEnd q_seed q_thrown q_s q_m) → va_S A s.heap H locs → lv_has ls 3 [(0, .ref (aR 0)), (1, .int x1), (2, .int y2)] → S_MD_finds_L23 x1 n23 y2 q_m = some o → W p l e rm_X12_finds s m ([.ref (aR 0), .int x1] : List Value).toArray below meth c H locs 0 0 Q (F0 m 23 ls []) := by
      intro n23
      induction n23 with
      | zero => intro y2 q_m H locs ls hP hD hS hl h; exact absurd h (by simp [S_MD_finds_L23])
      | succ n23 ih23 =>
        intro y2 q_m H locs ls hP hD hS hl h
        rw [S_MD_finds_L23] at h
        refine lv_iload_n hx hb dX12_finds_23 rfl (lv_at hl 2 rfl) ?_
        refine lv_bipush (v := 60) hx hb dX12_finds_24 (by decide) ?_
        refine lv_icmp_gt (tgt := 54) hx hb dX12_finds_26 (by decide) (fun c26 => ?_) (fun c26 => ?_)
        · have h := k_pos c26 h
          refine lv_bipush (v := (-4)) hx hb dX12_finds_54 (by decide) ?_
          cases h
          exact hret _ _ _ _ hP hS dX12_finds_56
        · have h := k_neg c26 h
          refine lv_aload_n hx hb dX12_finds_29 rfl (lv_at hl 0 rfl) ?_
          refine va_get (D := D) (ci := 12) (v := .ref (aR 2)) (C := RX12) (T := TX12) (N := 18) hx hb hts hiX12 hown hK hP 0 rfl rfl 1 (by decide) hf13 (fun _ z => z) rfl dX12_finds_30 ?_
          refine lv_iconst (v := 2) hx hb dX12_finds_33 (by decide) ?_
          refine va_iald hx hb hK hP 2 0 rfl rfl (by decide) dX12_finds_34 ?_
          refine lv_iload_n hx hb dX12_finds_35 rfl (lv_at hl 1 rfl) ?_
          refine lv_icmp_ne (tgt := 41) hx hb dX12_finds_36 (by decide) (fun c36 => ?_) (fun c36 => ?_)
          · have h := k_neg c36 h
            refine lv_aload_n hx hb dX12_finds_41 rfl (lv_at hl 0 rfl) ?_
            refine va_get (D := D) (ci := 12) (v := .ref (aR 2)) (C := RX12) (T := TX12) (N := 18) hx hb hts hiX12 hown hK hP 0 rfl rfl 1 (by decide) hf13 (fun _ z => z) rfl dX12_finds_42 ?_
            obtain ⟨r45, g45, h⟩ := k_bind h
            refine k_callS (As := [.ref (aR 2)]) (rest := []) (st1 := []) (ws2 := (Wd49 cI aR q_hasImage q_place q_rowAt q_rowEnd q_seed q_thrown q_s r45)) hx hb hml hown hts hK hN hA hP hD hS hl (c_MD_day l D cI cM cS cJ (aR 2) H.size q_m g45) gX12_finds_X12_day rfl kdS_X12_day [2] ⟨rfl, rfl⟩ ⟨Nat.le_of_ble_eq_true rfl, Nat.le_of_ble_eq_true rfl⟩ ⟨Nat.zero_le _, Nat.zero_le _⟩ rfl rfl (by decide +kernel) rfl rfl rfl (Nat.le_of_ble_eq_true rfl) dX12_finds_45 rfl (fun H locs hP hD hS => ?_)
            refine lv_iinc (v := (y2 + 1)) (lv' := [(2, .int (y2 + 1)), (0, .ref (aR 0)), (1, .int x1)]) hx hb dX12_finds_48 hl (k := 2) rfl (by first | rfl | decide) (by decide) rfl (fun ls hl => ?_)
            refine lv_goto (tgt := 23) hx hb dX12_finds_51 (by decide) ?_
            exact ih23 (y2 + 1) r45 H locs ls hP hD hS (lv_sub hl [1, 2, 0] rfl) h
          · have h := k_pos c36 h
            refine lv_iload_n hx hb dX12_finds_39 rfl (lv_at hl 2 rfl) ?_
            cases h
            exact hret _ _ _ _ hP hS dX12_finds_40
    refine lv_istore_n (lv' := [(2, .int 0), (0, .ref (aR 0)), (1, .int x1)]) hx hb dX12_finds_22 rfl hl (by decide) rfl (fun ls hl => ?_)
    exact B23 lfu 0 r18 H locs ls hP hD hS (lv_sub hl [1, 2, 0] rfl) h
  · have h := k_pos c5 h
    refine lv_iconst (v := (-1)) hx hb dX12_finds_8 (by decide) ?_
    cases h
    exact hret _ _ _ _ hP hS dX12_finds_9
abbrev rm_X12_mostTrusted : Room := { frames := 3, cells := 0, slots := 0, locals := 68 }
set_option maxHeartbeats 4000000 in
set_option maxRecDepth 100000 in
theorem c_MD_mostTrusted (l : Launch) (D : va_G) (cI cM cS cJ : ClassId) (aR : Nat → Nat) (sz : Nat) (q_hasImage : Int32) (q_place : Int32) (q_rowAt : Int32) (q_rowEnd : Int32) (q_seed : Int32) (q_thrown : Int32) (q_s : Nat → Int32) {o : (Int32)} (hsem : S_MD_mostTrusted q_s = some o) : kMet l yX12_mostTrusted wsX12_mostTrusted rm_X12_mostTrusted [.ref (aR 0)] D (kT cI cM cS cJ) (Wd40 cI aR q_hasImage q_place q_rowAt q_rowEnd q_seed q_thrown q_s) sz (some (.int o)) (Wd40 cI aR q_hasImage q_place q_rowAt q_rowEnd q_seed q_thrown q_s) := by
  refine k_metI (by decide) rfl rfl (Nat.le_of_ble_eq_true rfl) ?_
  intro p e s m below meth c ls Q A hx hb hml hts hown hK hN hA hP hD hS hl hsz hnm hret
  have hown : s.vm.findClass RX12 = some m.cls := hown
  have hf9 := hts (.fieldLink RX12 9 "PlumbLineModel" "s" "[I") (List.mem_of_getElem? (i := 1) rfl)
  have hiX12 : ∀ w ∈ u_ws RX12 TX12 18, w ∈ wsX12_mostTrusted := fun w h => List.mem_cons_of_mem _ (List.mem_append_right _ h)
  replace hl : lv_has ls 3 [(0, .ref (aR 0))] := hl
  have h := hsem
  clear hsem
  rw [S_MD_mostTrusted] at h
  refine lv_bipush (v := (-4)) hx hb dX12_mostTrusted_0 (by decide) ?_
  refine lv_istore_n (lv' := [(1, .int (-4)), (0, .ref (aR 0))]) hx hb dX12_mostTrusted_2 rfl hl (by decide) rfl (fun ls hl => ?_)
  refine lv_iconst (v := 0) hx hb dX12_mostTrusted_3 (by decide) ?_
  have B5 : ∀ (n5 : Nat) (y1 : Int32) (y2 : Int32) (H : Heap) (locs : List Loc) (ls : Array Slot), va_P D vwCl (Wd40 cI aR q_hasImage q_place q_rowAt q_rowEnd q_seed q_thrown q_s) H → va_D A (Wd40 cI aR q_hasImage q_place q_rowAt q_rowEnd q_seed q_thrown q_s) → va_S A s.heap H locs → lv_has ls 3 [(0, .ref (aR 0)), (1, .int y1), (2, .int y2)] → S_MD_mostTrusted_L5 q_s n5 y1 y2 = some o → W p l e rm_X12_mostTrusted s m ([.ref (aR 0)] : List Value).toArray below meth c H locs 0 0 Q (F0 m 5 ls []) := by
    intro n5
    induction n5 with
    | zero => intro y1 y2 H locs ls hP hD hS hl h; exact absurd h (by simp [S_MD_mostTrusted_L5])
    | succ n5 ih5 =>
      intro y1 y2 H locs ls hP hD hS hl h
      rw [S_MD_mostTrusted_L5] at h
      refine lv_iload_n hx hb dX12_mostTrusted_5 rfl (lv_at hl 2 rfl) ?_
      refine lv_aload_n hx hb dX12_mostTrusted_6 rfl (lv_at hl 0 rfl) ?_
      refine va_get (D := D) (ci := 12) (v := .ref (aR 1)) (C := RX12) (T := TX12) (N := 18) hx hb hts hiX12 hown hK hP 0 rfl rfl 0 (by decide) hf9 (fun _ z => z) rfl dX12_mostTrusted_7 ?_
      refine lv_iconst (v := 0) hx hb dX12_mostTrusted_10 (by decide) ?_
      refine va_iald hx hb hK hP 1 0 rfl rfl (by decide) dX12_mostTrusted_11 ?_
      refine lv_icmp_ge (tgt := 46) hx hb dX12_mostTrusted_12 (by decide) (fun c12 => ?_) (fun c12 => ?_)
      · have h := k_pos c12 h
        refine lv_iload_n hx hb dX12_mostTrusted_46 rfl (lv_at hl 1 rfl) ?_
        cases h
        exact hret _ _ _ _ hP hS dX12_mostTrusted_47
      · have h := k_neg c12 h
        refine lv_iload_n hx hb dX12_mostTrusted_15 rfl (lv_at hl 1 rfl) ?_
        refine lv_if_lt (tgt := 38) hx hb dX12_mostTrusted_16 (by decide) (fun c16 => ?_) (fun c16 => ?_)
        · have h := k_pos c16 h
          refine lv_iload_n hx hb dX12_mostTrusted_38 rfl (lv_at hl 2 rfl) ?_
          refine lv_istore_n (lv' := [(1, .int y2), (0, .ref (aR 0)), (2, .int y2)]) hx hb dX12_mostTrusted_39 rfl hl (by decide) rfl (fun ls hl => ?_)
          refine lv_iinc (v := (y2 + 1)) (lv' := [(2, .int (y2 + 1)), (1, .int y2), (0, .ref (aR 0))]) hx hb dX12_mostTrusted_40 hl (k := 2) rfl (by first | rfl | decide) (by decide) rfl (fun ls hl => ?_)
          refine lv_goto (tgt := 5) hx hb dX12_mostTrusted_43 (by decide) ?_
          exact ih5 y2 (y2 + 1) H locs ls hP hD hS (lv_sub hl [2, 1, 0] rfl) h
        · have h := k_neg c16 h
          refine lv_aload_n hx hb dX12_mostTrusted_19 rfl (lv_at hl 0 rfl) ?_
          refine lv_iload_n hx hb dX12_mostTrusted_20 rfl (lv_at hl 2 rfl) ?_
          obtain ⟨r21, g21, h⟩ := k_bind h
          refine k_callV (As := [.int y2]) (rest := []) (st1 := [.int r21]) (ws2 := (Wd40 cI aR q_hasImage q_place q_rowAt q_rowEnd q_seed q_thrown q_s)) hx hb hml hown hts hK hN hA hP hD hS hl (c_MD_trustedBy l D cI cM cS cJ aR H.size y2 q_hasImage q_place q_rowAt q_rowEnd q_seed q_thrown q_s g21) gX12_mostTrusted_X12_trustedBy rfl kdV_X12_trustedBy 0 12 rfl rfl rfl [0, 1] ⟨rfl, rfl⟩ ⟨Nat.le_of_ble_eq_true rfl, Nat.le_of_ble_eq_true rfl⟩ ⟨Nat.zero_le _, Nat.zero_le _⟩ rfl rfl (by decide +kernel) rfl rfl rfl (Nat.le_of_ble_eq_true rfl) dX12_mostTrusted_21 rfl (fun H locs hP hD hS => ?_)
          obtain ⟨r24, g24, h⟩ := k_bind h
          refine k_callS (As := [.int r21]) (rest := []) (st1 := [.int r24]) (ws2 := (Wd40 cI aR q_hasImage q_place q_rowAt q_rowEnd q_seed q_thrown q_s)) hx hb hml hown hts hK hN hA hP hD hS hl (c_MD_bits l D cI cM cS cJ H.size r21 g24) gX12_mostTrusted_X12_bits rfl kdS_X12_bits [] ⟨rfl, rfl⟩ ⟨Nat.le_of_ble_eq_true rfl, Nat.le_of_ble_eq_true rfl⟩ ⟨Nat.zero_le _, Nat.zero_le _⟩ rfl rfl (by decide +kernel) rfl rfl rfl (Nat.le_of_ble_eq_true rfl) dX12_mostTrusted_24 rfl (fun H locs hP hD hS => ?_)
          refine lv_aload_n hx hb dX12_mostTrusted_27 rfl (lv_at hl 0 rfl) ?_
          refine lv_iload_n hx hb dX12_mostTrusted_28 rfl (lv_at hl 1 rfl) ?_
          obtain ⟨r29, g29, h⟩ := k_bind h
          refine k_callV (As := [.int y1]) (rest := [.int r24]) (st1 := [.int r29, .int r24]) (ws2 := (Wd40 cI aR q_hasImage q_place q_rowAt q_rowEnd q_seed q_thrown q_s)) hx hb hml hown hts hK hN hA hP hD hS hl (c_MD_trustedBy l D cI cM cS cJ aR H.size y1 q_hasImage q_place q_rowAt q_rowEnd q_seed q_thrown q_s g29) gX12_mostTrusted_X12_trustedBy rfl kdV_X12_trustedBy 0 12 rfl rfl rfl [0, 1] ⟨rfl, rfl⟩ ⟨Nat.le_of_ble_eq_true rfl, Nat.le_of_ble_eq_true rfl⟩ ⟨Nat.zero_le _, Nat.zero_le _⟩ rfl rfl (by decide +kernel) rfl rfl rfl (Nat.le_of_ble_eq_true rfl) dX12_mostTrusted_29 rfl (fun H locs hP hD hS => ?_)
          obtain ⟨r32, g32, h⟩ := k_bind h
          refine k_callS (As := [.int r29]) (rest := [.int r24]) (st1 := [.int r32, .int r24]) (ws2 := (Wd40 cI aR q_hasImage q_place q_rowAt q_rowEnd q_seed q_thrown q_s)) hx hb hml hown hts hK hN hA hP hD hS hl (c_MD_bits l D cI cM cS cJ H.size r29 g32) gX12_mostTrusted_X12_bits rfl kdS_X12_bits [] ⟨rfl, rfl⟩ ⟨Nat.le_of_ble_eq_true rfl, Nat.le_of_ble_eq_true rfl⟩ ⟨Nat.zero_le _, Nat.zero_le _⟩ rfl rfl (by decide +kernel) rfl rfl rfl (Nat.le_of_ble_eq_true rfl) dX12_mostTrusted_32 rfl (fun H locs hP hD hS => ?_)
          refine lv_icmp_le (tgt := 40) hx hb dX12_mostTrusted_35 (by decide) (fun c35 => ?_) (fun c35 => ?_)
          · have h := k_pos c35 h
            refine lv_iinc (v := (y2 + 1)) (lv' := [(2, .int (y2 + 1)), (0, .ref (aR 0)), (1, .int y1)]) hx hb dX12_mostTrusted_40 hl (k := 2) rfl (by first | rfl | decide) (by decide) rfl (fun ls hl => ?_)
            refine lv_goto (tgt := 5) hx hb dX12_mostTrusted_43 (by decide) ?_
            exact ih5 y1 (y2 + 1) H locs ls hP hD hS (lv_sub hl [1, 2, 0] rfl) h
          · have h := k_neg c35 h
            refine lv_iload_n hx hb dX12_mostTrusted_38 rfl (lv_at hl 2 rfl) ?_
            refine lv_istore_n (lv' := [(1, .int y2), (0, .ref (aR 0)), (2, .int y2)]) hx hb dX12_mostTrusted_39 rfl hl (by decide) rfl (fun ls hl => ?_)
            refine lv_iinc (v := (y2 + 1)) (lv' := [(2, .int (y2 + 1)), (1, .int y2), (0, .ref (aR 0))]) hx hb dX12_mostTrusted_40 hl (k := 2) rfl (by first | rfl | decide) (by decide) rfl (fun ls hl => ?_)
            refine lv_goto (tgt := 5) hx hb dX12_mostTrusted_43 (by decide) ?_
            exact ih5 y2 (y2 + 1) H locs ls hP hD hS (lv_sub hl [2, 1, 0] rfl) h
  refine lv_istore_n (lv' := [(2, .int 0), (1, .int (-4)), (0, .ref (aR 0))]) hx hb dX12_mostTrusted_4 rfl hl (by decide) rfl (fun ls hl => ?_)
  exact B5 lfu (-4) 0 s.heap [] ls hP hD hS (lv_sub hl [2, 1, 0] rfl) h
theorem kdV_X12_mostTrusted : yX12_mostTrusted.cls = RX12 ∧ yX12_mostTrusted.cls ≠ "java/lang/invoke/MethodHandle" ∧ yX12_mostTrusted.cls ≠ "java/lang/invoke/VarHandle" ∧ (parseMethodDescriptor yX12_mostTrusted.desc).map (fun d => d.parameters.length) = some 0 := by decide +kernel
abbrev rm_X12_trust : Room := { frames := 4, cells := 0, slots := 0, locals := 90 }
set_option maxHeartbeats 4000000 in
set_option maxRecDepth 100000 in
theorem c_MD_trust (l : Launch) (D : va_G) (cI cM cS cJ : ClassId) (aR : Nat → Nat) (sz : Nat) (x1 : Int32) (q_hasImage : Int32) (q_place : Int32) (q_rowAt : Int32) (q_rowEnd : Int32) (q_seed : Int32) (q_thrown : Int32) (q_s : Nat → Int32) {o : (Int32)} (hsem : S_MD_trust x1 q_s = some o) : kMet l yX12_trust wsX12_trust rm_X12_trust [.ref (aR 0), .int x1] D (kT cI cM cS cJ) (Wd40 cI aR q_hasImage q_place q_rowAt q_rowEnd q_seed q_thrown q_s) sz (some (.int o)) (Wd40 cI aR q_hasImage q_place q_rowAt q_rowEnd q_seed q_thrown q_s) := by
  refine k_metI (by decide) rfl rfl (Nat.le_of_ble_eq_true rfl) ?_
  intro p e s m below meth c ls Q A hx hb hml hts hown hK hN hA hP hD hS hl hsz hnm hret
  have hown : s.vm.findClass RX12 = some m.cls := hown
  have hf9 := hts (.fieldLink RX12 9 "PlumbLineModel" "s" "[I") (List.mem_of_getElem? (i := 1) rfl)
  have hiX12 : ∀ w ∈ u_ws RX12 TX12 18, w ∈ wsX12_trust := fun w h => List.mem_cons_of_mem _ (List.mem_append_right _ h)
  replace hl : lv_has ls 7 [(0, .ref (aR 0)), (1, .int x1)] := hl
  have h := hsem
  clear hsem
  rw [S_MD_trust] at h
  refine lv_iload_n hx hb dX12_trust_0 rfl (lv_at hl 1 rfl) ?_
  refine lv_iconst (v := 0) hx hb dX12_trust_1 (by decide) ?_
  refine lv_iconst (v := 4) hx hb dX12_trust_2 (by decide) ?_
  refine k_callS (As := [.int x1, .int 0, .int 4]) (rest := []) (st1 := [.int (S_MD_isIn x1 0 4)]) (ws2 := (Wd40 cI aR q_hasImage q_place q_rowAt q_rowEnd q_seed q_thrown q_s)) hx hb hml hown hts hK hN hA hP hD hS hl (c_MD_isIn l D cI cM cS cJ s.heap.size x1 0 4 rfl) gX12_trust_X12_isIn rfl kdS_X12_isIn [] ⟨rfl, rfl⟩ ⟨Nat.le_of_ble_eq_true rfl, Nat.le_of_ble_eq_true rfl⟩ ⟨Nat.zero_le _, Nat.zero_le _⟩ rfl rfl (by decide +kernel) rfl rfl rfl (Nat.le_of_ble_eq_true rfl) dX12_trust_3 rfl (fun H locs hP hD hS => ?_)
  refine lv_if_ne (tgt := 11) hx hb dX12_trust_6 (by decide) (fun c6 => ?_) (fun c6 => ?_)
  · have h := k_neg c6 h
    refine lv_iconst (v := 0) hx hb dX12_trust_11 (by decide) ?_
    refine lv_istore_n (lv' := [(2, .int 0), (0, .ref (aR 0)), (1, .int x1)]) hx hb dX12_trust_12 rfl hl (by decide) rfl (fun ls hl => ?_)
    refine lv_iconst (v := 0) hx hb dX12_trust_13 (by decide) ?_
    refine lv_istore_n (lv' := [(3, .int 0), (2, .int 0), (0, .ref (aR 0)), (1, .int x1)]) hx hb dX12_trust_14 rfl hl (by decide) rfl (fun ls hl => ?_)
    refine lv_iconst (v := 0) hx hb dX12_trust_15 (by decide) ?_
    refine lv_istore (lv' := [(4, .int 0), (3, .int 0), (2, .int 0), (0, .ref (aR 0)), (1, .int x1)]) hx hb dX12_trust_16 hl (by decide) rfl (fun ls hl => ?_)
    refine lv_iconst (v := 0) hx hb dX12_trust_18 (by decide) ?_
    have B21 : ∀ (n21 : Nat) (y2 : Int32) (y3 : Int32) (y4 : Int32) (y5 : Int32) (H : Heap) (locs : List Loc) (ls : Array Slot), va_P D vwCl (Wd40 cI aR q_hasImage q_place q_rowAt q_rowEnd q_seed q_thrown q_s) H → va_D A (Wd40 cI aR q_hasImage q_place q_rowAt q_rowEnd q_seed q_thrown q_s) → va_S A s.heap H locs → lv_has ls 7 [(0, .ref (aR 0)), (1, .int x1), (2, .int y2), (3, .int y3), (4, .int y4), (5, .int y5)] → S_MD_trust_L21 x1 q_s n21 y2 y3 y4 y5 = some o → W p l e rm_X12_trust s m ([.ref (aR 0), .int x1] : List Value).toArray below meth c H locs 0 0 Q (F0 m 21 ls []) := by
      intro n21
      induction n21 with
      | zero => intro y2 y3 y4 y5 H locs ls hP hD hS hl h; exact absurd h (by simp [S_MD_trust_L21])
      | succ n21 ih21 =>
        intro y2 y3 y4 y5 H locs ls hP hD hS hl h
        rw [S_MD_trust_L21] at h
        refine lv_iload hx hb dX12_trust_21 (lv_at hl 5 rfl) ?_
        refine lv_aload_n hx hb dX12_trust_23 rfl (lv_at hl 0 rfl) ?_
        refine va_get (D := D) (ci := 12) (v := .ref (aR 1)) (C := RX12) (T := TX12) (N := 18) hx hb hts hiX12 hown hK hP 0 rfl rfl 0 (by decide) hf9 (fun _ z => z) rfl dX12_trust_24 ?_
        refine lv_iconst (v := 0) hx hb dX12_trust_27 (by decide) ?_
        refine va_iald hx hb hK hP 1 0 rfl rfl (by decide) dX12_trust_28 ?_
        refine lv_icmp_ge (tgt := 124) hx hb dX12_trust_29 (by decide) (fun c29 => ?_) (fun c29 => ?_)
        · have h := k_pos c29 h
          refine lv_iload_n hx hb dX12_trust_124 rfl (lv_at hl 1 rfl) ?_
          refine lv_if_ne (tgt := 135) hx hb dX12_trust_125 (by decide) (fun c125 => ?_) (fun c125 => ?_)
          · have h := k_neg c125 h
            refine lv_iload_n hx hb dX12_trust_135 rfl (lv_at hl 1 rfl) ?_
            refine lv_iconst (v := 1) hx hb dX12_trust_136 (by decide) ?_
            refine lv_icmp_ne (tgt := 144) hx hb dX12_trust_137 (by decide) (fun c137 => ?_) (fun c137 => ?_)
            · have h := k_neg c137 h
              refine lv_iload_n hx hb dX12_trust_144 rfl (lv_at hl 1 rfl) ?_
              refine lv_iconst (v := 2) hx hb dX12_trust_145 (by decide) ?_
              refine lv_icmp_ne (tgt := 159) hx hb dX12_trust_146 (by decide) (fun c146 => ?_) (fun c146 => ?_)
              · have h := k_neg c146 h
                refine lv_iload_n hx hb dX12_trust_159 rfl (lv_at hl 1 rfl) ?_
                refine lv_iconst (v := 3) hx hb dX12_trust_160 (by decide) ?_
                refine lv_icmp_ne (tgt := 168) hx hb dX12_trust_161 (by decide) (fun c161 => ?_) (fun c161 => ?_)
                · have h := k_neg c161 h
                  refine lv_iload hx hb dX12_trust_168 (lv_at hl 4 rfl) ?_
                  cases h
                  exact hret _ _ _ _ hP hS dX12_trust_170
                · have h := k_pos c161 h
                  refine lv_iload_n hx hb dX12_trust_164 rfl (lv_at hl 3 rfl) ?_
                  refine lv_goto (tgt := 170) hx hb dX12_trust_165 (by decide) ?_
                  cases h
                  exact hret _ _ _ _ hP hS dX12_trust_170
              · have h := k_pos c146 h
                refine lv_aload_n hx hb dX12_trust_149 rfl (lv_at hl 0 rfl) ?_
                refine va_get (D := D) (ci := 12) (v := .ref (aR 1)) (C := RX12) (T := TX12) (N := 18) hx hb hts hiX12 hown hK hP 0 rfl rfl 0 (by decide) hf9 (fun _ z => z) rfl dX12_trust_150 ?_
                obtain ⟨r153, g153, h⟩ := k_bind h
                refine k_callS (As := [.ref (aR 1)]) (rest := []) (st1 := [.int r153]) (ws2 := (Wd40 cI aR q_hasImage q_place q_rowAt q_rowEnd q_seed q_thrown q_s)) hx hb hml hown hts hK hN hA hP hD hS hl (c_MD_plumb l D cI cM cS cJ (aR 1) H.size q_s g153) gX12_trust_X12_plumb rfl kdS_X12_plumb [1] ⟨rfl, rfl⟩ ⟨Nat.le_of_ble_eq_true rfl, Nat.le_of_ble_eq_true rfl⟩ ⟨Nat.zero_le _, Nat.zero_le _⟩ rfl rfl (by decide +kernel) rfl rfl rfl (Nat.le_of_ble_eq_true rfl) dX12_trust_153 rfl (fun H locs hP hD hS => ?_)
                refine lv_goto (tgt := 170) hx hb dX12_trust_156 (by decide) ?_
                cases h
                exact hret _ _ _ _ hP hS dX12_trust_170
            · have h := k_pos c137 h
              refine lv_iload_n hx hb dX12_trust_140 rfl (lv_at hl 2 rfl) ?_
              refine lv_goto (tgt := 170) hx hb dX12_trust_141 (by decide) ?_
              cases h
              exact hret _ _ _ _ hP hS dX12_trust_170
          · have h := k_pos c125 h
            refine lv_aload_n hx hb dX12_trust_128 rfl (lv_at hl 0 rfl) ?_
            obtain ⟨r129, g129, h⟩ := k_bind h
            refine k_callV (As := []) (rest := []) (st1 := [.int r129]) (ws2 := (Wd40 cI aR q_hasImage q_place q_rowAt q_rowEnd q_seed q_thrown q_s)) hx hb hml hown hts hK hN hA hP hD hS hl (c_MD_mostTrusted l D cI cM cS cJ aR H.size q_hasImage q_place q_rowAt q_rowEnd q_seed q_thrown q_s g129) gX12_trust_X12_mostTrusted rfl kdV_X12_mostTrusted 0 12 rfl rfl rfl [0, 1] ⟨rfl, rfl⟩ ⟨Nat.le_of_ble_eq_true rfl, Nat.le_of_ble_eq_true rfl⟩ ⟨Nat.zero_le _, Nat.zero_le _⟩ rfl rfl (by decide +kernel) rfl rfl rfl (Nat.le_of_ble_eq_true rfl) dX12_trust_129 rfl (fun H locs hP hD hS => ?_)
            refine lv_goto (tgt := 170) hx hb dX12_trust_132 (by decide) ?_
            cases h
            exact hret _ _ _ _ hP hS dX12_trust_170
        · have h := k_neg c29 h
          refine lv_iload_n hx hb dX12_trust_32 rfl (lv_at hl 3 rfl) ?_
          refine lv_aload_n hx hb dX12_trust_33 rfl (lv_at hl 0 rfl) ?_
          refine va_get (D := D) (ci := 12) (v := .ref (aR 1)) (C := RX12) (T := TX12) (N := 18) hx hb hts hiX12 hown hK hP 0 rfl rfl 0 (by decide) hf9 (fun _ z => z) rfl dX12_trust_34 ?_
          refine lv_iload hx hb dX12_trust_37 (lv_at hl 5 rfl) ?_
          refine lv_iconst (v := 2) hx hb dX12_trust_39 (by decide) ?_
          refine k_callS (As := [.int y5, .int 2]) (rest := [.ref (aR 1), .int y3]) (st1 := [.int (S_MD_of y5 2), .ref (aR 1), .int y3]) (ws2 := (Wd40 cI aR q_hasImage q_place q_rowAt q_rowEnd q_seed q_thrown q_s)) hx hb hml hown hts hK hN hA hP hD hS hl (c_MD_of l D cI cM cS cJ H.size y5 2 rfl) gX12_trust_X12_of rfl kdS_X12_of [] ⟨rfl, rfl⟩ ⟨Nat.le_of_ble_eq_true rfl, Nat.le_of_ble_eq_true rfl⟩ ⟨Nat.zero_le _, Nat.zero_le _⟩ rfl rfl (by decide +kernel) rfl rfl rfl (Nat.le_of_ble_eq_true rfl) dX12_trust_40 rfl (fun H locs hP hD hS => ?_)
          obtain ⟨g43, h⟩ := k_guard h
          refine va_iald hx hb hK hP 1 0 rfl rfl g43 dX12_trust_43 ?_
          have B52 : ∀ (y2 : Int32) (y4 : Int32) (y5 : Int32) (v0 : Int32) (v1 : Int32) (H : Heap) (locs : List Loc) (ls : Array Slot), va_P D vwCl (Wd40 cI aR q_hasImage q_place q_rowAt q_rowEnd q_seed q_thrown q_s) H → va_D A (Wd40 cI aR q_hasImage q_place q_rowAt q_rowEnd q_seed q_thrown q_s) → va_S A s.heap H locs → lv_has ls 7 [(0, .ref (aR 0)), (1, .int x1), (2, .int y2), (4, .int y4), (5, .int y5)] → S_MD_trust_J52 (S_MD_trust_L21 x1 q_s n21) y2 y4 y5 v0 v1 q_s = some o → W p l e rm_X12_trust s m ([.ref (aR 0), .int x1] : List Value).toArray below meth c H locs 0 0 Q (F0 m 52 ls [.int v1, .int v0]) := by
            intro y2 y4 y5 v0 v1 H locs ls hP hD hS hl h
            rw [S_MD_trust_J52] at h
            refine lv_iadd hx hb dX12_trust_52 ?_
            refine lv_istore_n (lv' := [(3, .int (v0 + v1)), (0, .ref (aR 0)), (1, .int x1), (2, .int y2), (4, .int y4), (5, .int y5)]) hx hb dX12_trust_53 rfl hl (by decide) rfl (fun ls hl => ?_)
            refine lv_iload hx hb dX12_trust_54 (lv_at hl 4 rfl) ?_
            refine lv_aload_n hx hb dX12_trust_56 rfl (lv_at hl 1 rfl) ?_
            refine lv_iload hx hb dX12_trust_57 (lv_at hl 5 rfl) ?_
            obtain ⟨r59, g59, h⟩ := k_bind h
            refine k_callV (As := [.int y5]) (rest := [.int y4]) (st1 := [.int r59, .int y4]) (ws2 := (Wd40 cI aR q_hasImage q_place q_rowAt q_rowEnd q_seed q_thrown q_s)) hx hb hml hown hts hK hN hA hP hD hS hl (c_MD_discount l D cI cM cS cJ aR H.size y5 q_hasImage q_place q_rowAt q_rowEnd q_seed q_thrown q_s g59) gX12_trust_X12_discount rfl kdV_X12_discount 0 12 rfl rfl rfl [0, 1] ⟨rfl, rfl⟩ ⟨Nat.le_of_ble_eq_true rfl, Nat.le_of_ble_eq_true rfl⟩ ⟨Nat.zero_le _, Nat.zero_le _⟩ rfl rfl (by decide +kernel) rfl rfl rfl (Nat.le_of_ble_eq_true rfl) dX12_trust_59 rfl (fun H locs hP hD hS => ?_)
            refine lv_iadd hx hb dX12_trust_62 ?_
            refine lv_istore (lv' := [(4, .int (y4 + r59)), (3, .int (v0 + v1)), (0, .ref (aR 0)), (1, .int x1), (2, .int y2), (5, .int y5)]) hx hb dX12_trust_63 hl (by decide) rfl (fun ls hl => ?_)
            refine lv_iload hx hb dX12_trust_65 (lv_at hl 5 rfl) ?_
            refine lv_iconst (v := 1) hx hb dX12_trust_67 (by decide) ?_
            refine lv_iadd hx hb dX12_trust_68 ?_
            have B71 : ∀ (y3 : Int32) (y4 : Int32) (y5 : Int32) (n71 : Nat) (y2 : Int32) (y6 : Int32) (H : Heap) (locs : List Loc) (ls : Array Slot), va_P D vwCl (Wd40 cI aR q_hasImage q_place q_rowAt q_rowEnd q_seed q_thrown q_s) H → va_D A (Wd40 cI aR q_hasImage q_place q_rowAt q_rowEnd q_seed q_thrown q_s) → va_S A s.heap H locs → lv_has ls 7 [(0, .ref (aR 0)), (1, .int x1), (2, .int y2), (3, .int y3), (4, .int y4), (5, .int y5), (6, .int y6)] → S_MD_trust_L71 (S_MD_trust_L21 x1 q_s n21) y3 y4 y5 q_s n71 y2 y6 = some o → W p l e rm_X12_trust s m ([.ref (aR 0), .int x1] : List Value).toArray below meth c H locs 0 0 Q (F0 m 71 ls []) := by
              intro y3 y4 y5
              intro n71
              induction n71 with
              | zero => intro y2 y6 H locs ls hP hD hS hl h; exact absurd h (by simp [S_MD_trust_L71])
              | succ n71 ih71 =>
                intro y2 y6 H locs ls hP hD hS hl h
                rw [S_MD_trust_L71] at h
                refine lv_iload hx hb dX12_trust_71 (lv_at hl 6 rfl) ?_
                refine lv_aload_n hx hb dX12_trust_73 rfl (lv_at hl 0 rfl) ?_
                refine va_get (D := D) (ci := 12) (v := .ref (aR 1)) (C := RX12) (T := TX12) (N := 18) hx hb hts hiX12 hown hK hP 0 rfl rfl 0 (by decide) hf9 (fun _ z => z) rfl dX12_trust_74 ?_
                refine lv_iconst (v := 0) hx hb dX12_trust_77 (by decide) ?_
                refine va_iald hx hb hK hP 1 0 rfl rfl (by decide) dX12_trust_78 ?_
                refine lv_icmp_ge (tgt := 118) hx hb dX12_trust_79 (by decide) (fun c79 => ?_) (fun c79 => ?_)
                · have h := k_pos c79 h
                  refine lv_iinc (v := (y5 + 1)) (lv' := [(5, .int (y5 + 1)), (0, .ref (aR 0)), (1, .int x1), (2, .int y2), (3, .int y3), (4, .int y4), (6, .int y6)]) hx hb dX12_trust_118 hl (k := 5) rfl (by first | rfl | decide) (by decide) rfl (fun ls hl => ?_)
                  refine lv_goto (tgt := 21) hx hb dX12_trust_121 (by decide) ?_
                  exact ih21 y2 y3 y4 (y5 + 1) H locs ls hP hD hS (lv_sub hl [1, 2, 3, 4, 5, 0] rfl) h
                · have h := k_neg c79 h
                  refine lv_iload_n hx hb dX12_trust_82 rfl (lv_at hl 2 rfl) ?_
                  refine lv_aload_n hx hb dX12_trust_83 rfl (lv_at hl 0 rfl) ?_
                  refine lv_iload hx hb dX12_trust_84 (lv_at hl 5 rfl) ?_
                  refine lv_iload hx hb dX12_trust_86 (lv_at hl 6 rfl) ?_
                  obtain ⟨r88, g88, h⟩ := k_bind h
                  refine k_callV (As := [.int y5, .int y6]) (rest := [.int y2]) (st1 := [.int r88, .int y2]) (ws2 := (Wd40 cI aR q_hasImage q_place q_rowAt q_rowEnd q_seed q_thrown q_s)) hx hb hml hown hts hK hN hA hP hD hS hl (c_MD_doesTrust l D cI cM cS cJ aR H.size y5 y6 q_hasImage q_place q_rowAt q_rowEnd q_seed q_thrown q_s g88) gX12_trust_X12_doesTrust rfl kdV_X12_doesTrust 0 12 rfl rfl rfl [0, 1] ⟨rfl, rfl⟩ ⟨Nat.le_of_ble_eq_true rfl, Nat.le_of_ble_eq_true rfl⟩ ⟨Nat.zero_le _, Nat.zero_le _⟩ rfl rfl (by decide +kernel) rfl rfl rfl (Nat.le_of_ble_eq_true rfl) dX12_trust_88 rfl (fun H locs hP hD hS => ?_)
                  refine lv_if_ne (tgt := 105) hx hb dX12_trust_91 (by decide) (fun c91 => ?_) (fun c91 => ?_)
                  · have h := k_neg c91 h
                    refine lv_iconst (v := 0) hx hb dX12_trust_105 (by decide) ?_
                    refine lv_goto (tgt := 110) hx hb dX12_trust_106 (by decide) ?_
                    refine lv_iadd hx hb dX12_trust_110 ?_
                    refine lv_istore_n (lv' := [(2, .int (y2 + 0)), (0, .ref (aR 0)), (1, .int x1), (3, .int y3), (4, .int y4), (5, .int y5), (6, .int y6)]) hx hb dX12_trust_111 rfl hl (by decide) rfl (fun ls hl => ?_)
                    refine lv_iinc (v := (y6 + 1)) (lv' := [(6, .int (y6 + 1)), (2, .int (y2 + 0)), (0, .ref (aR 0)), (1, .int x1), (3, .int y3), (4, .int y4), (5, .int y5)]) hx hb dX12_trust_112 hl (k := 6) rfl (by first | rfl | decide) (by decide) rfl (fun ls hl => ?_)
                    refine lv_goto (tgt := 71) hx hb dX12_trust_115 (by decide) ?_
                    exact ih71 (y2 + 0) (y6 + 1) H locs ls hP hD hS (lv_sub hl [2, 3, 1, 4, 5, 6, 0] rfl) h
                  · have h := k_pos c91 h
                    refine lv_aload_n hx hb dX12_trust_94 rfl (lv_at hl 0 rfl) ?_
                    refine lv_iload hx hb dX12_trust_95 (lv_at hl 6 rfl) ?_
                    refine lv_iload hx hb dX12_trust_97 (lv_at hl 5 rfl) ?_
                    obtain ⟨r99, g99, h⟩ := k_bind h
                    refine k_callV (As := [.int y6, .int y5]) (rest := [.int y2]) (st1 := [.int r99, .int y2]) (ws2 := (Wd40 cI aR q_hasImage q_place q_rowAt q_rowEnd q_seed q_thrown q_s)) hx hb hml hown hts hK hN hA hP hD hS hl (c_MD_doesTrust l D cI cM cS cJ aR H.size y6 y5 q_hasImage q_place q_rowAt q_rowEnd q_seed q_thrown q_s g99) gX12_trust_X12_doesTrust rfl kdV_X12_doesTrust 0 12 rfl rfl rfl [0, 1] ⟨rfl, rfl⟩ ⟨Nat.le_of_ble_eq_true rfl, Nat.le_of_ble_eq_true rfl⟩ ⟨Nat.zero_le _, Nat.zero_le _⟩ rfl rfl (by decide +kernel) rfl rfl rfl (Nat.le_of_ble_eq_true rfl) dX12_trust_99 rfl (fun H locs hP hD hS => ?_)
                    refine lv_if_eq (tgt := 109) hx hb dX12_trust_102 (by decide) (fun c102 => ?_) (fun c102 => ?_)
                    · have h := k_pos c102 h
                      refine lv_iconst (v := 1) hx hb dX12_trust_109 (by decide) ?_
                      refine lv_iadd hx hb dX12_trust_110 ?_
                      refine lv_istore_n (lv' := [(2, .int (y2 + 1)), (0, .ref (aR 0)), (1, .int x1), (3, .int y3), (4, .int y4), (5, .int y5), (6, .int y6)]) hx hb dX12_trust_111 rfl hl (by decide) rfl (fun ls hl => ?_)
                      refine lv_iinc (v := (y6 + 1)) (lv' := [(6, .int (y6 + 1)), (2, .int (y2 + 1)), (0, .ref (aR 0)), (1, .int x1), (3, .int y3), (4, .int y4), (5, .int y5)]) hx hb dX12_trust_112 hl (k := 6) rfl (by first | rfl | decide) (by decide) rfl (fun ls hl => ?_)
                      refine lv_goto (tgt := 71) hx hb dX12_trust_115 (by decide) ?_
                      exact ih71 (y2 + 1) (y6 + 1) H locs ls hP hD hS (lv_sub hl [2, 3, 1, 4, 5, 6, 0] rfl) h
                    · have h := k_neg c102 h
                      refine lv_iconst (v := 0) hx hb dX12_trust_105 (by decide) ?_
                      refine lv_goto (tgt := 110) hx hb dX12_trust_106 (by decide) ?_
                      refine lv_iadd hx hb dX12_trust_110 ?_
                      refine lv_istore_n (lv' := [(2, .int (y2 + 0)), (0, .ref (aR 0)), (1, .int x1), (3, .int y3), (4, .int y4), (5, .int y5), (6, .int y6)]) hx hb dX12_trust_111 rfl hl (by decide) rfl (fun ls hl => ?_)
                      refine lv_iinc (v := (y6 + 1)) (lv' := [(6, .int (y6 + 1)), (2, .int (y2 + 0)), (0, .ref (aR 0)), (1, .int x1), (3, .int y3), (4, .int y4), (5, .int y5)]) hx hb dX12_trust_112 hl (k := 6) rfl (by first | rfl | decide) (by decide) rfl (fun ls hl => ?_)
                      refine lv_goto (tgt := 71) hx hb dX12_trust_115 (by decide) ?_
                      exact ih71 (y2 + 0) (y6 + 1) H locs ls hP hD hS (lv_sub hl [2, 3, 1, 4, 5, 6, 0] rfl) h
            refine lv_istore (lv' := [(6, .int (y5 + 1)), (4, .int (y4 + r59)), (3, .int (v0 + v1)), (0, .ref (aR 0)), (1, .int x1), (2, .int y2), (5, .int y5)]) hx hb dX12_trust_69 hl (by decide) rfl (fun ls hl => ?_)
            exact B71 (v0 + v1) (y4 + r59) y5 lfu y2 (y5 + 1) H locs ls hP hD hS (lv_sub hl [3, 4, 5, 2, 1, 6, 0] rfl) h
          refine lv_if_le (tgt := 51) hx hb dX12_trust_44 (by decide) (fun c44 => ?_) (fun c44 => ?_)
          · have h := k_pos c44 h
            refine lv_iconst (v := 0) hx hb dX12_trust_51 (by decide) ?_
            exact B52 y2 y4 y5 y3 0 H locs ls hP hD hS (lv_sub hl [0, 1, 2, 4, 5] rfl) h
          · have h := k_neg c44 h
            refine lv_iconst (v := 1) hx hb dX12_trust_47 (by decide) ?_
            refine lv_goto (tgt := 52) hx hb dX12_trust_48 (by decide) ?_
            exact B52 y2 y4 y5 y3 1 H locs ls hP hD hS (lv_sub hl [0, 1, 2, 4, 5] rfl) h
    refine lv_istore (lv' := [(5, .int 0), (4, .int 0), (3, .int 0), (2, .int 0), (0, .ref (aR 0)), (1, .int x1)]) hx hb dX12_trust_19 hl (by decide) rfl (fun ls hl => ?_)
    exact B21 lfu 0 0 0 0 H locs ls hP hD hS (lv_sub hl [4, 5, 3, 2, 1, 0] rfl) h
  · have h := k_pos c6 h
    refine lv_iconst (v := (-1)) hx hb dX12_trust_9 (by decide) ?_
    cases h
    exact hret _ _ _ _ hP hS dX12_trust_10
theorem kdS_X12_has : yX12_has.cls ≠ "java/lang/invoke/MethodHandle" ∧ yX12_has.cls ≠ "java/lang/invoke/VarHandle" ∧ (parseMethodDescriptor yX12_has.desc).map (fun d => d.parameters.length) = some 2 := by decide +kernel
abbrev rm_X12_tells : Room := { frames := 3, cells := 0, slots := 0, locals := 68 }
set_option maxHeartbeats 4000000 in
set_option maxRecDepth 100000 in
theorem c_MD_tells (l : Launch) (D : va_G) (cI cM cS cJ : ClassId) (aR : Nat → Nat) (sz : Nat) (x1 : Int32) (q_hasImage : Int32) (q_place : Int32) (q_rowAt : Int32) (q_rowEnd : Int32) (q_seed : Int32) (q_thrown : Int32) (q_s : Nat → Int32) {o : (Int32)} (hsem : S_MD_tells x1 q_s = some o) : kMet l yX12_tells wsX12_tells rm_X12_tells [.ref (aR 0), .int x1] D (kT cI cM cS cJ) (Wd40 cI aR q_hasImage q_place q_rowAt q_rowEnd q_seed q_thrown q_s) sz (some (.int o)) (Wd40 cI aR q_hasImage q_place q_rowAt q_rowEnd q_seed q_thrown q_s) := by
  refine k_metI (by decide) rfl rfl (Nat.le_of_ble_eq_true rfl) ?_
  intro p e s m below meth c ls Q A hx hb hml hts hown hK hN hA hP hD hS hl hsz hnm hret
  have hown : s.vm.findClass RX12 = some m.cls := hown
  have hf9 := hts (.fieldLink RX12 9 "PlumbLineModel" "s" "[I") (List.mem_of_getElem? (i := 1) rfl)
  have hiX12 : ∀ w ∈ u_ws RX12 TX12 18, w ∈ wsX12_tells := fun w h => List.mem_cons_of_mem _ (List.mem_append_right _ h)
  replace hl : lv_has ls 5 [(0, .ref (aR 0)), (1, .int x1)] := hl
  have h := hsem
  clear hsem
  rw [S_MD_tells] at h
  refine lv_aload_n hx hb dX12_tells_0 rfl (lv_at hl 0 rfl) ?_
  refine lv_iload_n hx hb dX12_tells_1 rfl (lv_at hl 1 rfl) ?_
  obtain ⟨r2, g2, h⟩ := k_bind h
  refine k_callV (As := [.int x1]) (rest := []) (st1 := [.int r2]) (ws2 := (Wd40 cI aR q_hasImage q_place q_rowAt q_rowEnd q_seed q_thrown q_s)) hx hb hml hown hts hK hN hA hP hD hS hl (c_MD_isMan l D cI cM cS cJ aR s.heap.size x1 q_hasImage q_place q_rowAt q_rowEnd q_seed q_thrown q_s g2) gX12_tells_X12_isMan rfl kdV_X12_isMan 0 12 rfl rfl rfl [0, 1] ⟨rfl, rfl⟩ ⟨Nat.le_of_ble_eq_true rfl, Nat.le_of_ble_eq_true rfl⟩ ⟨Nat.zero_le _, Nat.zero_le _⟩ rfl rfl (by decide +kernel) rfl rfl rfl (Nat.le_of_ble_eq_true rfl) dX12_tells_2 rfl (fun H locs hP hD hS => ?_)
  refine lv_if_ne (tgt := 10) hx hb dX12_tells_5 (by decide) (fun c5 => ?_) (fun c5 => ?_)
  · have h := k_neg c5 h
    refine lv_aload_n hx hb dX12_tells_10 rfl (lv_at hl 0 rfl) ?_
    refine lv_iload_n hx hb dX12_tells_11 rfl (lv_at hl 1 rfl) ?_
    obtain ⟨r12, g12, h⟩ := k_bind h
    refine k_callV (As := [.int x1]) (rest := []) (st1 := [.int r12]) (ws2 := (Wd40 cI aR q_hasImage q_place q_rowAt q_rowEnd q_seed q_thrown q_s)) hx hb hml hown hts hK hN hA hP hD hS hl (c_MD_trustedBy l D cI cM cS cJ aR H.size x1 q_hasImage q_place q_rowAt q_rowEnd q_seed q_thrown q_s g12) gX12_tells_X12_trustedBy rfl kdV_X12_trustedBy 0 12 rfl rfl rfl [0, 1] ⟨rfl, rfl⟩ ⟨Nat.le_of_ble_eq_true rfl, Nat.le_of_ble_eq_true rfl⟩ ⟨Nat.zero_le _, Nat.zero_le _⟩ rfl rfl (by decide +kernel) rfl rfl rfl (Nat.le_of_ble_eq_true rfl) dX12_tells_12 rfl (fun H locs hP hD hS => ?_)
    refine lv_istore_n (lv' := [(2, .int r12), (0, .ref (aR 0)), (1, .int x1)]) hx hb dX12_tells_15 rfl hl (by decide) rfl (fun ls hl => ?_)
    refine lv_iconst (v := 0) hx hb dX12_tells_16 (by decide) ?_
    have B18 : ∀ (n18 : Nat) (y2 : Int32) (y3 : Int32) (H : Heap) (locs : List Loc) (ls : Array Slot), va_P D vwCl (Wd40 cI aR q_hasImage q_place q_rowAt q_rowEnd q_seed q_thrown q_s) H → va_D A (Wd40 cI aR q_hasImage q_place q_rowAt q_rowEnd q_seed q_thrown q_s) → va_S A s.heap H locs → lv_has ls 5 [(0, .ref (aR 0)), (2, .int y2), (3, .int y3)] → S_MD_tells_L18 q_s n18 y2 y3 = some o → W p l e rm_X12_tells s m ([.ref (aR 0), .int x1] : List Value).toArray below meth c H locs 0 0 Q (F0 m 18 ls []) := by
      intro n18
      induction n18 with
      | zero => intro y2 y3 H locs ls hP hD hS hl h; exact absurd h (by simp [S_MD_tells_L18])
      | succ n18 ih18 =>
        intro y2 y3 H locs ls hP hD hS hl h
        rw [S_MD_tells_L18] at h
        refine lv_iload_n hx hb dX12_tells_18 rfl (lv_at hl 2 rfl) ?_
        refine lv_bipush (v := 8) hx hb dX12_tells_19 (by decide) ?_
        refine lv_icmp_ge (tgt := 68) hx hb dX12_tells_21 (by decide) (fun c21 => ?_) (fun c21 => ?_)
        · have h := k_pos c21 h
          refine lv_iload_n hx hb dX12_tells_68 rfl (lv_at hl 1 rfl) ?_
          cases h
          exact hret _ _ _ _ hP hS dX12_tells_69
        · have h := k_neg c21 h
          refine lv_iconst (v := 0) hx hb dX12_tells_24 (by decide) ?_
          have B27 : ∀ (y3 : Int32) (n27 : Nat) (y2 : Int32) (y4 : Int32) (H : Heap) (locs : List Loc) (ls : Array Slot), va_P D vwCl (Wd40 cI aR q_hasImage q_place q_rowAt q_rowEnd q_seed q_thrown q_s) H → va_D A (Wd40 cI aR q_hasImage q_place q_rowAt q_rowEnd q_seed q_thrown q_s) → va_S A s.heap H locs → lv_has ls 5 [(0, .ref (aR 0)), (2, .int y2), (3, .int y3), (4, .int y4)] → S_MD_tells_L27 (S_MD_tells_L18 q_s n18) y3 q_s n27 y2 y4 = some o → W p l e rm_X12_tells s m ([.ref (aR 0), .int x1] : List Value).toArray below meth c H locs 0 0 Q (F0 m 27 ls []) := by
            intro y3
            intro n27
            induction n27 with
            | zero => intro y2 y4 H locs ls hP hD hS hl h; exact absurd h (by simp [S_MD_tells_L27])
            | succ n27 ih27 =>
              intro y2 y4 H locs ls hP hD hS hl h
              rw [S_MD_tells_L27] at h
              refine lv_iload hx hb dX12_tells_27 (lv_at hl 3 rfl) ?_
              refine lv_aload_n hx hb dX12_tells_29 rfl (lv_at hl 0 rfl) ?_
              refine va_get (D := D) (ci := 12) (v := .ref (aR 1)) (C := RX12) (T := TX12) (N := 18) hx hb hts hiX12 hown hK hP 0 rfl rfl 0 (by decide) hf9 (fun _ z => z) rfl dX12_tells_30 ?_
              refine lv_iconst (v := 0) hx hb dX12_tells_33 (by decide) ?_
              refine va_iald hx hb hK hP 1 0 rfl rfl (by decide) dX12_tells_34 ?_
              refine lv_icmp_ge (tgt := 62) hx hb dX12_tells_35 (by decide) (fun c35 => ?_) (fun c35 => ?_)
              · have h := k_pos c35 h
                refine lv_iinc (v := (y3 + 1)) (lv' := [(3, .int (y3 + 1)), (0, .ref (aR 0)), (2, .int y2), (4, .int y4)]) hx hb dX12_tells_62 hl (k := 2) rfl (by first | rfl | decide) (by decide) rfl (fun ls hl => ?_)
                refine lv_goto (tgt := 18) hx hb dX12_tells_65 (by decide) ?_
                exact ih18 y2 (y3 + 1) H locs ls hP hD hS (lv_sub hl [1, 2, 0] rfl) h
              · have h := k_neg c35 h
                refine lv_iload_n hx hb dX12_tells_38 rfl (lv_at hl 1 rfl) ?_
                refine lv_iload hx hb dX12_tells_39 (lv_at hl 3 rfl) ?_
                refine k_callS (As := [.int y2, .int y4]) (rest := []) (st1 := [.int (S_MD_has y2 y4)]) (ws2 := (Wd40 cI aR q_hasImage q_place q_rowAt q_rowEnd q_seed q_thrown q_s)) hx hb hml hown hts hK hN hA hP hD hS hl (c_MD_has l D cI cM cS cJ H.size y2 y4 rfl) gX12_tells_X12_has rfl kdS_X12_has [] ⟨rfl, rfl⟩ ⟨Nat.le_of_ble_eq_true rfl, Nat.le_of_ble_eq_true rfl⟩ ⟨Nat.zero_le _, Nat.zero_le _⟩ rfl rfl (by decide +kernel) rfl rfl rfl (Nat.le_of_ble_eq_true rfl) dX12_tells_41 rfl (fun H locs hP hD hS => ?_)
                refine lv_if_eq (tgt := 56) hx hb dX12_tells_44 (by decide) (fun c44 => ?_) (fun c44 => ?_)
                · have h := k_pos c44 h
                  refine lv_iinc (v := (y4 + 1)) (lv' := [(4, .int (y4 + 1)), (0, .ref (aR 0)), (2, .int y2), (3, .int y3)]) hx hb dX12_tells_56 hl (k := 3) rfl (by first | rfl | decide) (by decide) rfl (fun ls hl => ?_)
                  refine lv_goto (tgt := 27) hx hb dX12_tells_59 (by decide) ?_
                  exact ih27 y2 (y4 + 1) H locs ls hP hD hS (lv_sub hl [1, 2, 3, 0] rfl) h
                · have h := k_neg c44 h
                  refine lv_iload_n hx hb dX12_tells_47 rfl (lv_at hl 1 rfl) ?_
                  refine lv_aload_n hx hb dX12_tells_48 rfl (lv_at hl 0 rfl) ?_
                  refine lv_iload hx hb dX12_tells_49 (lv_at hl 3 rfl) ?_
                  obtain ⟨r51, g51, h⟩ := k_bind h
                  refine k_callV (As := [.int y4]) (rest := [.int y2]) (st1 := [.int r51, .int y2]) (ws2 := (Wd40 cI aR q_hasImage q_place q_rowAt q_rowEnd q_seed q_thrown q_s)) hx hb hml hown hts hK hN hA hP hD hS hl (c_MD_trustedBy l D cI cM cS cJ aR H.size y4 q_hasImage q_place q_rowAt q_rowEnd q_seed q_thrown q_s g51) gX12_tells_X12_trustedBy rfl kdV_X12_trustedBy 0 12 rfl rfl rfl [0, 1] ⟨rfl, rfl⟩ ⟨Nat.le_of_ble_eq_true rfl, Nat.le_of_ble_eq_true rfl⟩ ⟨Nat.zero_le _, Nat.zero_le _⟩ rfl rfl (by decide +kernel) rfl rfl rfl (Nat.le_of_ble_eq_true rfl) dX12_tells_51 rfl (fun H locs hP hD hS => ?_)
                  refine lv_ior hx hb dX12_tells_54 ?_
                  refine lv_istore_n (lv' := [(2, .int (y2 ||| r51)), (0, .ref (aR 0)), (3, .int y3), (4, .int y4)]) hx hb dX12_tells_55 rfl hl (by decide) rfl (fun ls hl => ?_)
                  refine lv_iinc (v := (y4 + 1)) (lv' := [(4, .int (y4 + 1)), (2, .int (y2 ||| r51)), (0, .ref (aR 0)), (3, .int y3)]) hx hb dX12_tells_56 hl (k := 3) rfl (by first | rfl | decide) (by decide) rfl (fun ls hl => ?_)
                  refine lv_goto (tgt := 27) hx hb dX12_tells_59 (by decide) ?_
                  exact ih27 (y2 ||| r51) (y4 + 1) H locs ls hP hD hS (lv_sub hl [2, 1, 3, 0] rfl) h
          refine lv_istore (lv' := [(4, .int 0), (0, .ref (aR 0)), (2, .int y2), (3, .int y3)]) hx hb dX12_tells_25 hl (by decide) rfl (fun ls hl => ?_)
          exact B27 y3 lfu y2 0 H locs ls hP hD hS (lv_sub hl [1, 2, 3, 0] rfl) h
    refine lv_istore_n (lv' := [(3, .int 0), (2, .int r12), (0, .ref (aR 0)), (1, .int x1)]) hx hb dX12_tells_17 rfl hl (by decide) rfl (fun ls hl => ?_)
    exact B18 lfu r12 0 H locs ls hP hD hS (lv_sub hl [2, 1, 0] rfl) h
  · have h := k_pos c5 h
    refine lv_iconst (v := (-1)) hx hb dX12_tells_8 (by decide) ?_
    cases h
    exact hret _ _ _ _ hP hS dX12_tells_9
abbrev rm_X12_fewestProps : Room := { frames := 5, cells := 0, slots := 0, locals := 112 }
set_option maxHeartbeats 4000000 in
set_option maxRecDepth 100000 in
theorem c_MD_fewestProps (l : Launch) (D : va_G) (cI cM cS cJ : ClassId) (aR : Nat → Nat) (sz : Nat) (x1 : Int32) (q_hasImage : Int32) (q_place : Int32) (q_rowAt : Int32) (q_rowEnd : Int32) (q_seed : Int32) (q_thrown : Int32) (q_s : Nat → Int32) (q_m : Nat → Int32) {o : (Int32) × (Nat → Int32)} (hsem : S_MD_fewestProps x1 q_s q_m = some o) : kMet l yX12_fewestProps wsX12_fewestProps rm_X12_fewestProps [.ref (aR 0), .int x1] D (kT cI cM cS cJ) (Wd49 cI aR q_hasImage q_place q_rowAt q_rowEnd q_seed q_thrown q_s q_m) sz (some (.int o.1)) (Wd49 cI aR q_hasImage q_place q_rowAt q_rowEnd q_seed q_thrown q_s o.2) := by
  refine k_metI (by decide) rfl rfl (Nat.le_of_ble_eq_true rfl) ?_
  intro p e s m below meth c ls Q A hx hb hml hts hown hK hN hA hP hD hS hl hsz hnm hret
  have hown : s.vm.findClass RX12 = some m.cls := hown
  have hf9 := hts (.fieldLink RX12 9 "PlumbLineModel" "s" "[I") (List.mem_of_getElem? (i := 1) rfl)
  have hf13 := hts (.fieldLink RX12 13 "PlumbLineModel" "m" "[I") (List.mem_of_getElem? (i := 2) rfl)
  have hiX12 : ∀ w ∈ u_ws RX12 TX12 18, w ∈ wsX12_fewestProps := fun w h => List.mem_cons_of_mem _ (List.mem_append_right _ h)
  replace hl : lv_has ls 5 [(0, .ref (aR 0)), (1, .int x1)] := hl
  have h := hsem
  clear hsem
  rw [S_MD_fewestProps] at h
  refine lv_iload_n hx hb dX12_fewestProps_0 rfl (lv_at hl 1 rfl) ?_
  refine lv_iconst (v := 1) hx hb dX12_fewestProps_1 (by decide) ?_
  refine lv_bipush (v := 30) hx hb dX12_fewestProps_2 (by decide) ?_
  refine k_callS (As := [.int x1, .int 1, .int 30]) (rest := []) (st1 := [.int (S_MD_isIn x1 1 30)]) (ws2 := (Wd49 cI aR q_hasImage q_place q_rowAt q_rowEnd q_seed q_thrown q_s q_m)) hx hb hml hown hts hK hN hA hP hD hS hl (c_MD_isIn l D cI cM cS cJ s.heap.size x1 1 30 rfl) gX12_fewestProps_X12_isIn rfl kdS_X12_isIn [] ⟨rfl, rfl⟩ ⟨Nat.le_of_ble_eq_true rfl, Nat.le_of_ble_eq_true rfl⟩ ⟨Nat.zero_le _, Nat.zero_le _⟩ rfl rfl (by decide +kernel) rfl rfl rfl (Nat.le_of_ble_eq_true rfl) dX12_fewestProps_4 rfl (fun H locs hP hD hS => ?_)
  refine lv_if_ne (tgt := 12) hx hb dX12_fewestProps_7 (by decide) (fun c7 => ?_) (fun c7 => ?_)
  · have h := k_neg c7 h
    refine lv_bipush (v := (-4)) hx hb dX12_fewestProps_12 (by decide) ?_
    refine lv_istore_n (lv' := [(2, .int (-4)), (0, .ref (aR 0)), (1, .int x1)]) hx hb dX12_fewestProps_14 rfl hl (by decide) rfl (fun ls hl => ?_)
    refine lv_iconst (v := 0) hx hb dX12_fewestProps_15 (by decide) ?_
    have B17 : ∀ (n17 : Nat) (y2 : Int32) (y3 : Int32) (q_m : Nat → Int32) (H : Heap) (locs : List Loc) (ls : Array Slot), va_P D vwCl (Wd49 cI aR q_hasImage q_place q_rowAt q_rowEnd q_seed q_thrown q_s q_m) H → va_D A (Wd49 cI aR q_hasImage q_place q_rowAt q_rowEnd q_seed q_thrown q_s q_m) → va_S A s.heap H locs → lv_has ls 5 [(0, .ref (aR 0)), (1, .int x1), (2, .int y2), (3, .int y3)] → S_MD_fewestProps_L17 x1 q_s n17 y2 y3 q_m = some o → W p l e rm_X12_fewestProps s m ([.ref (aR 0), .int x1] : List Value).toArray below meth c H locs 0 0 Q (F0 m 17 ls []) := by
      intro n17
      induction n17 with
      | zero => intro y2 y3 q_m H locs ls hP hD hS hl h; exact absurd h (by simp [S_MD_fewestProps_L17])
      | succ n17 ih17 =>
        intro y2 y3 q_m H locs ls hP hD hS hl h
        rw [S_MD_fewestProps_L17] at h
        refine lv_iload_n hx hb dX12_fewestProps_17 rfl (lv_at hl 3 rfl) ?_
        refine lv_iconst (v := 1) hx hb dX12_fewestProps_18 (by decide) ?_
        refine lv_aload_n hx hb dX12_fewestProps_19 rfl (lv_at hl 0 rfl) ?_
        refine va_get (D := D) (ci := 12) (v := .ref (aR 1)) (C := RX12) (T := TX12) (N := 18) hx hb hts hiX12 hown hK hP 0 rfl rfl 0 (by decide) hf9 (fun _ z => z) rfl dX12_fewestProps_20 ?_
        refine lv_iconst (v := 0) hx hb dX12_fewestProps_23 (by decide) ?_
        refine va_iald hx hb hK hP 1 0 rfl rfl (by decide) dX12_fewestProps_24 ?_
        refine lv_ishl hx hb dX12_fewestProps_25 ?_
        refine lv_icmp_ge (tgt := 131) hx hb dX12_fewestProps_26 (by decide) (fun c26 => ?_) (fun c26 => ?_)
        · have h := k_pos c26 h
          refine lv_iload_n hx hb dX12_fewestProps_131 rfl (lv_at hl 2 rfl) ?_
          cases h
          exact hret _ _ _ _ hP hS dX12_fewestProps_132
        · have h := k_neg c26 h
          refine lv_iload_n hx hb dX12_fewestProps_29 rfl (lv_at hl 2 rfl) ?_
          have B47 : ∀ (y2 : Int32) (y3 : Int32) (q_m : Nat → Int32) (H : Heap) (locs : List Loc) (ls : Array Slot), va_P D vwCl (Wd49 cI aR q_hasImage q_place q_rowAt q_rowEnd q_seed q_thrown q_s q_m) H → va_D A (Wd49 cI aR q_hasImage q_place q_rowAt q_rowEnd q_seed q_thrown q_s q_m) → va_S A s.heap H locs → lv_has ls 5 [(0, .ref (aR 0)), (1, .int x1), (2, .int y2), (3, .int y3)] → S_MD_fewestProps_J47 (S_MD_fewestProps_L17 x1 q_s n17) x1 y2 y3 q_s q_m = some o → W p l e rm_X12_fewestProps s m ([.ref (aR 0), .int x1] : List Value).toArray below meth c H locs 0 0 Q (F0 m 47 ls []) := by
            intro y2 y3 q_m H locs ls hP hD hS hl h
            rw [S_MD_fewestProps_J47] at h
            refine lv_aload_n hx hb dX12_fewestProps_47 rfl (lv_at hl 0 rfl) ?_
            refine va_get (D := D) (ci := 12) (v := .ref (aR 1)) (C := RX12) (T := TX12) (N := 18) hx hb hts hiX12 hown hK hP 0 rfl rfl 0 (by decide) hf9 (fun _ z => z) rfl dX12_fewestProps_48 ?_
            refine lv_aload_n hx hb dX12_fewestProps_51 rfl (lv_at hl 0 rfl) ?_
            refine va_get (D := D) (ci := 12) (v := .ref (aR 2)) (C := RX12) (T := TX12) (N := 18) hx hb hts hiX12 hown hK hP 0 rfl rfl 1 (by decide) hf13 (fun _ z => z) rfl dX12_fewestProps_52 ?_
            obtain ⟨r55, g55, h⟩ := k_bind h
            refine k_callS (As := [.ref (aR 1), .ref (aR 2)]) (rest := []) (st1 := []) (ws2 := (Wd49 cI aR q_hasImage q_place q_rowAt q_rowEnd q_seed q_thrown q_s r55)) hx hb hml hown hts hK hN hA hP hD hS hl (c_MD_copies l D cI cM cS cJ (aR 1) (aR 2) H.size q_s q_m g55) gX12_fewestProps_X12_copies rfl kdS_X12_copies [1, 2] ⟨rfl, rfl⟩ ⟨Nat.le_of_ble_eq_true rfl, Nat.le_of_ble_eq_true rfl⟩ ⟨Nat.zero_le _, Nat.zero_le _⟩ rfl rfl (by decide +kernel) rfl rfl rfl (Nat.le_of_ble_eq_true rfl) dX12_fewestProps_55 rfl (fun H locs hP hD hS => ?_)
            refine lv_aload_n hx hb dX12_fewestProps_58 rfl (lv_at hl 0 rfl) ?_
            refine va_get (D := D) (ci := 12) (v := .ref (aR 2)) (C := RX12) (T := TX12) (N := 18) hx hb hts hiX12 hown hK hP 0 rfl rfl 1 (by decide) hf13 (fun _ z => z) rfl dX12_fewestProps_59 ?_
            refine lv_iconst (v := 4) hx hb dX12_fewestProps_62 (by decide) ?_
            refine lv_iconst (v := 0) hx hb dX12_fewestProps_63 (by decide) ?_
            refine va_iast hx hb hK hP hD hS 2 0 rfl rfl (by decide) dX12_fewestProps_64 (fun H locs hP hD hS => ?_)
            replace hP : va_P D vwCl (Wd49 cI aR q_hasImage q_place q_rowAt q_rowEnd q_seed q_thrown q_s (upd r55 (4 : Int32).toNatClampNeg 0)) H := hP
            replace hD : va_D A (Wd49 cI aR q_hasImage q_place q_rowAt q_rowEnd q_seed q_thrown q_s (upd r55 (4 : Int32).toNatClampNeg 0)) := hD
            refine lv_iconst (v := 0) hx hb dX12_fewestProps_65 (by decide) ?_
            have B68 : ∀ (y2 : Int32) (y3 : Int32) (n68 : Nat) (y4 : Int32) (q_m : Nat → Int32) (H : Heap) (locs : List Loc) (ls : Array Slot), va_P D vwCl (Wd49 cI aR q_hasImage q_place q_rowAt q_rowEnd q_seed q_thrown q_s q_m) H → va_D A (Wd49 cI aR q_hasImage q_place q_rowAt q_rowEnd q_seed q_thrown q_s q_m) → va_S A s.heap H locs → lv_has ls 5 [(0, .ref (aR 0)), (1, .int x1), (2, .int y2), (3, .int y3), (4, .int y4)] → S_MD_fewestProps_L68 (S_MD_fewestProps_L17 x1 q_s n17) x1 y2 y3 q_s n68 y4 q_m = some o → W p l e rm_X12_fewestProps s m ([.ref (aR 0), .int x1] : List Value).toArray below meth c H locs 0 0 Q (F0 m 68 ls []) := by
              intro y2 y3
              intro n68
              induction n68 with
              | zero => intro y4 q_m H locs ls hP hD hS hl h; exact absurd h (by simp [S_MD_fewestProps_L68])
              | succ n68 ih68 =>
                intro y4 q_m H locs ls hP hD hS hl h
                rw [S_MD_fewestProps_L68] at h
                refine lv_iload hx hb dX12_fewestProps_68 (lv_at hl 4 rfl) ?_
                refine lv_aload_n hx hb dX12_fewestProps_70 rfl (lv_at hl 0 rfl) ?_
                refine va_get (D := D) (ci := 12) (v := .ref (aR 1)) (C := RX12) (T := TX12) (N := 18) hx hb hts hiX12 hown hK hP 0 rfl rfl 0 (by decide) hf9 (fun _ z => z) rfl dX12_fewestProps_71 ?_
                refine lv_iconst (v := 0) hx hb dX12_fewestProps_74 (by decide) ?_
                refine va_iald hx hb hK hP 1 0 rfl rfl (by decide) dX12_fewestProps_75 ?_
                refine lv_icmp_ge (tgt := 106) hx hb dX12_fewestProps_76 (by decide) (fun c76 => ?_) (fun c76 => ?_)
                · have h := k_pos c76 h
                  refine lv_aload_n hx hb dX12_fewestProps_106 rfl (lv_at hl 0 rfl) ?_
                  refine va_get (D := D) (ci := 12) (v := .ref (aR 2)) (C := RX12) (T := TX12) (N := 18) hx hb hts hiX12 hown hK hP 0 rfl rfl 1 (by decide) hf13 (fun _ z => z) rfl dX12_fewestProps_107 ?_
                  refine lv_iload_n hx hb dX12_fewestProps_110 rfl (lv_at hl 1 rfl) ?_
                  obtain ⟨r111, g111, h⟩ := k_bind h
                  refine k_callS (As := [.ref (aR 2), .int x1]) (rest := []) (st1 := []) (ws2 := (Wd49 cI aR q_hasImage q_place q_rowAt q_rowEnd q_seed q_thrown q_s r111)) hx hb hml hown hts hK hN hA hP hD hS hl (c_MD_daysOn l D cI cM cS cJ (aR 2) H.size x1 q_m g111) gX12_fewestProps_X12_daysOn rfl kdS_X12_daysOn [2] ⟨rfl, rfl⟩ ⟨Nat.le_of_ble_eq_true rfl, Nat.le_of_ble_eq_true rfl⟩ ⟨Nat.zero_le _, Nat.zero_le _⟩ rfl rfl (by decide +kernel) rfl rfl rfl (Nat.le_of_ble_eq_true rfl) dX12_fewestProps_111 rfl (fun H locs hP hD hS => ?_)
                  refine lv_aload_n hx hb dX12_fewestProps_114 rfl (lv_at hl 0 rfl) ?_
                  refine va_get (D := D) (ci := 12) (v := .ref (aR 2)) (C := RX12) (T := TX12) (N := 18) hx hb hts hiX12 hown hK hP 0 rfl rfl 1 (by decide) hf13 (fun _ z => z) rfl dX12_fewestProps_115 ?_
                  refine lv_iconst (v := 4) hx hb dX12_fewestProps_118 (by decide) ?_
                  refine va_iald hx hb hK hP 2 0 rfl rfl (by decide) dX12_fewestProps_119 ?_
                  refine lv_if_ne (tgt := 125) hx hb dX12_fewestProps_120 (by decide) (fun c120 => ?_) (fun c120 => ?_)
                  · have h := k_neg c120 h
                    refine lv_iinc (v := (y3 + 1)) (lv' := [(3, .int (y3 + 1)), (0, .ref (aR 0)), (1, .int x1), (2, .int y2), (4, .int y4)]) hx hb dX12_fewestProps_125 hl (k := 3) rfl (by first | rfl | decide) (by decide) rfl (fun ls hl => ?_)
                    refine lv_goto (tgt := 17) hx hb dX12_fewestProps_128 (by decide) ?_
                    exact ih17 y2 (y3 + 1) r111 H locs ls hP hD hS (lv_sub hl [1, 2, 3, 0] rfl) h
                  · have h := k_pos c120 h
                    refine lv_iload_n hx hb dX12_fewestProps_123 rfl (lv_at hl 3 rfl) ?_
                    refine lv_istore_n (lv' := [(2, .int y3), (0, .ref (aR 0)), (1, .int x1), (3, .int y3), (4, .int y4)]) hx hb dX12_fewestProps_124 rfl hl (by decide) rfl (fun ls hl => ?_)
                    refine lv_iinc (v := (y3 + 1)) (lv' := [(3, .int (y3 + 1)), (2, .int y3), (0, .ref (aR 0)), (1, .int x1), (4, .int y4)]) hx hb dX12_fewestProps_125 hl (k := 3) rfl (by first | rfl | decide) (by decide) rfl (fun ls hl => ?_)
                    refine lv_goto (tgt := 17) hx hb dX12_fewestProps_128 (by decide) ?_
                    exact ih17 y3 (y3 + 1) r111 H locs ls hP hD hS (lv_sub hl [2, 3, 1, 0] rfl) h
                · have h := k_neg c76 h
                  refine lv_iload_n hx hb dX12_fewestProps_79 rfl (lv_at hl 3 rfl) ?_
                  refine lv_iload hx hb dX12_fewestProps_80 (lv_at hl 4 rfl) ?_
                  refine k_callS (As := [.int y3, .int y4]) (rest := []) (st1 := [.int (S_MD_has y3 y4)]) (ws2 := (Wd49 cI aR q_hasImage q_place q_rowAt q_rowEnd q_seed q_thrown q_s q_m)) hx hb hml hown hts hK hN hA hP hD hS hl (c_MD_has l D cI cM cS cJ H.size y3 y4 rfl) gX12_fewestProps_X12_has rfl kdS_X12_has [] ⟨rfl, rfl⟩ ⟨Nat.le_of_ble_eq_true rfl, Nat.le_of_ble_eq_true rfl⟩ ⟨Nat.zero_le _, Nat.zero_le _⟩ rfl rfl (by decide +kernel) rfl rfl rfl (Nat.le_of_ble_eq_true rfl) dX12_fewestProps_82 rfl (fun H locs hP hD hS => ?_)
                  refine lv_if_eq (tgt := 100) hx hb dX12_fewestProps_85 (by decide) (fun c85 => ?_) (fun c85 => ?_)
                  · have h := k_pos c85 h
                    refine lv_iinc (v := (y4 + 1)) (lv' := [(4, .int (y4 + 1)), (0, .ref (aR 0)), (1, .int x1), (2, .int y2), (3, .int y3)]) hx hb dX12_fewestProps_100 hl (k := 4) rfl (by first | rfl | decide) (by decide) rfl (fun ls hl => ?_)
                    refine lv_goto (tgt := 68) hx hb dX12_fewestProps_103 (by decide) ?_
                    exact ih68 (y4 + 1) q_m H locs ls hP hD hS (lv_sub hl [1, 2, 3, 4, 0] rfl) h
                  · have h := k_neg c85 h
                    refine lv_aload_n hx hb dX12_fewestProps_88 rfl (lv_at hl 0 rfl) ?_
                    refine va_get (D := D) (ci := 12) (v := .ref (aR 2)) (C := RX12) (T := TX12) (N := 18) hx hb hts hiX12 hown hK hP 0 rfl rfl 1 (by decide) hf13 (fun _ z => z) rfl dX12_fewestProps_89 ?_
                    refine lv_iload hx hb dX12_fewestProps_92 (lv_at hl 4 rfl) ?_
                    refine lv_iconst (v := 3) hx hb dX12_fewestProps_94 (by decide) ?_
                    refine k_callS (As := [.int y4, .int 3]) (rest := [.ref (aR 2)]) (st1 := [.int (S_MD_of y4 3), .ref (aR 2)]) (ws2 := (Wd49 cI aR q_hasImage q_place q_rowAt q_rowEnd q_seed q_thrown q_s q_m)) hx hb hml hown hts hK hN hA hP hD hS hl (c_MD_of l D cI cM cS cJ H.size y4 3 rfl) gX12_fewestProps_X12_of rfl kdS_X12_of [] ⟨rfl, rfl⟩ ⟨Nat.le_of_ble_eq_true rfl, Nat.le_of_ble_eq_true rfl⟩ ⟨Nat.zero_le _, Nat.zero_le _⟩ rfl rfl (by decide +kernel) rfl rfl rfl (Nat.le_of_ble_eq_true rfl) dX12_fewestProps_95 rfl (fun H locs hP hD hS => ?_)
                    refine lv_iconst (v := 1) hx hb dX12_fewestProps_98 (by decide) ?_
                    obtain ⟨g99, h⟩ := k_guard h
                    refine va_iast hx hb hK hP hD hS 2 0 rfl rfl g99 dX12_fewestProps_99 (fun H locs hP hD hS => ?_)
                    replace hP : va_P D vwCl (Wd49 cI aR q_hasImage q_place q_rowAt q_rowEnd q_seed q_thrown q_s (upd q_m (S_MD_of y4 3).toNatClampNeg 1)) H := hP
                    replace hD : va_D A (Wd49 cI aR q_hasImage q_place q_rowAt q_rowEnd q_seed q_thrown q_s (upd q_m (S_MD_of y4 3).toNatClampNeg 1)) := hD
                    refine lv_iinc (v := (y4 + 1)) (lv' := [(4, .int (y4 + 1)), (0, .ref (aR 0)), (1, .int x1), (2, .int y2), (3, .int y3)]) hx hb dX12_fewestProps_100 hl (k := 4) rfl (by first | rfl | decide) (by decide) rfl (fun ls hl => ?_)
                    refine lv_goto (tgt := 68) hx hb dX12_fewestProps_103 (by decide) ?_
                    exact ih68 (y4 + 1) (upd q_m (S_MD_of y4 3).toNatClampNeg 1) H locs ls hP hD hS (lv_sub hl [1, 2, 3, 4, 0] rfl) h
            refine lv_istore (lv' := [(4, .int 0), (0, .ref (aR 0)), (1, .int x1), (2, .int y2), (3, .int y3)]) hx hb dX12_fewestProps_66 hl (by decide) rfl (fun ls hl => ?_)
            exact B68 y2 y3 lfu 0 (upd r55 (4 : Int32).toNatClampNeg 0) H locs ls hP hD hS (lv_sub hl [1, 2, 3, 4, 0] rfl) h
          refine lv_if_lt (tgt := 47) hx hb dX12_fewestProps_30 (by decide) (fun c30 => ?_) (fun c30 => ?_)
          · have h := k_pos c30 h
            exact B47 y2 y3 q_m H locs ls hP hD hS hl h
          · have h := k_neg c30 h
            refine lv_iload_n hx hb dX12_fewestProps_33 rfl (lv_at hl 3 rfl) ?_
            obtain ⟨r34, g34, h⟩ := k_bind h
            refine k_callS (As := [.int y3]) (rest := []) (st1 := [.int r34]) (ws2 := (Wd49 cI aR q_hasImage q_place q_rowAt q_rowEnd q_seed q_thrown q_s q_m)) hx hb hml hown hts hK hN hA hP hD hS hl (c_MD_bits l D cI cM cS cJ H.size y3 g34) gX12_fewestProps_X12_bits rfl kdS_X12_bits [] ⟨rfl, rfl⟩ ⟨Nat.le_of_ble_eq_true rfl, Nat.le_of_ble_eq_true rfl⟩ ⟨Nat.zero_le _, Nat.zero_le _⟩ rfl rfl (by decide +kernel) rfl rfl rfl (Nat.le_of_ble_eq_true rfl) dX12_fewestProps_34 rfl (fun H locs hP hD hS => ?_)
            refine lv_iload_n hx hb dX12_fewestProps_37 rfl (lv_at hl 2 rfl) ?_
            obtain ⟨r38, g38, h⟩ := k_bind h
            refine k_callS (As := [.int y2]) (rest := [.int r34]) (st1 := [.int r38, .int r34]) (ws2 := (Wd49 cI aR q_hasImage q_place q_rowAt q_rowEnd q_seed q_thrown q_s q_m)) hx hb hml hown hts hK hN hA hP hD hS hl (c_MD_bits l D cI cM cS cJ H.size y2 g38) gX12_fewestProps_X12_bits rfl kdS_X12_bits [] ⟨rfl, rfl⟩ ⟨Nat.le_of_ble_eq_true rfl, Nat.le_of_ble_eq_true rfl⟩ ⟨Nat.zero_le _, Nat.zero_le _⟩ rfl rfl (by decide +kernel) rfl rfl rfl (Nat.le_of_ble_eq_true rfl) dX12_fewestProps_38 rfl (fun H locs hP hD hS => ?_)
            refine lv_icmp_lt (tgt := 47) hx hb dX12_fewestProps_41 (by decide) (fun c41 => ?_) (fun c41 => ?_)
            · have h := k_pos c41 h
              exact B47 y2 y3 q_m H locs ls hP hD hS hl h
            · have h := k_neg c41 h
              refine lv_goto (tgt := 125) hx hb dX12_fewestProps_44 (by decide) ?_
              refine lv_iinc (v := (y3 + 1)) (lv' := [(3, .int (y3 + 1)), (0, .ref (aR 0)), (1, .int x1), (2, .int y2)]) hx hb dX12_fewestProps_125 hl (k := 3) rfl (by first | rfl | decide) (by decide) rfl (fun ls hl => ?_)
              refine lv_goto (tgt := 17) hx hb dX12_fewestProps_128 (by decide) ?_
              exact ih17 y2 (y3 + 1) q_m H locs ls hP hD hS (lv_sub hl [1, 2, 3, 0] rfl) h
    refine lv_istore_n (lv' := [(3, .int 0), (2, .int (-4)), (0, .ref (aR 0)), (1, .int x1)]) hx hb dX12_fewestProps_16 rfl hl (by decide) rfl (fun ls hl => ?_)
    exact B17 lfu (-4) 0 q_m H locs ls hP hD hS (lv_sub hl [2, 3, 1, 0] rfl) h
  · have h := k_pos c7 h
    refine lv_iconst (v := (-1)) hx hb dX12_fewestProps_10 (by decide) ?_
    cases h
    exact hret _ _ _ _ hP hS dX12_fewestProps_11
abbrev rm_X12_push : Room := { frames := 6, cells := 0, slots := 0, locals := 133 }
set_option maxHeartbeats 4000000 in
set_option maxRecDepth 100000 in
theorem c_MD_push (l : Launch) (D : va_G) (cI cM cS cJ : ClassId) (aR : Nat → Nat) (sz : Nat) (x1 : Int32) (q_hasImage : Int32) (q_place : Int32) (q_rowAt : Int32) (q_rowEnd : Int32) (q_seed : Int32) (q_thrown : Int32) (q_s : Nat → Int32) (q_m : Nat → Int32) {o : (Int32) × (Nat → Int32)} (hsem : S_MD_push x1 q_s q_m = some o) : kMet l yX12_push wsX12_push rm_X12_push [.ref (aR 0), .int x1] D (kT cI cM cS cJ) (Wd49 cI aR q_hasImage q_place q_rowAt q_rowEnd q_seed q_thrown q_s q_m) sz (some (.int o.1)) (Wd49 cI aR q_hasImage q_place q_rowAt q_rowEnd q_seed q_thrown q_s o.2) := by
  refine k_metI (by decide) rfl rfl (Nat.le_of_ble_eq_true rfl) ?_
  intro p e s m below meth c ls Q A hx hb hml hts hown hK hN hA hP hD hS hl hsz hnm hret
  have hown : s.vm.findClass RX12 = some m.cls := hown
  have hf13 := hts (.fieldLink RX12 13 "PlumbLineModel" "m" "[I") (List.mem_of_getElem? (i := 1) rfl)
  have hf9 := hts (.fieldLink RX12 9 "PlumbLineModel" "s" "[I") (List.mem_of_getElem? (i := 2) rfl)
  have hiX12 : ∀ w ∈ u_ws RX12 TX12 18, w ∈ wsX12_push := fun w h => List.mem_cons_of_mem _ (List.mem_append_right _ h)
  replace hl : lv_has ls 6 [(0, .ref (aR 0)), (1, .int x1)] := hl
  have h := hsem
  clear hsem
  rw [S_MD_push] at h
  refine lv_iload_n hx hb dX12_push_0 rfl (lv_at hl 1 rfl) ?_
  refine lv_iconst (v := 0) hx hb dX12_push_1 (by decide) ?_
  refine lv_bipush (v := 20) hx hb dX12_push_2 (by decide) ?_
  refine k_callS (As := [.int x1, .int 0, .int 20]) (rest := []) (st1 := [.int (S_MD_isIn x1 0 20)]) (ws2 := (Wd49 cI aR q_hasImage q_place q_rowAt q_rowEnd q_seed q_thrown q_s q_m)) hx hb hml hown hts hK hN hA hP hD hS hl (c_MD_isIn l D cI cM cS cJ s.heap.size x1 0 20 rfl) gX12_push_X12_isIn rfl kdS_X12_isIn [] ⟨rfl, rfl⟩ ⟨Nat.le_of_ble_eq_true rfl, Nat.le_of_ble_eq_true rfl⟩ ⟨Nat.zero_le _, Nat.zero_le _⟩ rfl rfl (by decide +kernel) rfl rfl rfl (Nat.le_of_ble_eq_true rfl) dX12_push_4 rfl (fun H locs hP hD hS => ?_)
  refine lv_if_ne (tgt := 12) hx hb dX12_push_7 (by decide) (fun c7 => ?_) (fun c7 => ?_)
  · have h := k_neg c7 h
    refine lv_aload_n hx hb dX12_push_12 rfl (lv_at hl 0 rfl) ?_
    refine lv_iload_n hx hb dX12_push_13 rfl (lv_at hl 1 rfl) ?_
    obtain ⟨r14, g14, h⟩ := k_bind h
    refine k_callV (As := [.int x1]) (rest := []) (st1 := []) (ws2 := (Wd49 cI aR q_hasImage q_place q_rowAt q_rowEnd q_seed q_thrown q_s r14)) hx hb hml hown hts hK hN hA hP hD hS hl (c_MD_takes l D cI cM cS cJ aR H.size x1 q_hasImage q_place q_rowAt q_rowEnd q_seed q_thrown q_s q_m g14) gX12_push_X12_takes rfl kdV_X12_takes 0 12 rfl rfl rfl [0, 1, 2] ⟨rfl, rfl⟩ ⟨Nat.le_of_ble_eq_true rfl, Nat.le_of_ble_eq_true rfl⟩ ⟨Nat.zero_le _, Nat.zero_le _⟩ rfl rfl (by decide +kernel) rfl rfl rfl (Nat.le_of_ble_eq_true rfl) dX12_push_14 rfl (fun H locs hP hD hS => ?_)
    refine lv_aload_n hx hb dX12_push_17 rfl (lv_at hl 0 rfl) ?_
    refine va_get (D := D) (ci := 12) (v := .ref (aR 2)) (C := RX12) (T := TX12) (N := 18) hx hb hts hiX12 hown hK hP 0 rfl rfl 1 (by decide) hf13 (fun _ z => z) rfl dX12_push_18 ?_
    obtain ⟨r21, g21, h⟩ := k_bind h
    refine k_callS (As := [.ref (aR 2)]) (rest := []) (st1 := [.int r21]) (ws2 := (Wd49 cI aR q_hasImage q_place q_rowAt q_rowEnd q_seed q_thrown q_s r14)) hx hb hml hown hts hK hN hA hP hD hS hl (c_MD_upright l D cI cM cS cJ (aR 2) H.size r14 g21) gX12_push_X12_upright rfl kdS_X12_upright [2] ⟨rfl, rfl⟩ ⟨Nat.le_of_ble_eq_true rfl, Nat.le_of_ble_eq_true rfl⟩ ⟨Nat.zero_le _, Nat.zero_le _⟩ rfl rfl (by decide +kernel) rfl rfl rfl (Nat.le_of_ble_eq_true rfl) dX12_push_21 rfl (fun H locs hP hD hS => ?_)
    obtain ⟨r24, g24, h⟩ := k_bind h
    refine k_callS (As := [.int r21]) (rest := []) (st1 := [.int r24]) (ws2 := (Wd49 cI aR q_hasImage q_place q_rowAt q_rowEnd q_seed q_thrown q_s r14)) hx hb hml hown hts hK hN hA hP hD hS hl (c_MD_bits l D cI cM cS cJ H.size r21 g24) gX12_push_X12_bits rfl kdS_X12_bits [] ⟨rfl, rfl⟩ ⟨Nat.le_of_ble_eq_true rfl, Nat.le_of_ble_eq_true rfl⟩ ⟨Nat.zero_le _, Nat.zero_le _⟩ rfl rfl (by decide +kernel) rfl rfl rfl (Nat.le_of_ble_eq_true rfl) dX12_push_24 rfl (fun H locs hP hD hS => ?_)
    refine lv_istore_n (lv' := [(2, .int r24), (0, .ref (aR 0)), (1, .int x1)]) hx hb dX12_push_27 rfl hl (by decide) rfl (fun ls hl => ?_)
    refine lv_bipush (v := (-4)) hx hb dX12_push_28 (by decide) ?_
    refine lv_istore_n (lv' := [(3, .int (-4)), (2, .int r24), (0, .ref (aR 0)), (1, .int x1)]) hx hb dX12_push_30 rfl hl (by decide) rfl (fun ls hl => ?_)
    refine lv_iconst (v := 0) hx hb dX12_push_31 (by decide) ?_
    have B34 : ∀ (n34 : Nat) (y2 : Int32) (y3 : Int32) (y4 : Int32) (q_m : Nat → Int32) (H : Heap) (locs : List Loc) (ls : Array Slot), va_P D vwCl (Wd49 cI aR q_hasImage q_place q_rowAt q_rowEnd q_seed q_thrown q_s q_m) H → va_D A (Wd49 cI aR q_hasImage q_place q_rowAt q_rowEnd q_seed q_thrown q_s q_m) → va_S A s.heap H locs → lv_has ls 6 [(0, .ref (aR 0)), (1, .int x1), (2, .int y2), (3, .int y3), (4, .int y4)] → S_MD_push_L34 x1 q_s n34 y2 y3 y4 q_m = some o → W p l e rm_X12_push s m ([.ref (aR 0), .int x1] : List Value).toArray below meth c H locs 0 0 Q (F0 m 34 ls []) := by
      intro n34
      induction n34 with
      | zero => intro y2 y3 y4 q_m H locs ls hP hD hS hl h; exact absurd h (by simp [S_MD_push_L34])
      | succ n34 ih34 =>
        intro y2 y3 y4 q_m H locs ls hP hD hS hl h
        rw [S_MD_push_L34] at h
        refine lv_iload hx hb dX12_push_34 (lv_at hl 4 rfl) ?_
        refine lv_aload_n hx hb dX12_push_36 rfl (lv_at hl 0 rfl) ?_
        refine va_get (D := D) (ci := 12) (v := .ref (aR 1)) (C := RX12) (T := TX12) (N := 18) hx hb hts hiX12 hown hK hP 0 rfl rfl 0 (by decide) hf9 (fun _ z => z) rfl dX12_push_37 ?_
        refine lv_iconst (v := 0) hx hb dX12_push_40 (by decide) ?_
        refine va_iald hx hb hK hP 1 0 rfl rfl (by decide) dX12_push_41 ?_
        refine lv_icmp_ge (tgt := 140) hx hb dX12_push_42 (by decide) (fun c42 => ?_) (fun c42 => ?_)
        · have h := k_pos c42 h
          refine lv_iload_n hx hb dX12_push_140 rfl (lv_at hl 3 rfl) ?_
          cases h
          exact hret _ _ _ _ hP hS dX12_push_141
        · have h := k_neg c42 h
          refine lv_bipush (v := (-45)) hx hb dX12_push_45 (by decide) ?_
          have B49 : ∀ (y4 : Int32) (n49 : Nat) (y2 : Int32) (y3 : Int32) (y5 : Int32) (q_m : Nat → Int32) (H : Heap) (locs : List Loc) (ls : Array Slot), va_P D vwCl (Wd49 cI aR q_hasImage q_place q_rowAt q_rowEnd q_seed q_thrown q_s q_m) H → va_D A (Wd49 cI aR q_hasImage q_place q_rowAt q_rowEnd q_seed q_thrown q_s q_m) → va_S A s.heap H locs → lv_has ls 6 [(0, .ref (aR 0)), (1, .int x1), (2, .int y2), (3, .int y3), (4, .int y4), (5, .int y5)] → S_MD_push_L49 (S_MD_push_L34 x1 q_s n34) x1 y4 q_s n49 y2 y3 y5 q_m = some o → W p l e rm_X12_push s m ([.ref (aR 0), .int x1] : List Value).toArray below meth c H locs 0 0 Q (F0 m 49 ls []) := by
            intro y4
            intro n49
            induction n49 with
            | zero => intro y2 y3 y5 q_m H locs ls hP hD hS hl h; exact absurd h (by simp [S_MD_push_L49])
            | succ n49 ih49 =>
              intro y2 y3 y5 q_m H locs ls hP hD hS hl h
              rw [S_MD_push_L49] at h
              refine lv_iload hx hb dX12_push_49 (lv_at hl 5 rfl) ?_
              refine lv_bipush (v := 45) hx hb dX12_push_51 (by decide) ?_
              refine lv_icmp_gt (tgt := 134) hx hb dX12_push_53 (by decide) (fun c53 => ?_) (fun c53 => ?_)
              · have h := k_pos c53 h
                refine lv_iinc (v := (y4 + 1)) (lv' := [(4, .int (y4 + 1)), (0, .ref (aR 0)), (1, .int x1), (2, .int y2), (3, .int y3), (5, .int y5)]) hx hb dX12_push_134 hl (k := 4) rfl (by first | rfl | decide) (by decide) rfl (fun ls hl => ?_)
                refine lv_goto (tgt := 34) hx hb dX12_push_137 (by decide) ?_
                exact ih34 y2 y3 (y4 + 1) q_m H locs ls hP hD hS (lv_sub hl [1, 2, 3, 4, 0] rfl) h
              · have h := k_neg c53 h
                refine lv_aload_n hx hb dX12_push_56 rfl (lv_at hl 0 rfl) ?_
                refine va_get (D := D) (ci := 12) (v := .ref (aR 1)) (C := RX12) (T := TX12) (N := 18) hx hb hts hiX12 hown hK hP 0 rfl rfl 0 (by decide) hf9 (fun _ z => z) rfl dX12_push_57 ?_
                refine lv_aload_n hx hb dX12_push_60 rfl (lv_at hl 0 rfl) ?_
                refine va_get (D := D) (ci := 12) (v := .ref (aR 2)) (C := RX12) (T := TX12) (N := 18) hx hb hts hiX12 hown hK hP 0 rfl rfl 1 (by decide) hf13 (fun _ z => z) rfl dX12_push_61 ?_
                obtain ⟨r64, g64, h⟩ := k_bind h
                refine k_callS (As := [.ref (aR 1), .ref (aR 2)]) (rest := []) (st1 := []) (ws2 := (Wd49 cI aR q_hasImage q_place q_rowAt q_rowEnd q_seed q_thrown q_s r64)) hx hb hml hown hts hK hN hA hP hD hS hl (c_MD_copies l D cI cM cS cJ (aR 1) (aR 2) H.size q_s q_m g64) gX12_push_X12_copies rfl kdS_X12_copies [1, 2] ⟨rfl, rfl⟩ ⟨Nat.le_of_ble_eq_true rfl, Nat.le_of_ble_eq_true rfl⟩ ⟨Nat.zero_le _, Nat.zero_le _⟩ rfl rfl (by decide +kernel) rfl rfl rfl (Nat.le_of_ble_eq_true rfl) dX12_push_64 rfl (fun H locs hP hD hS => ?_)
                refine lv_aload_n hx hb dX12_push_67 rfl (lv_at hl 0 rfl) ?_
                refine va_get (D := D) (ci := 12) (v := .ref (aR 2)) (C := RX12) (T := TX12) (N := 18) hx hb hts hiX12 hown hK hP 0 rfl rfl 1 (by decide) hf13 (fun _ z => z) rfl dX12_push_68 ?_
                refine lv_iload hx hb dX12_push_71 (lv_at hl 4 rfl) ?_
                refine lv_iconst (v := 2) hx hb dX12_push_73 (by decide) ?_
                refine k_callS (As := [.int y4, .int 2]) (rest := [.ref (aR 2)]) (st1 := [.int (S_MD_of y4 2), .ref (aR 2)]) (ws2 := (Wd49 cI aR q_hasImage q_place q_rowAt q_rowEnd q_seed q_thrown q_s r64)) hx hb hml hown hts hK hN hA hP hD hS hl (c_MD_of l D cI cM cS cJ H.size y4 2 rfl) gX12_push_X12_of rfl kdS_X12_of [] ⟨rfl, rfl⟩ ⟨Nat.le_of_ble_eq_true rfl, Nat.le_of_ble_eq_true rfl⟩ ⟨Nat.zero_le _, Nat.zero_le _⟩ rfl rfl (by decide +kernel) rfl rfl rfl (Nat.le_of_ble_eq_true rfl) dX12_push_74 rfl (fun H locs hP hD hS => ?_)
                refine lv_iload hx hb dX12_push_77 (lv_at hl 5 rfl) ?_
                obtain ⟨g79, h⟩ := k_guard h
                refine va_iast hx hb hK hP hD hS 2 0 rfl rfl g79 dX12_push_79 (fun H locs hP hD hS => ?_)
                replace hP : va_P D vwCl (Wd49 cI aR q_hasImage q_place q_rowAt q_rowEnd q_seed q_thrown q_s (upd r64 (S_MD_of y4 2).toNatClampNeg y5)) H := hP
                replace hD : va_D A (Wd49 cI aR q_hasImage q_place q_rowAt q_rowEnd q_seed q_thrown q_s (upd r64 (S_MD_of y4 2).toNatClampNeg y5)) := hD
                refine lv_aload_n hx hb dX12_push_80 rfl (lv_at hl 0 rfl) ?_
                refine va_get (D := D) (ci := 12) (v := .ref (aR 2)) (C := RX12) (T := TX12) (N := 18) hx hb hts hiX12 hown hK hP 0 rfl rfl 1 (by decide) hf13 (fun _ z => z) rfl dX12_push_81 ?_
                refine lv_iload_n hx hb dX12_push_84 rfl (lv_at hl 1 rfl) ?_
                obtain ⟨r85, g85, h⟩ := k_bind h
                refine k_callS (As := [.ref (aR 2), .int x1]) (rest := []) (st1 := []) (ws2 := (Wd49 cI aR q_hasImage q_place q_rowAt q_rowEnd q_seed q_thrown q_s r85)) hx hb hml hown hts hK hN hA hP hD hS hl (c_MD_daysOn l D cI cM cS cJ (aR 2) H.size x1 (upd r64 (S_MD_of y4 2).toNatClampNeg y5) g85) gX12_push_X12_daysOn rfl kdS_X12_daysOn [2] ⟨rfl, rfl⟩ ⟨Nat.le_of_ble_eq_true rfl, Nat.le_of_ble_eq_true rfl⟩ ⟨Nat.zero_le _, Nat.zero_le _⟩ rfl rfl (by decide +kernel) rfl rfl rfl (Nat.le_of_ble_eq_true rfl) dX12_push_85 rfl (fun H locs hP hD hS => ?_)
                refine lv_aload_n hx hb dX12_push_88 rfl (lv_at hl 0 rfl) ?_
                refine va_get (D := D) (ci := 12) (v := .ref (aR 2)) (C := RX12) (T := TX12) (N := 18) hx hb hts hiX12 hown hK hP 0 rfl rfl 1 (by decide) hf13 (fun _ z => z) rfl dX12_push_89 ?_
                obtain ⟨r92, g92, h⟩ := k_bind h
                refine k_callS (As := [.ref (aR 2)]) (rest := []) (st1 := [.int r92]) (ws2 := (Wd49 cI aR q_hasImage q_place q_rowAt q_rowEnd q_seed q_thrown q_s r85)) hx hb hml hown hts hK hN hA hP hD hS hl (c_MD_upright l D cI cM cS cJ (aR 2) H.size r85 g92) gX12_push_X12_upright rfl kdS_X12_upright [2] ⟨rfl, rfl⟩ ⟨Nat.le_of_ble_eq_true rfl, Nat.le_of_ble_eq_true rfl⟩ ⟨Nat.zero_le _, Nat.zero_le _⟩ rfl rfl (by decide +kernel) rfl rfl rfl (Nat.le_of_ble_eq_true rfl) dX12_push_92 rfl (fun H locs hP hD hS => ?_)
                obtain ⟨r95, g95, h⟩ := k_bind h
                refine k_callS (As := [.int r92]) (rest := []) (st1 := [.int r95]) (ws2 := (Wd49 cI aR q_hasImage q_place q_rowAt q_rowEnd q_seed q_thrown q_s r85)) hx hb hml hown hts hK hN hA hP hD hS hl (c_MD_bits l D cI cM cS cJ H.size r92 g95) gX12_push_X12_bits rfl kdS_X12_bits [] ⟨rfl, rfl⟩ ⟨Nat.le_of_ble_eq_true rfl, Nat.le_of_ble_eq_true rfl⟩ ⟨Nat.zero_le _, Nat.zero_le _⟩ rfl rfl (by decide +kernel) rfl rfl rfl (Nat.le_of_ble_eq_true rfl) dX12_push_95 rfl (fun H locs hP hD hS => ?_)
                refine lv_iload_n hx hb dX12_push_98 rfl (lv_at hl 2 rfl) ?_
                refine lv_icmp_gt (tgt := 105) hx hb dX12_push_99 (by decide) (fun c99 => ?_) (fun c99 => ?_)
                · have h := k_pos c99 h
                  refine lv_bipush (v := 100) hx hb dX12_push_105 (by decide) ?_
                  refine lv_iload hx hb dX12_push_107 (lv_at hl 4 rfl) ?_
                  refine lv_imul hx hb dX12_push_109 ?_
                  refine lv_iload hx hb dX12_push_110 (lv_at hl 5 rfl) ?_
                  refine lv_iadd hx hb dX12_push_112 ?_
                  refine lv_bipush (v := 45) hx hb dX12_push_113 (by decide) ?_
                  refine lv_iadd hx hb dX12_push_115 ?_
                  refine lv_istore_n (lv' := [(3, .int ((((100 : Int32) * y4) + y5) + 45)), (0, .ref (aR 0)), (1, .int x1), (2, .int y2), (4, .int y4), (5, .int y5)]) hx hb dX12_push_116 rfl hl (by decide) rfl (fun ls hl => ?_)
                  refine lv_aload_n hx hb dX12_push_117 rfl (lv_at hl 1 rfl) ?_
                  refine va_get (D := D) (ci := 12) (v := .ref (aR 2)) (C := RX12) (T := TX12) (N := 18) hx hb hts hiX12 hown hK hP 0 rfl rfl 1 (by decide) hf13 (fun _ z => z) rfl dX12_push_118 ?_
                  obtain ⟨r121, g121, h⟩ := k_bind h
                  refine k_callS (As := [.ref (aR 2)]) (rest := []) (st1 := [.int r121]) (ws2 := (Wd49 cI aR q_hasImage q_place q_rowAt q_rowEnd q_seed q_thrown q_s r85)) hx hb hml hown hts hK hN hA hP hD hS hl (c_MD_upright l D cI cM cS cJ (aR 2) H.size r85 g121) gX12_push_X12_upright rfl kdS_X12_upright [2] ⟨rfl, rfl⟩ ⟨Nat.le_of_ble_eq_true rfl, Nat.le_of_ble_eq_true rfl⟩ ⟨Nat.zero_le _, Nat.zero_le _⟩ rfl rfl (by decide +kernel) rfl rfl rfl (Nat.le_of_ble_eq_true rfl) dX12_push_121 rfl (fun H locs hP hD hS => ?_)
                  obtain ⟨r124, g124, h⟩ := k_bind h
                  refine k_callS (As := [.int r121]) (rest := []) (st1 := [.int r124]) (ws2 := (Wd49 cI aR q_hasImage q_place q_rowAt q_rowEnd q_seed q_thrown q_s r85)) hx hb hml hown hts hK hN hA hP hD hS hl (c_MD_bits l D cI cM cS cJ H.size r121 g124) gX12_push_X12_bits rfl kdS_X12_bits [] ⟨rfl, rfl⟩ ⟨Nat.le_of_ble_eq_true rfl, Nat.le_of_ble_eq_true rfl⟩ ⟨Nat.zero_le _, Nat.zero_le _⟩ rfl rfl (by decide +kernel) rfl rfl rfl (Nat.le_of_ble_eq_true rfl) dX12_push_124 rfl (fun H locs hP hD hS => ?_)
                  refine lv_istore_n (lv' := [(2, .int r124), (3, .int ((((100 : Int32) * y4) + y5) + 45)), (0, .ref (aR 0)), (1, .int x1), (4, .int y4), (5, .int y5)]) hx hb dX12_push_127 rfl hl (by decide) rfl (fun ls hl => ?_)
                  refine lv_iinc (v := (y5 + 1)) (lv' := [(5, .int (y5 + 1)), (2, .int r124), (3, .int ((((100 : Int32) * y4) + y5) + 45)), (0, .ref (aR 0)), (1, .int x1), (4, .int y4)]) hx hb dX12_push_128 hl (k := 5) rfl (by first | rfl | decide) (by decide) rfl (fun ls hl => ?_)
                  refine lv_goto (tgt := 49) hx hb dX12_push_131 (by decide) ?_
                  exact ih49 r124 ((((100 : Int32) * y4) + y5) + 45) (y5 + 1) r85 H locs ls hP hD hS (lv_sub hl [3, 4, 1, 2, 5, 0] rfl) h
                · have h := k_neg c99 h
                  refine lv_goto (tgt := 128) hx hb dX12_push_102 (by decide) ?_
                  refine lv_iinc (v := (y5 + 1)) (lv' := [(5, .int (y5 + 1)), (0, .ref (aR 0)), (1, .int x1), (2, .int y2), (3, .int y3), (4, .int y4)]) hx hb dX12_push_128 hl (k := 5) rfl (by first | rfl | decide) (by decide) rfl (fun ls hl => ?_)
                  refine lv_goto (tgt := 49) hx hb dX12_push_131 (by decide) ?_
                  exact ih49 y2 y3 (y5 + 1) r85 H locs ls hP hD hS (lv_sub hl [1, 2, 3, 4, 5, 0] rfl) h
          refine lv_istore (lv' := [(5, .int (-45)), (0, .ref (aR 0)), (1, .int x1), (2, .int y2), (3, .int y3), (4, .int y4)]) hx hb dX12_push_47 hl (by decide) rfl (fun ls hl => ?_)
          exact B49 y4 lfu y2 y3 (-45) q_m H locs ls hP hD hS (lv_sub hl [1, 2, 3, 4, 5, 0] rfl) h
    refine lv_istore (lv' := [(4, .int 0), (3, .int (-4)), (2, .int r24), (0, .ref (aR 0)), (1, .int x1)]) hx hb dX12_push_32 hl (by decide) rfl (fun ls hl => ?_)
    exact B34 lfu r24 (-4) 0 r14 H locs ls hP hD hS (lv_sub hl [3, 4, 2, 1, 0] rfl) h
  · have h := k_pos c7 h
    refine lv_iconst (v := (-1)) hx hb dX12_push_10 (by decide) ?_
    cases h
    exact hret _ _ _ _ hP hS dX12_push_11
abbrev rm_X12_rightOne : Room := { frames := 2, cells := 0, slots := 0, locals := 43 }
set_option maxHeartbeats 4000000 in
set_option maxRecDepth 100000 in
theorem c_MD_rightOne (l : Launch) (D : va_G) (cI cM cS cJ : ClassId) (aR : Nat → Nat) (sz : Nat) (q_hasImage : Int32) (q_place : Int32) (q_rowAt : Int32) (q_rowEnd : Int32) (q_seed : Int32) (q_thrown : Int32) (q_s : Nat → Int32) {o : (Int32)} (hsem : S_MD_rightOne q_s = some o) : kMet l yX12_rightOne wsX12_rightOne rm_X12_rightOne [.ref (aR 0)] D (kT cI cM cS cJ) (Wd40 cI aR q_hasImage q_place q_rowAt q_rowEnd q_seed q_thrown q_s) sz (some (.int o)) (Wd40 cI aR q_hasImage q_place q_rowAt q_rowEnd q_seed q_thrown q_s) := by
  refine k_metI (by decide) rfl rfl (Nat.le_of_ble_eq_true rfl) ?_
  intro p e s m below meth c ls Q A hx hb hml hts hown hK hN hA hP hD hS hl hsz hnm hret
  have hown : s.vm.findClass RX12 = some m.cls := hown
  have hf9 := hts (.fieldLink RX12 9 "PlumbLineModel" "s" "[I") (List.mem_of_getElem? (i := 1) rfl)
  have hiX12 : ∀ w ∈ u_ws RX12 TX12 18, w ∈ wsX12_rightOne := fun w h => List.mem_cons_of_mem _ (List.mem_append_right _ h)
  replace hl : lv_has ls 6 [(0, .ref (aR 0))] := hl
  have h := hsem
  clear hsem
  rw [S_MD_rightOne] at h
  refine lv_bipush (v := (-4)) hx hb dX12_rightOne_0 (by decide) ?_
  refine lv_istore_n (lv' := [(1, .int (-4)), (0, .ref (aR 0))]) hx hb dX12_rightOne_2 rfl hl (by decide) rfl (fun ls hl => ?_)
  refine lv_iconst (v := (-1)) hx hb dX12_rightOne_3 (by decide) ?_
  refine lv_istore_n (lv' := [(2, .int (-1)), (1, .int (-4)), (0, .ref (aR 0))]) hx hb dX12_rightOne_4 rfl hl (by decide) rfl (fun ls hl => ?_)
  refine lv_iconst (v := 0) hx hb dX12_rightOne_5 (by decide) ?_
  have B7 : ∀ (n7 : Nat) (y1 : Int32) (y2 : Int32) (y3 : Int32) (H : Heap) (locs : List Loc) (ls : Array Slot), va_P D vwCl (Wd40 cI aR q_hasImage q_place q_rowAt q_rowEnd q_seed q_thrown q_s) H → va_D A (Wd40 cI aR q_hasImage q_place q_rowAt q_rowEnd q_seed q_thrown q_s) → va_S A s.heap H locs → lv_has ls 6 [(0, .ref (aR 0)), (1, .int y1), (2, .int y2), (3, .int y3)] → S_MD_rightOne_L7 q_s n7 y1 y2 y3 = some o → W p l e rm_X12_rightOne s m ([.ref (aR 0)] : List Value).toArray below meth c H locs 0 0 Q (F0 m 7 ls []) := by
    intro n7
    induction n7 with
    | zero => intro y1 y2 y3 H locs ls hP hD hS hl h; exact absurd h (by simp [S_MD_rightOne_L7])
    | succ n7 ih7 =>
      intro y1 y2 y3 H locs ls hP hD hS hl h
      rw [S_MD_rightOne_L7] at h
      refine lv_iload_n hx hb dX12_rightOne_7 rfl (lv_at hl 3 rfl) ?_
      refine lv_aload_n hx hb dX12_rightOne_8 rfl (lv_at hl 0 rfl) ?_
      refine va_get (D := D) (ci := 12) (v := .ref (aR 1)) (C := RX12) (T := TX12) (N := 18) hx hb hts hiX12 hown hK hP 0 rfl rfl 0 (by decide) hf9 (fun _ z => z) rfl dX12_rightOne_9 ?_
      refine lv_iconst (v := 0) hx hb dX12_rightOne_12 (by decide) ?_
      refine va_iald hx hb hK hP 1 0 rfl rfl (by decide) dX12_rightOne_13 ?_
      refine lv_icmp_ge (tgt := 110) hx hb dX12_rightOne_14 (by decide) (fun c14 => ?_) (fun c14 => ?_)
      · have h := k_pos c14 h
        refine lv_iload_n hx hb dX12_rightOne_110 rfl (lv_at hl 1 rfl) ?_
        cases h
        exact hret _ _ _ _ hP hS dX12_rightOne_111
      · have h := k_neg c14 h
        refine lv_iconst (v := 0) hx hb dX12_rightOne_17 (by decide) ?_
        refine lv_istore (lv' := [(4, .int 0), (0, .ref (aR 0)), (1, .int y1), (2, .int y2), (3, .int y3)]) hx hb dX12_rightOne_18 hl (by decide) rfl (fun ls hl => ?_)
        refine lv_iconst (v := 0) hx hb dX12_rightOne_20 (by decide) ?_
        have B23 : ∀ (y1 : Int32) (y2 : Int32) (y3 : Int32) (n23 : Nat) (y4 : Int32) (y5 : Int32) (H : Heap) (locs : List Loc) (ls : Array Slot), va_P D vwCl (Wd40 cI aR q_hasImage q_place q_rowAt q_rowEnd q_seed q_thrown q_s) H → va_D A (Wd40 cI aR q_hasImage q_place q_rowAt q_rowEnd q_seed q_thrown q_s) → va_S A s.heap H locs → lv_has ls 6 [(0, .ref (aR 0)), (1, .int y1), (2, .int y2), (3, .int y3), (4, .int y4), (5, .int y5)] → S_MD_rightOne_L23 (S_MD_rightOne_L7 q_s n7) y1 y2 y3 q_s n23 y4 y5 = some o → W p l e rm_X12_rightOne s m ([.ref (aR 0)] : List Value).toArray below meth c H locs 0 0 Q (F0 m 23 ls []) := by
          intro y1 y2 y3
          intro n23
          induction n23 with
          | zero => intro y4 y5 H locs ls hP hD hS hl h; exact absurd h (by simp [S_MD_rightOne_L23])
          | succ n23 ih23 =>
            intro y4 y5 H locs ls hP hD hS hl h
            rw [S_MD_rightOne_L23] at h
            refine lv_iload hx hb dX12_rightOne_23 (lv_at hl 5 rfl) ?_
            refine lv_aload_n hx hb dX12_rightOne_25 rfl (lv_at hl 0 rfl) ?_
            refine va_get (D := D) (ci := 12) (v := .ref (aR 1)) (C := RX12) (T := TX12) (N := 18) hx hb hts hiX12 hown hK hP 0 rfl rfl 0 (by decide) hf9 (fun _ z => z) rfl dX12_rightOne_26 ?_
            refine lv_iconst (v := 0) hx hb dX12_rightOne_29 (by decide) ?_
            refine va_iald hx hb hK hP 1 0 rfl rfl (by decide) dX12_rightOne_30 ?_
            refine lv_icmp_ge (tgt := 90) hx hb dX12_rightOne_31 (by decide) (fun c31 => ?_) (fun c31 => ?_)
            · have h := k_pos c31 h
              refine lv_iload hx hb dX12_rightOne_90 (lv_at hl 4 rfl) ?_
              refine lv_iload_n hx hb dX12_rightOne_92 rfl (lv_at hl 2 rfl) ?_
              refine lv_icmp_gt (tgt := 99) hx hb dX12_rightOne_93 (by decide) (fun c93 => ?_) (fun c93 => ?_)
              · have h := k_pos c93 h
                refine lv_iload_n hx hb dX12_rightOne_99 rfl (lv_at hl 3 rfl) ?_
                refine lv_istore_n (lv' := [(1, .int y3), (0, .ref (aR 0)), (2, .int y2), (3, .int y3), (4, .int y4), (5, .int y5)]) hx hb dX12_rightOne_100 rfl hl (by decide) rfl (fun ls hl => ?_)
                refine lv_iload hx hb dX12_rightOne_101 (lv_at hl 4 rfl) ?_
                refine lv_istore_n (lv' := [(2, .int y4), (1, .int y3), (0, .ref (aR 0)), (3, .int y3), (4, .int y4), (5, .int y5)]) hx hb dX12_rightOne_103 rfl hl (by decide) rfl (fun ls hl => ?_)
                refine lv_iinc (v := (y3 + 1)) (lv' := [(3, .int (y3 + 1)), (2, .int y4), (1, .int y3), (0, .ref (aR 0)), (4, .int y4), (5, .int y5)]) hx hb dX12_rightOne_104 hl (k := 3) rfl (by first | rfl | decide) (by decide) rfl (fun ls hl => ?_)
                refine lv_goto (tgt := 7) hx hb dX12_rightOne_107 (by decide) ?_
                exact ih7 y3 y4 (y3 + 1) H locs ls hP hD hS (lv_sub hl [3, 2, 1, 0] rfl) h
              · have h := k_neg c93 h
                refine lv_goto (tgt := 104) hx hb dX12_rightOne_96 (by decide) ?_
                refine lv_iinc (v := (y3 + 1)) (lv' := [(3, .int (y3 + 1)), (0, .ref (aR 0)), (1, .int y1), (2, .int y2), (4, .int y4), (5, .int y5)]) hx hb dX12_rightOne_104 hl (k := 3) rfl (by first | rfl | decide) (by decide) rfl (fun ls hl => ?_)
                refine lv_goto (tgt := 7) hx hb dX12_rightOne_107 (by decide) ?_
                exact ih7 y1 y2 (y3 + 1) H locs ls hP hD hS (lv_sub hl [1, 2, 3, 0] rfl) h
            · have h := k_neg c31 h
              refine lv_iload hx hb dX12_rightOne_34 (lv_at hl 4 rfl) ?_
              refine lv_iload hx hb dX12_rightOne_36 (lv_at hl 5 rfl) ?_
              refine lv_iload_n hx hb dX12_rightOne_38 rfl (lv_at hl 3 rfl) ?_
              refine lv_icmp_eq (tgt := 80) hx hb dX12_rightOne_39 (by decide) (fun c39 => ?_) (fun c39 => ?_)
              · have h := k_pos c39 h
                refine lv_iconst (v := 0) hx hb dX12_rightOne_80 (by decide) ?_
                refine lv_iadd hx hb dX12_rightOne_81 ?_
                refine lv_istore (lv' := [(4, .int (y4 + 0)), (0, .ref (aR 0)), (1, .int y1), (2, .int y2), (3, .int y3), (5, .int y5)]) hx hb dX12_rightOne_82 hl (by decide) rfl (fun ls hl => ?_)
                refine lv_iinc (v := (y5 + 1)) (lv' := [(5, .int (y5 + 1)), (4, .int (y4 + 0)), (0, .ref (aR 0)), (1, .int y1), (2, .int y2), (3, .int y3)]) hx hb dX12_rightOne_84 hl (k := 5) rfl (by first | rfl | decide) (by decide) rfl (fun ls hl => ?_)
                refine lv_goto (tgt := 23) hx hb dX12_rightOne_87 (by decide) ?_
                exact ih23 (y4 + 0) (y5 + 1) H locs ls hP hD hS (lv_sub hl [2, 3, 4, 5, 1, 0] rfl) h
              · have h := k_neg c39 h
                refine lv_aload_n hx hb dX12_rightOne_42 rfl (lv_at hl 0 rfl) ?_
                refine va_get (D := D) (ci := 12) (v := .ref (aR 1)) (C := RX12) (T := TX12) (N := 18) hx hb hts hiX12 hown hK hP 0 rfl rfl 0 (by decide) hf9 (fun _ z => z) rfl dX12_rightOne_43 ?_
                refine lv_iload hx hb dX12_rightOne_46 (lv_at hl 5 rfl) ?_
                refine lv_aload_n hx hb dX12_rightOne_48 rfl (lv_at hl 0 rfl) ?_
                refine va_get (D := D) (ci := 12) (v := .ref (aR 1)) (C := RX12) (T := TX12) (N := 18) hx hb hts hiX12 hown hK hP 0 rfl rfl 0 (by decide) hf9 (fun _ z => z) rfl dX12_rightOne_49 ?_
                refine lv_iload hx hb dX12_rightOne_52 (lv_at hl 5 rfl) ?_
                refine lv_iconst (v := 2) hx hb dX12_rightOne_54 (by decide) ?_
                refine k_callS (As := [.int y5, .int 2]) (rest := [.ref (aR 1), .int y5, .ref (aR 1), .int y4]) (st1 := [.int (S_MD_of y5 2), .ref (aR 1), .int y5, .ref (aR 1), .int y4]) (ws2 := (Wd40 cI aR q_hasImage q_place q_rowAt q_rowEnd q_seed q_thrown q_s)) hx hb hml hown hts hK hN hA hP hD hS hl (c_MD_of l D cI cM cS cJ H.size y5 2 rfl) gX12_rightOne_X12_of rfl kdS_X12_of [] ⟨rfl, rfl⟩ ⟨Nat.le_of_ble_eq_true rfl, Nat.le_of_ble_eq_true rfl⟩ ⟨Nat.zero_le _, Nat.zero_le _⟩ rfl rfl (by decide +kernel) rfl rfl rfl (Nat.le_of_ble_eq_true rfl) dX12_rightOne_55 rfl (fun H locs hP hD hS => ?_)
                obtain ⟨g58, h⟩ := k_guard h
                refine va_iald hx hb hK hP 1 0 rfl rfl g58 dX12_rightOne_58 ?_
                refine lv_aload_n hx hb dX12_rightOne_59 rfl (lv_at hl 0 rfl) ?_
                refine va_get (D := D) (ci := 12) (v := .ref (aR 1)) (C := RX12) (T := TX12) (N := 18) hx hb hts hiX12 hown hK hP 0 rfl rfl 0 (by decide) hf9 (fun _ z => z) rfl dX12_rightOne_60 ?_
                refine lv_iload_n hx hb dX12_rightOne_63 rfl (lv_at hl 3 rfl) ?_
                refine lv_iconst (v := 2) hx hb dX12_rightOne_64 (by decide) ?_
                refine k_callS (As := [.int y3, .int 2]) (rest := [.ref (aR 1), .int (q_s (S_MD_of y5 2).toNatClampNeg), .int y5, .ref (aR 1), .int y4]) (st1 := [.int (S_MD_of y3 2), .ref (aR 1), .int (q_s (S_MD_of y5 2).toNatClampNeg), .int y5, .ref (aR 1), .int y4]) (ws2 := (Wd40 cI aR q_hasImage q_place q_rowAt q_rowEnd q_seed q_thrown q_s)) hx hb hml hown hts hK hN hA hP hD hS hl (c_MD_of l D cI cM cS cJ H.size y3 2 rfl) gX12_rightOne_X12_of rfl kdS_X12_of [] ⟨rfl, rfl⟩ ⟨Nat.le_of_ble_eq_true rfl, Nat.le_of_ble_eq_true rfl⟩ ⟨Nat.zero_le _, Nat.zero_le _⟩ rfl rfl (by decide +kernel) rfl rfl rfl (Nat.le_of_ble_eq_true rfl) dX12_rightOne_65 rfl (fun H locs hP hD hS => ?_)
                obtain ⟨g68, h⟩ := k_guard h
                refine va_iald hx hb hK hP 1 0 rfl rfl g68 dX12_rightOne_68 ?_
                refine lv_isub hx hb dX12_rightOne_69 ?_
                obtain ⟨r70, g70, h⟩ := k_bind h
                refine k_callS (As := [.ref (aR 1), .int y5, .int ((q_s (S_MD_of y5 2).toNatClampNeg) - (q_s (S_MD_of y3 2).toNatClampNeg))]) (rest := [.int y4]) (st1 := [.int r70, .int y4]) (ws2 := (Wd40 cI aR q_hasImage q_place q_rowAt q_rowEnd q_seed q_thrown q_s)) hx hb hml hown hts hK hN hA hP hD hS hl (c_MD_isUprightBy l D cI cM cS cJ (aR 1) H.size y5 ((q_s (S_MD_of y5 2).toNatClampNeg) - (q_s (S_MD_of y3 2).toNatClampNeg)) q_s g70) gX12_rightOne_X12_isUprightBy rfl kdS_X12_isUprightBy [1] ⟨rfl, rfl⟩ ⟨Nat.le_of_ble_eq_true rfl, Nat.le_of_ble_eq_true rfl⟩ ⟨Nat.zero_le _, Nat.zero_le _⟩ rfl rfl (by decide +kernel) rfl rfl rfl (Nat.le_of_ble_eq_true rfl) dX12_rightOne_70 rfl (fun H locs hP hD hS => ?_)
                refine lv_if_eq (tgt := 80) hx hb dX12_rightOne_73 (by decide) (fun c73 => ?_) (fun c73 => ?_)
                · have h := k_pos c73 h
                  refine lv_iconst (v := 0) hx hb dX12_rightOne_80 (by decide) ?_
                  refine lv_iadd hx hb dX12_rightOne_81 ?_
                  refine lv_istore (lv' := [(4, .int (y4 + 0)), (0, .ref (aR 0)), (1, .int y1), (2, .int y2), (3, .int y3), (5, .int y5)]) hx hb dX12_rightOne_82 hl (by decide) rfl (fun ls hl => ?_)
                  refine lv_iinc (v := (y5 + 1)) (lv' := [(5, .int (y5 + 1)), (4, .int (y4 + 0)), (0, .ref (aR 0)), (1, .int y1), (2, .int y2), (3, .int y3)]) hx hb dX12_rightOne_84 hl (k := 5) rfl (by first | rfl | decide) (by decide) rfl (fun ls hl => ?_)
                  refine lv_goto (tgt := 23) hx hb dX12_rightOne_87 (by decide) ?_
                  exact ih23 (y4 + 0) (y5 + 1) H locs ls hP hD hS (lv_sub hl [2, 3, 4, 5, 1, 0] rfl) h
                · have h := k_neg c73 h
                  refine lv_iconst (v := 1) hx hb dX12_rightOne_76 (by decide) ?_
                  refine lv_goto (tgt := 81) hx hb dX12_rightOne_77 (by decide) ?_
                  refine lv_iadd hx hb dX12_rightOne_81 ?_
                  refine lv_istore (lv' := [(4, .int (y4 + 1)), (0, .ref (aR 0)), (1, .int y1), (2, .int y2), (3, .int y3), (5, .int y5)]) hx hb dX12_rightOne_82 hl (by decide) rfl (fun ls hl => ?_)
                  refine lv_iinc (v := (y5 + 1)) (lv' := [(5, .int (y5 + 1)), (4, .int (y4 + 1)), (0, .ref (aR 0)), (1, .int y1), (2, .int y2), (3, .int y3)]) hx hb dX12_rightOne_84 hl (k := 5) rfl (by first | rfl | decide) (by decide) rfl (fun ls hl => ?_)
                  refine lv_goto (tgt := 23) hx hb dX12_rightOne_87 (by decide) ?_
                  exact ih23 (y4 + 1) (y5 + 1) H locs ls hP hD hS (lv_sub hl [2, 3, 4, 5, 1, 0] rfl) h
        refine lv_istore (lv' := [(5, .int 0), (4, .int 0), (0, .ref (aR 0)), (1, .int y1), (2, .int y2), (3, .int y3)]) hx hb dX12_rightOne_21 hl (by decide) rfl (fun ls hl => ?_)
        exact B23 y1 y2 y3 lfu 0 0 H locs ls hP hD hS (lv_sub hl [2, 3, 4, 5, 1, 0] rfl) h
  refine lv_istore_n (lv' := [(3, .int 0), (2, .int (-1)), (1, .int (-4)), (0, .ref (aR 0))]) hx hb dX12_rightOne_6 rfl hl (by decide) rfl (fun ls hl => ?_)
  exact B7 lfu (-4) (-1) 0 s.heap [] ls hP hD hS (lv_sub hl [3, 2, 1, 0] rfl) h
abbrev Wd52 (cI : ClassId) (aR : Nat → Nat) (q_hasImage : Int32) (q_place : Int32) (q_rowAt : Int32) (q_rowEnd : Int32) (q_seed : Int32) (q_thrown : Int32) (q_s : Nat → Int32) (q_chain : Nat → Int32) : va_W := [((aR 0), .inr (12, [.ref (aR 1), .ref (aR 2), .ref (aR 3), .ref (aR 4), .int q_hasImage, .int q_place, .int q_rowAt, .int q_rowEnd, .ref (aR 5), .ref (aR 6), .int q_seed, .ref (aR 7), .ref (aR 8), .ref (aR 9), .ref (aR 10), .ref (aR 11), .ref (aR 12), .int q_thrown])), ((aR 1), .inl (cI, 37, .inl q_s)), ((aR 6), .inl (cI, 8, .inl q_chain))]
abbrev rm_X12_walls : Room := { frames := 1, cells := 0, slots := 0, locals := 21 }
set_option maxHeartbeats 4000000 in
set_option maxRecDepth 100000 in
theorem c_MD_walls (l : Launch) (D : va_G) (cI cM cS cJ : ClassId) (aR : Nat → Nat) (sz : Nat) (q_hasImage : Int32) (q_place : Int32) (q_rowAt : Int32) (q_rowEnd : Int32) (q_seed : Int32) (q_thrown : Int32) (q_s : Nat → Int32) (q_chain : Nat → Int32) {o : (Int32) × (Nat → Int32)} (hsem : S_MD_walls q_s q_chain = some o) : kMet l yX12_walls wsX12_walls rm_X12_walls [.ref (aR 0)] D (kT cI cM cS cJ) (Wd52 cI aR q_hasImage q_place q_rowAt q_rowEnd q_seed q_thrown q_s q_chain) sz (some (.int o.1)) (Wd52 cI aR q_hasImage q_place q_rowAt q_rowEnd q_seed q_thrown q_s o.2) := by
  refine k_metI (by decide) rfl rfl (Nat.le_of_ble_eq_true rfl) ?_
  intro p e s m below meth c ls Q A hx hb hml hts hown hK hN hA hP hD hS hl hsz hnm hret
  have hown : s.vm.findClass RX12 = some m.cls := hown
  have hf9 := hts (.fieldLink RX12 9 "PlumbLineModel" "s" "[I") (List.mem_of_getElem? (i := 1) rfl)
  have hf25 := hts (.fieldLink RX12 25 "PlumbLineModel" "chain" "[I") (List.mem_of_getElem? (i := 2) rfl)
  have hiX12 : ∀ w ∈ u_ws RX12 TX12 18, w ∈ wsX12_walls := fun w h => List.mem_cons_of_mem _ (List.mem_append_right _ h)
  replace hl : lv_has ls 4 [(0, .ref (aR 0))] := hl
  have h := hsem
  clear hsem
  rw [S_MD_walls] at h
  refine lv_bipush (v := (-4)) hx hb dX12_walls_0 (by decide) ?_
  refine lv_istore_n (lv' := [(1, .int (-4)), (0, .ref (aR 0))]) hx hb dX12_walls_2 rfl hl (by decide) rfl (fun ls hl => ?_)
  refine lv_iconst (v := 0) hx hb dX12_walls_3 (by decide) ?_
  have B5 : ∀ (n5 : Nat) (y1 : Int32) (y2 : Int32) (q_chain : Nat → Int32) (H : Heap) (locs : List Loc) (ls : Array Slot), va_P D vwCl (Wd52 cI aR q_hasImage q_place q_rowAt q_rowEnd q_seed q_thrown q_s q_chain) H → va_D A (Wd52 cI aR q_hasImage q_place q_rowAt q_rowEnd q_seed q_thrown q_s q_chain) → va_S A s.heap H locs → lv_has ls 4 [(0, .ref (aR 0)), (1, .int y1), (2, .int y2)] → S_MD_walls_L5 q_s n5 y1 y2 q_chain = some o → W p l e rm_X12_walls s m ([.ref (aR 0)] : List Value).toArray below meth c H locs 0 0 Q (F0 m 5 ls []) := by
    intro n5
    induction n5 with
    | zero => intro y1 y2 q_chain H locs ls hP hD hS hl h; exact absurd h (by simp [S_MD_walls_L5])
    | succ n5 ih5 =>
      intro y1 y2 q_chain H locs ls hP hD hS hl h
      rw [S_MD_walls_L5] at h
      refine lv_iload_n hx hb dX12_walls_5 rfl (lv_at hl 2 rfl) ?_
      refine lv_aload_n hx hb dX12_walls_6 rfl (lv_at hl 0 rfl) ?_
      refine va_get (D := D) (ci := 12) (v := .ref (aR 1)) (C := RX12) (T := TX12) (N := 18) hx hb hts hiX12 hown hK hP 0 rfl rfl 0 (by decide) hf9 (fun _ z => z) rfl dX12_walls_7 ?_
      refine lv_iconst (v := 0) hx hb dX12_walls_10 (by decide) ?_
      refine va_iald hx hb hK hP 1 0 rfl rfl (by decide) dX12_walls_11 ?_
      refine lv_icmp_ge (tgt := 116) hx hb dX12_walls_12 (by decide) (fun c12 => ?_) (fun c12 => ?_)
      · have h := k_pos c12 h
        refine lv_iload_n hx hb dX12_walls_116 rfl (lv_at hl 1 rfl) ?_
        cases h
        exact hret _ _ _ _ hP hS dX12_walls_117
      · have h := k_neg c12 h
        refine lv_aload_n hx hb dX12_walls_15 rfl (lv_at hl 0 rfl) ?_
        refine va_get (D := D) (ci := 12) (v := .ref (aR 6)) (C := RX12) (T := TX12) (N := 18) hx hb hts hiX12 hown hK hP 0 rfl rfl 9 (by decide) hf25 (fun _ z => z) rfl dX12_walls_16 ?_
        refine lv_iload_n hx hb dX12_walls_19 rfl (lv_at hl 2 rfl) ?_
        refine lv_iconst (v := 1) hx hb dX12_walls_20 (by decide) ?_
        obtain ⟨g21, h⟩ := k_guard h
        refine va_iast hx hb hK hP hD hS 2 0 rfl rfl g21 dX12_walls_21 (fun H locs hP hD hS => ?_)
        replace hP : va_P D vwCl (Wd52 cI aR q_hasImage q_place q_rowAt q_rowEnd q_seed q_thrown q_s (upd q_chain y2.toNatClampNeg 1)) H := hP
        replace hD : va_D A (Wd52 cI aR q_hasImage q_place q_rowAt q_rowEnd q_seed q_thrown q_s (upd q_chain y2.toNatClampNeg 1)) := hD
        refine lv_iconst (v := 0) hx hb dX12_walls_22 (by decide) ?_
        have B24 : ∀ (y1 : Int32) (y2 : Int32) (n24 : Nat) (y3 : Int32) (q_chain : Nat → Int32) (H : Heap) (locs : List Loc) (ls : Array Slot), va_P D vwCl (Wd52 cI aR q_hasImage q_place q_rowAt q_rowEnd q_seed q_thrown q_s q_chain) H → va_D A (Wd52 cI aR q_hasImage q_place q_rowAt q_rowEnd q_seed q_thrown q_s q_chain) → va_S A s.heap H locs → lv_has ls 4 [(0, .ref (aR 0)), (1, .int y1), (2, .int y2), (3, .int y3)] → S_MD_walls_L24 (S_MD_walls_L5 q_s n5) y1 y2 q_s n24 y3 q_chain = some o → W p l e rm_X12_walls s m ([.ref (aR 0)] : List Value).toArray below meth c H locs 0 0 Q (F0 m 24 ls []) := by
          intro y1 y2
          intro n24
          induction n24 with
          | zero => intro y3 q_chain H locs ls hP hD hS hl h; exact absurd h (by simp [S_MD_walls_L24])
          | succ n24 ih24 =>
            intro y3 q_chain H locs ls hP hD hS hl h
            rw [S_MD_walls_L24] at h
            refine lv_iload_n hx hb dX12_walls_24 rfl (lv_at hl 3 rfl) ?_
            refine lv_iload_n hx hb dX12_walls_25 rfl (lv_at hl 2 rfl) ?_
            refine lv_icmp_ge (tgt := 89) hx hb dX12_walls_26 (by decide) (fun c26 => ?_) (fun c26 => ?_)
            · have h := k_pos c26 h
              refine lv_aload_n hx hb dX12_walls_89 rfl (lv_at hl 0 rfl) ?_
              refine va_get (D := D) (ci := 12) (v := .ref (aR 6)) (C := RX12) (T := TX12) (N := 18) hx hb hts hiX12 hown hK hP 0 rfl rfl 9 (by decide) hf25 (fun _ z => z) rfl dX12_walls_90 ?_
              refine lv_iload_n hx hb dX12_walls_93 rfl (lv_at hl 2 rfl) ?_
              obtain ⟨g94, h⟩ := k_guard h
              refine va_iald hx hb hK hP 2 0 rfl rfl g94 dX12_walls_94 ?_
              refine lv_iload_n hx hb dX12_walls_95 rfl (lv_at hl 1 rfl) ?_
              refine lv_icmp_le (tgt := 108) hx hb dX12_walls_96 (by decide) (fun c96 => ?_) (fun c96 => ?_)
              · have h := k_pos c96 h
                refine lv_iload_n hx hb dX12_walls_108 rfl (lv_at hl 1 rfl) ?_
                refine lv_istore_n (lv' := [(1, .int y1), (0, .ref (aR 0)), (2, .int y2), (3, .int y3)]) hx hb dX12_walls_109 rfl hl (by decide) rfl (fun ls hl => ?_)
                refine lv_iinc (v := (y2 + 1)) (lv' := [(2, .int (y2 + 1)), (1, .int y1), (0, .ref (aR 0)), (3, .int y3)]) hx hb dX12_walls_110 hl (k := 2) rfl (by first | rfl | decide) (by decide) rfl (fun ls hl => ?_)
                refine lv_goto (tgt := 5) hx hb dX12_walls_113 (by decide) ?_
                exact ih5 y1 (y2 + 1) q_chain H locs ls hP hD hS (lv_sub hl [2, 1, 0] rfl) h
              · have h := k_neg c96 h
                refine lv_aload_n hx hb dX12_walls_99 rfl (lv_at hl 0 rfl) ?_
                refine va_get (D := D) (ci := 12) (v := .ref (aR 6)) (C := RX12) (T := TX12) (N := 18) hx hb hts hiX12 hown hK hP 0 rfl rfl 9 (by decide) hf25 (fun _ z => z) rfl dX12_walls_100 ?_
                refine lv_iload_n hx hb dX12_walls_103 rfl (lv_at hl 2 rfl) ?_
                refine va_iald hx hb hK hP 2 0 rfl rfl g94 dX12_walls_104 ?_
                refine lv_goto (tgt := 109) hx hb dX12_walls_105 (by decide) ?_
                refine lv_istore_n (lv' := [(1, .int (q_chain y2.toNatClampNeg)), (0, .ref (aR 0)), (2, .int y2), (3, .int y3)]) hx hb dX12_walls_109 rfl hl (by decide) rfl (fun ls hl => ?_)
                refine lv_iinc (v := (y2 + 1)) (lv' := [(2, .int (y2 + 1)), (1, .int (q_chain y2.toNatClampNeg)), (0, .ref (aR 0)), (3, .int y3)]) hx hb dX12_walls_110 hl (k := 2) rfl (by first | rfl | decide) (by decide) rfl (fun ls hl => ?_)
                refine lv_goto (tgt := 5) hx hb dX12_walls_113 (by decide) ?_
                exact ih5 (q_chain y2.toNatClampNeg) (y2 + 1) q_chain H locs ls hP hD hS (lv_sub hl [2, 1, 0] rfl) h
            · have h := k_neg c26 h
              refine lv_aload_n hx hb dX12_walls_29 rfl (lv_at hl 0 rfl) ?_
              refine va_get (D := D) (ci := 12) (v := .ref (aR 1)) (C := RX12) (T := TX12) (N := 18) hx hb hts hiX12 hown hK hP 0 rfl rfl 0 (by decide) hf9 (fun _ z => z) rfl dX12_walls_30 ?_
              refine lv_iload_n hx hb dX12_walls_33 rfl (lv_at hl 3 rfl) ?_
              refine lv_iconst (v := 2) hx hb dX12_walls_34 (by decide) ?_
              refine k_callS (As := [.int y3, .int 2]) (rest := [.ref (aR 1)]) (st1 := [.int (S_MD_of y3 2), .ref (aR 1)]) (ws2 := (Wd52 cI aR q_hasImage q_place q_rowAt q_rowEnd q_seed q_thrown q_s q_chain)) hx hb hml hown hts hK hN hA hP hD hS hl (c_MD_of l D cI cM cS cJ H.size y3 2 rfl) gX12_walls_X12_of rfl kdS_X12_of [] ⟨rfl, rfl⟩ ⟨Nat.le_of_ble_eq_true rfl, Nat.le_of_ble_eq_true rfl⟩ ⟨Nat.zero_le _, Nat.zero_le _⟩ rfl rfl (by decide +kernel) rfl rfl rfl (Nat.le_of_ble_eq_true rfl) dX12_walls_35 rfl (fun H locs hP hD hS => ?_)
              obtain ⟨g38, h⟩ := k_guard h
              refine va_iald hx hb hK hP 1 0 rfl rfl g38 dX12_walls_38 ?_
              refine lv_aload_n hx hb dX12_walls_39 rfl (lv_at hl 0 rfl) ?_
              refine va_get (D := D) (ci := 12) (v := .ref (aR 1)) (C := RX12) (T := TX12) (N := 18) hx hb hts hiX12 hown hK hP 0 rfl rfl 0 (by decide) hf9 (fun _ z => z) rfl dX12_walls_40 ?_
              refine lv_iload_n hx hb dX12_walls_43 rfl (lv_at hl 2 rfl) ?_
              refine lv_iconst (v := 2) hx hb dX12_walls_44 (by decide) ?_
              refine k_callS (As := [.int y2, .int 2]) (rest := [.ref (aR 1), .int (q_s (S_MD_of y3 2).toNatClampNeg)]) (st1 := [.int (S_MD_of y2 2), .ref (aR 1), .int (q_s (S_MD_of y3 2).toNatClampNeg)]) (ws2 := (Wd52 cI aR q_hasImage q_place q_rowAt q_rowEnd q_seed q_thrown q_s q_chain)) hx hb hml hown hts hK hN hA hP hD hS hl (c_MD_of l D cI cM cS cJ H.size y2 2 rfl) gX12_walls_X12_of rfl kdS_X12_of [] ⟨rfl, rfl⟩ ⟨Nat.le_of_ble_eq_true rfl, Nat.le_of_ble_eq_true rfl⟩ ⟨Nat.zero_le _, Nat.zero_le _⟩ rfl rfl (by decide +kernel) rfl rfl rfl (Nat.le_of_ble_eq_true rfl) dX12_walls_45 rfl (fun H locs hP hD hS => ?_)
              obtain ⟨g48, h⟩ := k_guard h
              refine va_iald hx hb hK hP 1 0 rfl rfl g48 dX12_walls_48 ?_
              refine lv_icmp_gt (tgt := 83) hx hb dX12_walls_49 (by decide) (fun c49 => ?_) (fun c49 => ?_)
              · have h := k_pos c49 h
                refine lv_iinc (v := (y3 + 1)) (lv' := [(3, .int (y3 + 1)), (0, .ref (aR 0)), (1, .int y1), (2, .int y2)]) hx hb dX12_walls_83 hl (k := 3) rfl (by first | rfl | decide) (by decide) rfl (fun ls hl => ?_)
                refine lv_goto (tgt := 24) hx hb dX12_walls_86 (by decide) ?_
                exact ih24 (y3 + 1) q_chain H locs ls hP hD hS (lv_sub hl [1, 2, 3, 0] rfl) h
              · have h := k_neg c49 h
                refine lv_aload_n hx hb dX12_walls_52 rfl (lv_at hl 0 rfl) ?_
                refine va_get (D := D) (ci := 12) (v := .ref (aR 6)) (C := RX12) (T := TX12) (N := 18) hx hb hts hiX12 hown hK hP 0 rfl rfl 9 (by decide) hf25 (fun _ z => z) rfl dX12_walls_53 ?_
                refine lv_iload_n hx hb dX12_walls_56 rfl (lv_at hl 3 rfl) ?_
                obtain ⟨g57, h⟩ := k_guard h
                refine va_iald hx hb hK hP 2 0 rfl rfl g57 dX12_walls_57 ?_
                refine lv_iconst (v := 1) hx hb dX12_walls_58 (by decide) ?_
                refine lv_iadd hx hb dX12_walls_59 ?_
                refine lv_aload_n hx hb dX12_walls_60 rfl (lv_at hl 0 rfl) ?_
                refine va_get (D := D) (ci := 12) (v := .ref (aR 6)) (C := RX12) (T := TX12) (N := 18) hx hb hts hiX12 hown hK hP 0 rfl rfl 9 (by decide) hf25 (fun _ z => z) rfl dX12_walls_61 ?_
                refine lv_iload_n hx hb dX12_walls_64 rfl (lv_at hl 2 rfl) ?_
                obtain ⟨g65, h⟩ := k_guard h
                refine va_iald hx hb hK hP 2 0 rfl rfl g65 dX12_walls_65 ?_
                refine lv_icmp_le (tgt := 83) hx hb dX12_walls_66 (by decide) (fun c66 => ?_) (fun c66 => ?_)
                · have h := k_pos c66 h
                  refine lv_iinc (v := (y3 + 1)) (lv' := [(3, .int (y3 + 1)), (0, .ref (aR 0)), (1, .int y1), (2, .int y2)]) hx hb dX12_walls_83 hl (k := 3) rfl (by first | rfl | decide) (by decide) rfl (fun ls hl => ?_)
                  refine lv_goto (tgt := 24) hx hb dX12_walls_86 (by decide) ?_
                  exact ih24 (y3 + 1) q_chain H locs ls hP hD hS (lv_sub hl [1, 2, 3, 0] rfl) h
                · have h := k_neg c66 h
                  refine lv_aload_n hx hb dX12_walls_69 rfl (lv_at hl 0 rfl) ?_
                  refine va_get (D := D) (ci := 12) (v := .ref (aR 6)) (C := RX12) (T := TX12) (N := 18) hx hb hts hiX12 hown hK hP 0 rfl rfl 9 (by decide) hf25 (fun _ z => z) rfl dX12_walls_70 ?_
                  refine lv_iload_n hx hb dX12_walls_73 rfl (lv_at hl 2 rfl) ?_
                  refine lv_aload_n hx hb dX12_walls_74 rfl (lv_at hl 0 rfl) ?_
                  refine va_get (D := D) (ci := 12) (v := .ref (aR 6)) (C := RX12) (T := TX12) (N := 18) hx hb hts hiX12 hown hK hP 0 rfl rfl 9 (by decide) hf25 (fun _ z => z) rfl dX12_walls_75 ?_
                  refine lv_iload_n hx hb dX12_walls_78 rfl (lv_at hl 3 rfl) ?_
                  refine va_iald hx hb hK hP 2 0 rfl rfl g57 dX12_walls_79 ?_
                  refine lv_iconst (v := 1) hx hb dX12_walls_80 (by decide) ?_
                  refine lv_iadd hx hb dX12_walls_81 ?_
                  refine va_iast hx hb hK hP hD hS 2 0 rfl rfl g65 dX12_walls_82 (fun H locs hP hD hS => ?_)
                  replace hP : va_P D vwCl (Wd52 cI aR q_hasImage q_place q_rowAt q_rowEnd q_seed q_thrown q_s (upd q_chain y2.toNatClampNeg ((q_chain y3.toNatClampNeg) + 1))) H := hP
                  replace hD : va_D A (Wd52 cI aR q_hasImage q_place q_rowAt q_rowEnd q_seed q_thrown q_s (upd q_chain y2.toNatClampNeg ((q_chain y3.toNatClampNeg) + 1))) := hD
                  refine lv_iinc (v := (y3 + 1)) (lv' := [(3, .int (y3 + 1)), (0, .ref (aR 0)), (1, .int y1), (2, .int y2)]) hx hb dX12_walls_83 hl (k := 3) rfl (by first | rfl | decide) (by decide) rfl (fun ls hl => ?_)
                  refine lv_goto (tgt := 24) hx hb dX12_walls_86 (by decide) ?_
                  exact ih24 (y3 + 1) (upd q_chain y2.toNatClampNeg ((q_chain y3.toNatClampNeg) + 1)) H locs ls hP hD hS (lv_sub hl [1, 2, 3, 0] rfl) h
        refine lv_istore_n (lv' := [(3, .int 0), (0, .ref (aR 0)), (1, .int y1), (2, .int y2)]) hx hb dX12_walls_23 rfl hl (by decide) rfl (fun ls hl => ?_)
        exact B24 y1 y2 lfu 0 (upd q_chain y2.toNatClampNeg 1) H locs ls hP hD hS (lv_sub hl [1, 2, 3, 0] rfl) h
  refine lv_istore_n (lv' := [(2, .int 0), (1, .int (-4)), (0, .ref (aR 0))]) hx hb dX12_walls_4 rfl hl (by decide) rfl (fun ls hl => ?_)
  exact B5 lfu (-4) 0 q_chain s.heap [] ls hP hD hS (lv_sub hl [2, 1, 0] rfl) h
abbrev rm_X12_balance : Room := { frames := 1, cells := 0, slots := 0, locals := 22 }
set_option maxHeartbeats 4000000 in
set_option maxRecDepth 100000 in
theorem c_MD_balance (l : Launch) (D : va_G) (cI cM cS cJ : ClassId) (aR : Nat → Nat) (sz : Nat) (q_hasImage : Int32) (q_place : Int32) (q_rowAt : Int32) (q_rowEnd : Int32) (q_seed : Int32) (q_thrown : Int32) (q_s : Nat → Int32) {o : (Int32)} (hsem : S_MD_balance q_s = some o) : kMet l yX12_balance wsX12_balance rm_X12_balance [.ref (aR 0)] D (kT cI cM cS cJ) (Wd40 cI aR q_hasImage q_place q_rowAt q_rowEnd q_seed q_thrown q_s) sz (some (.int o)) (Wd40 cI aR q_hasImage q_place q_rowAt q_rowEnd q_seed q_thrown q_s) := by
  refine k_metI (by decide) rfl rfl (Nat.le_of_ble_eq_true rfl) ?_
  intro p e s m below meth c ls Q A hx hb hml hts hown hK hN hA hP hD hS hl hsz hnm hret
  have hown : s.vm.findClass RX12 = some m.cls := hown
  have hf9 := hts (.fieldLink RX12 9 "PlumbLineModel" "s" "[I") (List.mem_of_getElem? (i := 1) rfl)
  have hiX12 : ∀ w ∈ u_ws RX12 TX12 18, w ∈ wsX12_balance := fun w h => List.mem_cons_of_mem _ (List.mem_append_right _ h)
  replace hl : lv_has ls 5 [(0, .ref (aR 0))] := hl
  have h := hsem
  clear hsem
  rw [S_MD_balance] at h
  refine lv_iconst (v := 0) hx hb dX12_balance_0 (by decide) ?_
  refine lv_istore_n (lv' := [(1, .int 0), (0, .ref (aR 0))]) hx hb dX12_balance_1 rfl hl (by decide) rfl (fun ls hl => ?_)
  refine lv_iconst (v := 0) hx hb dX12_balance_2 (by decide) ?_
  have B4 : ∀ (n4 : Nat) (y1 : Int32) (y2 : Int32) (H : Heap) (locs : List Loc) (ls : Array Slot), va_P D vwCl (Wd40 cI aR q_hasImage q_place q_rowAt q_rowEnd q_seed q_thrown q_s) H → va_D A (Wd40 cI aR q_hasImage q_place q_rowAt q_rowEnd q_seed q_thrown q_s) → va_S A s.heap H locs → lv_has ls 5 [(0, .ref (aR 0)), (1, .int y1), (2, .int y2)] → S_MD_balance_L4 q_s n4 y1 y2 = some o → W p l e rm_X12_balance s m ([.ref (aR 0)] : List Value).toArray below meth c H locs 0 0 Q (F0 m 4 ls []) := by
    intro n4
    induction n4 with
    | zero => intro y1 y2 H locs ls hP hD hS hl h; exact absurd h (by simp [S_MD_balance_L4])
    | succ n4 ih4 =>
      intro y1 y2 H locs ls hP hD hS hl h
      rw [S_MD_balance_L4] at h
      refine lv_iload_n hx hb dX12_balance_4 rfl (lv_at hl 2 rfl) ?_
      refine lv_iconst (v := 1) hx hb dX12_balance_5 (by decide) ?_
      refine lv_aload_n hx hb dX12_balance_6 rfl (lv_at hl 0 rfl) ?_
      refine va_get (D := D) (ci := 12) (v := .ref (aR 1)) (C := RX12) (T := TX12) (N := 18) hx hb hts hiX12 hown hK hP 0 rfl rfl 0 (by decide) hf9 (fun _ z => z) rfl dX12_balance_7 ?_
      refine lv_iconst (v := 0) hx hb dX12_balance_10 (by decide) ?_
      refine va_iald hx hb hK hP 1 0 rfl rfl (by decide) dX12_balance_11 ?_
      refine lv_ishl hx hb dX12_balance_12 ?_
      refine lv_icmp_ge (tgt := 88) hx hb dX12_balance_13 (by decide) (fun c13 => ?_) (fun c13 => ?_)
      · have h := k_pos c13 h
        refine lv_iload_n hx hb dX12_balance_88 rfl (lv_at hl 1 rfl) ?_
        cases h
        exact hret _ _ _ _ hP hS dX12_balance_89
      · have h := k_neg c13 h
        refine lv_iconst (v := 0) hx hb dX12_balance_16 (by decide) ?_
        refine lv_istore_n (lv' := [(3, .int 0), (0, .ref (aR 0)), (1, .int y1), (2, .int y2)]) hx hb dX12_balance_17 rfl hl (by decide) rfl (fun ls hl => ?_)
        refine lv_iconst (v := 0) hx hb dX12_balance_18 (by decide) ?_
        have B21 : ∀ (y1 : Int32) (y2 : Int32) (n21 : Nat) (y3 : Int32) (y4 : Int32) (H : Heap) (locs : List Loc) (ls : Array Slot), va_P D vwCl (Wd40 cI aR q_hasImage q_place q_rowAt q_rowEnd q_seed q_thrown q_s) H → va_D A (Wd40 cI aR q_hasImage q_place q_rowAt q_rowEnd q_seed q_thrown q_s) → va_S A s.heap H locs → lv_has ls 5 [(0, .ref (aR 0)), (1, .int y1), (2, .int y2), (3, .int y3), (4, .int y4)] → S_MD_balance_L21 (S_MD_balance_L4 q_s n4) y1 y2 q_s n21 y3 y4 = some o → W p l e rm_X12_balance s m ([.ref (aR 0)] : List Value).toArray below meth c H locs 0 0 Q (F0 m 21 ls []) := by
          intro y1 y2
          intro n21
          induction n21 with
          | zero => intro y3 y4 H locs ls hP hD hS hl h; exact absurd h (by simp [S_MD_balance_L21])
          | succ n21 ih21 =>
            intro y3 y4 H locs ls hP hD hS hl h
            rw [S_MD_balance_L21] at h
            refine lv_iload hx hb dX12_balance_21 (lv_at hl 4 rfl) ?_
            refine lv_aload_n hx hb dX12_balance_23 rfl (lv_at hl 0 rfl) ?_
            refine va_get (D := D) (ci := 12) (v := .ref (aR 1)) (C := RX12) (T := TX12) (N := 18) hx hb hts hiX12 hown hK hP 0 rfl rfl 0 (by decide) hf9 (fun _ z => z) rfl dX12_balance_24 ?_
            refine lv_iconst (v := 0) hx hb dX12_balance_27 (by decide) ?_
            refine va_iald hx hb hK hP 1 0 rfl rfl (by decide) dX12_balance_28 ?_
            refine lv_icmp_ge (tgt := 65) hx hb dX12_balance_29 (by decide) (fun c29 => ?_) (fun c29 => ?_)
            · have h := k_pos c29 h
              refine lv_iload_n hx hb dX12_balance_65 rfl (lv_at hl 3 rfl) ?_
              refine lv_if_ne (tgt := 82) hx hb dX12_balance_66 (by decide) (fun c66 => ?_) (fun c66 => ?_)
              · have h := k_neg c66 h
                refine lv_iinc (v := (y2 + 1)) (lv' := [(2, .int (y2 + 1)), (0, .ref (aR 0)), (1, .int y1), (3, .int y3), (4, .int y4)]) hx hb dX12_balance_82 hl (k := 2) rfl (by first | rfl | decide) (by decide) rfl (fun ls hl => ?_)
                refine lv_goto (tgt := 4) hx hb dX12_balance_85 (by decide) ?_
                exact ih4 y1 (y2 + 1) H locs ls hP hD hS (lv_sub hl [1, 2, 0] rfl) h
              · have h := k_pos c66 h
                refine lv_iload_n hx hb dX12_balance_69 rfl (lv_at hl 2 rfl) ?_
                obtain ⟨r70, g70, h⟩ := k_bind h
                refine k_callS (As := [.int y2]) (rest := []) (st1 := [.int r70]) (ws2 := (Wd40 cI aR q_hasImage q_place q_rowAt q_rowEnd q_seed q_thrown q_s)) hx hb hml hown hts hK hN hA hP hD hS hl (c_MD_bits l D cI cM cS cJ H.size y2 g70) gX12_balance_X12_bits rfl kdS_X12_bits [] ⟨rfl, rfl⟩ ⟨Nat.le_of_ble_eq_true rfl, Nat.le_of_ble_eq_true rfl⟩ ⟨Nat.zero_le _, Nat.zero_le _⟩ rfl rfl (by decide +kernel) rfl rfl rfl (Nat.le_of_ble_eq_true rfl) dX12_balance_70 rfl (fun H locs hP hD hS => ?_)
                refine lv_iload_n hx hb dX12_balance_73 rfl (lv_at hl 1 rfl) ?_
                obtain ⟨r74, g74, h⟩ := k_bind h
                refine k_callS (As := [.int y1]) (rest := [.int r70]) (st1 := [.int r74, .int r70]) (ws2 := (Wd40 cI aR q_hasImage q_place q_rowAt q_rowEnd q_seed q_thrown q_s)) hx hb hml hown hts hK hN hA hP hD hS hl (c_MD_bits l D cI cM cS cJ H.size y1 g74) gX12_balance_X12_bits rfl kdS_X12_bits [] ⟨rfl, rfl⟩ ⟨Nat.le_of_ble_eq_true rfl, Nat.le_of_ble_eq_true rfl⟩ ⟨Nat.zero_le _, Nat.zero_le _⟩ rfl rfl (by decide +kernel) rfl rfl rfl (Nat.le_of_ble_eq_true rfl) dX12_balance_74 rfl (fun H locs hP hD hS => ?_)
                refine lv_icmp_le (tgt := 82) hx hb dX12_balance_77 (by decide) (fun c77 => ?_) (fun c77 => ?_)
                · have h := k_pos c77 h
                  refine lv_iinc (v := (y2 + 1)) (lv' := [(2, .int (y2 + 1)), (0, .ref (aR 0)), (1, .int y1), (3, .int y3), (4, .int y4)]) hx hb dX12_balance_82 hl (k := 2) rfl (by first | rfl | decide) (by decide) rfl (fun ls hl => ?_)
                  refine lv_goto (tgt := 4) hx hb dX12_balance_85 (by decide) ?_
                  exact ih4 y1 (y2 + 1) H locs ls hP hD hS (lv_sub hl [1, 2, 0] rfl) h
                · have h := k_neg c77 h
                  refine lv_iload_n hx hb dX12_balance_80 rfl (lv_at hl 2 rfl) ?_
                  refine lv_istore_n (lv' := [(1, .int y2), (0, .ref (aR 0)), (2, .int y2), (3, .int y3), (4, .int y4)]) hx hb dX12_balance_81 rfl hl (by decide) rfl (fun ls hl => ?_)
                  refine lv_iinc (v := (y2 + 1)) (lv' := [(2, .int (y2 + 1)), (1, .int y2), (0, .ref (aR 0)), (3, .int y3), (4, .int y4)]) hx hb dX12_balance_82 hl (k := 2) rfl (by first | rfl | decide) (by decide) rfl (fun ls hl => ?_)
                  refine lv_goto (tgt := 4) hx hb dX12_balance_85 (by decide) ?_
                  exact ih4 y2 (y2 + 1) H locs ls hP hD hS (lv_sub hl [2, 1, 0] rfl) h
            · have h := k_neg c29 h
              refine lv_iload_n hx hb dX12_balance_32 rfl (lv_at hl 3 rfl) ?_
              refine lv_iload_n hx hb dX12_balance_33 rfl (lv_at hl 2 rfl) ?_
              refine lv_iload hx hb dX12_balance_34 (lv_at hl 4 rfl) ?_
              refine k_callS (As := [.int y2, .int y4]) (rest := [.int y3]) (st1 := [.int (S_MD_has y2 y4), .int y3]) (ws2 := (Wd40 cI aR q_hasImage q_place q_rowAt q_rowEnd q_seed q_thrown q_s)) hx hb hml hown hts hK hN hA hP hD hS hl (c_MD_has l D cI cM cS cJ H.size y2 y4 rfl) gX12_balance_X12_has rfl kdS_X12_has [] ⟨rfl, rfl⟩ ⟨Nat.le_of_ble_eq_true rfl, Nat.le_of_ble_eq_true rfl⟩ ⟨Nat.zero_le _, Nat.zero_le _⟩ rfl rfl (by decide +kernel) rfl rfl rfl (Nat.le_of_ble_eq_true rfl) dX12_balance_36 rfl (fun H locs hP hD hS => ?_)
              refine lv_if_eq (tgt := 56) hx hb dX12_balance_39 (by decide) (fun c39 => ?_) (fun c39 => ?_)
              · have h := k_pos c39 h
                refine lv_iconst (v := 0) hx hb dX12_balance_56 (by decide) ?_
                refine lv_iadd hx hb dX12_balance_57 ?_
                refine lv_istore_n (lv' := [(3, .int (y3 + 0)), (0, .ref (aR 0)), (1, .int y1), (2, .int y2), (4, .int y4)]) hx hb dX12_balance_58 rfl hl (by decide) rfl (fun ls hl => ?_)
                refine lv_iinc (v := (y4 + 1)) (lv' := [(4, .int (y4 + 1)), (3, .int (y3 + 0)), (0, .ref (aR 0)), (1, .int y1), (2, .int y2)]) hx hb dX12_balance_59 hl (k := 4) rfl (by first | rfl | decide) (by decide) rfl (fun ls hl => ?_)
                refine lv_goto (tgt := 21) hx hb dX12_balance_62 (by decide) ?_
                exact ih21 (y3 + 0) (y4 + 1) H locs ls hP hD hS (lv_sub hl [2, 3, 4, 1, 0] rfl) h
              · have h := k_neg c39 h
                refine lv_aload_n hx hb dX12_balance_42 rfl (lv_at hl 0 rfl) ?_
                refine va_get (D := D) (ci := 12) (v := .ref (aR 1)) (C := RX12) (T := TX12) (N := 18) hx hb hts hiX12 hown hK hP 0 rfl rfl 0 (by decide) hf9 (fun _ z => z) rfl dX12_balance_43 ?_
                refine lv_iload hx hb dX12_balance_46 (lv_at hl 4 rfl) ?_
                refine lv_iconst (v := 2) hx hb dX12_balance_48 (by decide) ?_
                refine k_callS (As := [.int y4, .int 2]) (rest := [.ref (aR 1), .int y3]) (st1 := [.int (S_MD_of y4 2), .ref (aR 1), .int y3]) (ws2 := (Wd40 cI aR q_hasImage q_place q_rowAt q_rowEnd q_seed q_thrown q_s)) hx hb hml hown hts hK hN hA hP hD hS hl (c_MD_of l D cI cM cS cJ H.size y4 2 rfl) gX12_balance_X12_of rfl kdS_X12_of [] ⟨rfl, rfl⟩ ⟨Nat.le_of_ble_eq_true rfl, Nat.le_of_ble_eq_true rfl⟩ ⟨Nat.zero_le _, Nat.zero_le _⟩ rfl rfl (by decide +kernel) rfl rfl rfl (Nat.le_of_ble_eq_true rfl) dX12_balance_49 rfl (fun H locs hP hD hS => ?_)
                obtain ⟨g52, h⟩ := k_guard h
                refine va_iald hx hb hK hP 1 0 rfl rfl g52 dX12_balance_52 ?_
                refine lv_goto (tgt := 57) hx hb dX12_balance_53 (by decide) ?_
                refine lv_iadd hx hb dX12_balance_57 ?_
                refine lv_istore_n (lv' := [(3, .int (y3 + (q_s (S_MD_of y4 2).toNatClampNeg))), (0, .ref (aR 0)), (1, .int y1), (2, .int y2), (4, .int y4)]) hx hb dX12_balance_58 rfl hl (by decide) rfl (fun ls hl => ?_)
                refine lv_iinc (v := (y4 + 1)) (lv' := [(4, .int (y4 + 1)), (3, .int (y3 + (q_s (S_MD_of y4 2).toNatClampNeg))), (0, .ref (aR 0)), (1, .int y1), (2, .int y2)]) hx hb dX12_balance_59 hl (k := 4) rfl (by first | rfl | decide) (by decide) rfl (fun ls hl => ?_)
                refine lv_goto (tgt := 21) hx hb dX12_balance_62 (by decide) ?_
                exact ih21 (y3 + (q_s (S_MD_of y4 2).toNatClampNeg)) (y4 + 1) H locs ls hP hD hS (lv_sub hl [2, 3, 4, 1, 0] rfl) h
        refine lv_istore (lv' := [(4, .int 0), (3, .int 0), (0, .ref (aR 0)), (1, .int y1), (2, .int y2)]) hx hb dX12_balance_19 hl (by decide) rfl (fun ls hl => ?_)
        exact B21 y1 y2 lfu 0 0 H locs ls hP hD hS (lv_sub hl [2, 3, 4, 1, 0] rfl) h
  refine lv_istore_n (lv' := [(2, .int 0), (1, .int 0), (0, .ref (aR 0))]) hx hb dX12_balance_3 rfl hl (by decide) rfl (fun ls hl => ?_)
  exact B4 lfu 0 0 s.heap [] ls hP hD hS (lv_sub hl [2, 1, 0] rfl) h
theorem kdV_X12_balance : yX12_balance.cls = RX12 ∧ yX12_balance.cls ≠ "java/lang/invoke/MethodHandle" ∧ yX12_balance.cls ≠ "java/lang/invoke/VarHandle" ∧ (parseMethodDescriptor yX12_balance.desc).map (fun d => d.parameters.length) = some 0 := by decide +kernel
theorem kdV_X12_walls : yX12_walls.cls = RX12 ∧ yX12_walls.cls ≠ "java/lang/invoke/MethodHandle" ∧ yX12_walls.cls ≠ "java/lang/invoke/VarHandle" ∧ (parseMethodDescriptor yX12_walls.desc).map (fun d => d.parameters.length) = some 0 := by decide +kernel
theorem kdV_X12_rightOne : yX12_rightOne.cls = RX12 ∧ yX12_rightOne.cls ≠ "java/lang/invoke/MethodHandle" ∧ yX12_rightOne.cls ≠ "java/lang/invoke/VarHandle" ∧ (parseMethodDescriptor yX12_rightOne.desc).map (fun d => d.parameters.length) = some 0 := by decide +kernel
abbrev rm_X12_right : Room := { frames := 3, cells := 0, slots := 0, locals := 68 }
set_option maxHeartbeats 4000000 in
set_option maxRecDepth 100000 in
theorem c_MD_right (l : Launch) (D : va_G) (cI cM cS cJ : ClassId) (aR : Nat → Nat) (sz : Nat) (x1 : Int32) (q_hasImage : Int32) (q_place : Int32) (q_rowAt : Int32) (q_rowEnd : Int32) (q_seed : Int32) (q_thrown : Int32) (q_s : Nat → Int32) (q_chain : Nat → Int32) {o : (Int32) × (Nat → Int32)} (hsem : S_MD_right x1 q_s q_chain = some o) : kMet l yX12_right wsX12_right rm_X12_right [.ref (aR 0), .int x1] D (kT cI cM cS cJ) (Wd52 cI aR q_hasImage q_place q_rowAt q_rowEnd q_seed q_thrown q_s q_chain) sz (some (.int o.1)) (Wd52 cI aR q_hasImage q_place q_rowAt q_rowEnd q_seed q_thrown q_s o.2) := by
  refine k_metI (by decide) rfl rfl (Nat.le_of_ble_eq_true rfl) ?_
  intro p e s m below meth c ls Q A hx hb hml hts hown hK hN hA hP hD hS hl hsz hnm hret
  have hown : s.vm.findClass RX12 = some m.cls := hown
  replace hl : lv_has ls 2 [(0, .ref (aR 0)), (1, .int x1)] := hl
  have h := hsem
  clear hsem
  rw [S_MD_right] at h
  refine lv_iload_n hx hb dX12_right_0 rfl (lv_at hl 1 rfl) ?_
  refine lv_if_ne (tgt := 11) hx hb dX12_right_1 (by decide) (fun c1 => ?_) (fun c1 => ?_)
  · have h := k_neg c1 h
    refine lv_iload_n hx hb dX12_right_11 rfl (lv_at hl 1 rfl) ?_
    refine lv_iconst (v := 1) hx hb dX12_right_12 (by decide) ?_
    refine lv_icmp_ne (tgt := 23) hx hb dX12_right_13 (by decide) (fun c13 => ?_) (fun c13 => ?_)
    · have h := k_neg c13 h
      refine lv_iload_n hx hb dX12_right_23 rfl (lv_at hl 1 rfl) ?_
      refine lv_iconst (v := 2) hx hb dX12_right_24 (by decide) ?_
      refine lv_icmp_ne (tgt := 35) hx hb dX12_right_25 (by decide) (fun c25 => ?_) (fun c25 => ?_)
      · have h := k_neg c25 h
        refine lv_iconst (v := (-1)) hx hb dX12_right_35 (by decide) ?_
        cases h
        exact hret _ _ _ _ hP hS dX12_right_36
      · have h := k_pos c25 h
        refine lv_aload_n hx hb dX12_right_28 rfl (lv_at hl 0 rfl) ?_
        obtain ⟨r29, g29, h⟩ := k_bind h
        refine k_callV (As := []) (rest := []) (st1 := [.int r29]) (ws2 := (Wd52 cI aR q_hasImage q_place q_rowAt q_rowEnd q_seed q_thrown q_s q_chain)) hx hb hml hown hts hK hN hA hP hD hS hl (c_MD_balance l D cI cM cS cJ aR s.heap.size q_hasImage q_place q_rowAt q_rowEnd q_seed q_thrown q_s g29) gX12_right_X12_balance rfl kdV_X12_balance 0 12 rfl rfl rfl [0, 1] ⟨rfl, rfl⟩ ⟨Nat.le_of_ble_eq_true rfl, Nat.le_of_ble_eq_true rfl⟩ ⟨Nat.zero_le _, Nat.zero_le _⟩ rfl rfl (by decide +kernel) rfl rfl rfl (Nat.le_of_ble_eq_true rfl) dX12_right_29 rfl (fun H locs hP hD hS => ?_)
        refine lv_goto (tgt := 36) hx hb dX12_right_32 (by decide) ?_
        cases h
        exact hret _ _ _ _ hP hS dX12_right_36
    · have h := k_pos c13 h
      refine lv_aload_n hx hb dX12_right_16 rfl (lv_at hl 0 rfl) ?_
      obtain ⟨r17, g17, h⟩ := k_bind h
      refine k_callV (As := []) (rest := []) (st1 := [.int r17.1]) (ws2 := (Wd52 cI aR q_hasImage q_place q_rowAt q_rowEnd q_seed q_thrown q_s r17.2)) hx hb hml hown hts hK hN hA hP hD hS hl (c_MD_walls l D cI cM cS cJ aR s.heap.size q_hasImage q_place q_rowAt q_rowEnd q_seed q_thrown q_s q_chain g17) gX12_right_X12_walls rfl kdV_X12_walls 0 12 rfl rfl rfl [0, 1, 2] ⟨rfl, rfl⟩ ⟨Nat.le_of_ble_eq_true rfl, Nat.le_of_ble_eq_true rfl⟩ ⟨Nat.zero_le _, Nat.zero_le _⟩ rfl rfl (by decide +kernel) rfl rfl rfl (Nat.le_of_ble_eq_true rfl) dX12_right_17 rfl (fun H locs hP hD hS => ?_)
      refine lv_goto (tgt := 36) hx hb dX12_right_20 (by decide) ?_
      cases h
      exact hret _ _ _ _ hP hS dX12_right_36
  · have h := k_pos c1 h
    refine lv_aload_n hx hb dX12_right_4 rfl (lv_at hl 0 rfl) ?_
    obtain ⟨r5, g5, h⟩ := k_bind h
    refine k_callV (As := []) (rest := []) (st1 := [.int r5]) (ws2 := (Wd52 cI aR q_hasImage q_place q_rowAt q_rowEnd q_seed q_thrown q_s q_chain)) hx hb hml hown hts hK hN hA hP hD hS hl (c_MD_rightOne l D cI cM cS cJ aR s.heap.size q_hasImage q_place q_rowAt q_rowEnd q_seed q_thrown q_s g5) gX12_right_X12_rightOne rfl kdV_X12_rightOne 0 12 rfl rfl rfl [0, 1] ⟨rfl, rfl⟩ ⟨Nat.le_of_ble_eq_true rfl, Nat.le_of_ble_eq_true rfl⟩ ⟨Nat.zero_le _, Nat.zero_le _⟩ rfl rfl (by decide +kernel) rfl rfl rfl (Nat.le_of_ble_eq_true rfl) dX12_right_5 rfl (fun H locs hP hD hS => ?_)
    refine lv_goto (tgt := 36) hx hb dX12_right_8 (by decide) ?_
    cases h
    exact hret _ _ _ _ hP hS dX12_right_36
abbrev rm_X12_leastOf : Room := { frames := 0, cells := 0, slots := 0, locals := 0 }
set_option maxHeartbeats 4000000 in
set_option maxRecDepth 100000 in
theorem c_MD_leastOf (l : Launch) (D : va_G) (cI cM cS cJ : ClassId) (sz : Nat) (x0 : Int32) {o : (Int32)} (hsem : S_MD_leastOf x0 = o) : kMet l yX12_leastOf wsX12_leastOf rm_X12_leastOf [.int x0] D (kT cI cM cS cJ) (Wd0) sz (some (.int o)) (Wd0) := by
  refine k_metI (by decide) rfl rfl (Nat.le_of_ble_eq_true rfl) ?_
  intro p e s m below meth c ls Q A hx hb hml hts hown hK hN hA hP hD hS hl hsz hnm hret
  have hown : s.vm.findClass RX12 = some m.cls := hown
  replace hl : lv_has ls 1 [(0, .int x0)] := hl
  have h := hsem
  clear hsem
  rw [S_MD_leastOf] at h
  refine lv_iload_n hx hb dX12_leastOf_0 rfl (lv_at hl 0 rfl) ?_
  refine lv_if_ne (tgt := 9) hx hb dX12_leastOf_1 (by decide) (fun c1 => ?_) (fun c1 => ?_)
  · have h := k_neg c1 h
    refine lv_iload_n hx hb dX12_leastOf_9 rfl (lv_at hl 0 rfl) ?_
    refine lv_iconst (v := 1) hx hb dX12_leastOf_10 (by decide) ?_
    refine lv_icmp_ne (tgt := 20) hx hb dX12_leastOf_11 (by decide) (fun c11 => ?_) (fun c11 => ?_)
    · have h := k_neg c11 h
      refine lv_ldc (v := (-2147483648)) hx hb hown (hts (.constant RX12 202 (-2147483648)) (List.mem_of_getElem? (i := 1) rfl)) dX12_leastOf_20 ?_
      cases h
      exact hret _ _ _ _ hP hS dX12_leastOf_22
    · have h := k_pos c11 h
      refine lv_sipush (v := (-32768)) hx hb dX12_leastOf_14 (by decide) ?_
      refine lv_goto (tgt := 22) hx hb dX12_leastOf_17 (by decide) ?_
      cases h
      exact hret _ _ _ _ hP hS dX12_leastOf_22
  · have h := k_pos c1 h
    refine lv_bipush (v := (-128)) hx hb dX12_leastOf_4 (by decide) ?_
    refine lv_goto (tgt := 22) hx hb dX12_leastOf_6 (by decide) ?_
    cases h
    exact hret _ _ _ _ hP hS dX12_leastOf_22
abbrev Wd53 (cI : ClassId) (aR : Nat → Nat) (q_hasImage : Int32) (q_place : Int32) (q_rowAt : Int32) (q_rowEnd : Int32) (q_seed : Int32) (q_thrown : Int32) (q_sort : Nat → Int32) (q_element : Nat → Int32) : va_W := [((aR 0), .inr (12, [.ref (aR 1), .ref (aR 2), .ref (aR 3), .ref (aR 4), .int q_hasImage, .int q_place, .int q_rowAt, .int q_rowEnd, .ref (aR 5), .ref (aR 6), .int q_seed, .ref (aR 7), .ref (aR 8), .ref (aR 9), .ref (aR 10), .ref (aR 11), .ref (aR 12), .int q_thrown])), ((aR 10), .inl (cI, 8, .inl q_sort)), ((aR 12), .inl (cI, 800, .inl q_element))]
theorem kdS_X12_leastOf : yX12_leastOf.cls ≠ "java/lang/invoke/MethodHandle" ∧ yX12_leastOf.cls ≠ "java/lang/invoke/VarHandle" ∧ (parseMethodDescriptor yX12_leastOf.desc).map (fun d => d.parameters.length) = some 1 := by decide +kernel
abbrev rm_X12_isTold : Room := { frames := 1, cells := 0, slots := 0, locals := 20 }
set_option maxHeartbeats 4000000 in
set_option maxRecDepth 100000 in
theorem c_MD_isTold (l : Launch) (D : va_G) (cI cM cS cJ : ClassId) (aR : Nat → Nat) (sz : Nat) (x1 : Int32) (x2 : Int32) (x3 : Int32) (q_hasImage : Int32) (q_place : Int32) (q_rowAt : Int32) (q_rowEnd : Int32) (q_seed : Int32) (q_thrown : Int32) (q_sort : Nat → Int32) (q_element : Nat → Int32) {o : (Int32)} (hsem : S_MD_isTold x1 x2 x3 q_sort q_element = some o) : kMet l yX12_isTold wsX12_isTold rm_X12_isTold [.ref (aR 0), .int x1, .int x2, .int x3] D (kT cI cM cS cJ) (Wd53 cI aR q_hasImage q_place q_rowAt q_rowEnd q_seed q_thrown q_sort q_element) sz (some (.int o)) (Wd53 cI aR q_hasImage q_place q_rowAt q_rowEnd q_seed q_thrown q_sort q_element) := by
  refine k_metZ (by decide) rfl rfl (Nat.le_of_ble_eq_true rfl) ?_
  intro p e s m below meth c ls Q A hx hb hml hts hown hK hN hA hP hD hS hl hsz hnm hret
  have hown : s.vm.findClass RX12 = some m.cls := hown
  have hf43 := hts (.fieldLink RX12 43 "PlumbLineModel" "element" "[I") (List.mem_of_getElem? (i := 1) rfl)
  have hf37 := hts (.fieldLink RX12 37 "PlumbLineModel" "sort" "[I") (List.mem_of_getElem? (i := 2) rfl)
  have hiX12 : ∀ w ∈ u_ws RX12 TX12 18, w ∈ wsX12_isTold := fun w h => List.mem_cons_of_mem _ (List.mem_append_right _ h)
  replace hl : lv_has ls 4 [(0, .ref (aR 0)), (1, .int x1), (2, .int x2), (3, .int x3)] := hl
  have h := hsem
  clear hsem
  rw [S_MD_isTold] at h
  refine lv_aload_n hx hb dX12_isTold_0 rfl (lv_at hl 0 rfl) ?_
  refine va_get (D := D) (ci := 12) (v := .ref (aR 12)) (C := RX12) (T := TX12) (N := 18) hx hb hts hiX12 hown hK hP 0 rfl rfl 16 (by decide) hf43 (fun _ z => z) rfl dX12_isTold_1 ?_
  refine lv_bipush (v := 100) hx hb dX12_isTold_4 (by decide) ?_
  refine lv_iload_n hx hb dX12_isTold_6 rfl (lv_at hl 1 rfl) ?_
  refine lv_imul hx hb dX12_isTold_7 ?_
  refine lv_iload_n hx hb dX12_isTold_8 rfl (lv_at hl 2 rfl) ?_
  refine lv_iadd hx hb dX12_isTold_9 ?_
  obtain ⟨g10, h⟩ := k_guard h
  refine va_iald hx hb hK hP 2 0 rfl rfl g10 dX12_isTold_10 ?_
  refine lv_aload_n hx hb dX12_isTold_11 rfl (lv_at hl 0 rfl) ?_
  refine va_get (D := D) (ci := 12) (v := .ref (aR 10)) (C := RX12) (T := TX12) (N := 18) hx hb hts hiX12 hown hK hP 0 rfl rfl 14 (by decide) hf37 (fun _ z => z) rfl dX12_isTold_12 ?_
  refine lv_iload_n hx hb dX12_isTold_15 rfl (lv_at hl 1 rfl) ?_
  obtain ⟨g16, h⟩ := k_guard h
  refine va_iald hx hb hK hP 1 0 rfl rfl g16 dX12_isTold_16 ?_
  refine k_callS (As := [.int (q_sort x1.toNatClampNeg)]) (rest := [.int (q_element (((100 : Int32) * x1) + x2).toNatClampNeg)]) (st1 := [.int (S_MD_leastOf (q_sort x1.toNatClampNeg)), .int (q_element (((100 : Int32) * x1) + x2).toNatClampNeg)]) (ws2 := (Wd53 cI aR q_hasImage q_place q_rowAt q_rowEnd q_seed q_thrown q_sort q_element)) hx hb hml hown hts hK hN hA hP hD hS hl (c_MD_leastOf l D cI cM cS cJ s.heap.size (q_sort x1.toNatClampNeg) rfl) gX12_isTold_X12_leastOf rfl kdS_X12_leastOf [] ⟨rfl, rfl⟩ ⟨Nat.le_of_ble_eq_true rfl, Nat.le_of_ble_eq_true rfl⟩ ⟨Nat.zero_le _, Nat.zero_le _⟩ rfl rfl (by decide +kernel) rfl rfl rfl (Nat.le_of_ble_eq_true rfl) dX12_isTold_17 rfl (fun H locs hP hD hS => ?_)
  refine lv_icmp_eq (tgt := 38) hx hb dX12_isTold_20 (by decide) (fun c20 => ?_) (fun c20 => ?_)
  · have h := k_pos c20 h
    refine lv_iconst (v := 1) hx hb dX12_isTold_38 (by decide) ?_
    refine lv_goto (tgt := 43) hx hb dX12_isTold_39 (by decide) ?_
    cases h
    exact hret _ _ _ _ rfl hP hS dX12_isTold_43
  · have h := k_neg c20 h
    refine lv_aload_n hx hb dX12_isTold_23 rfl (lv_at hl 0 rfl) ?_
    refine va_get (D := D) (ci := 12) (v := .ref (aR 12)) (C := RX12) (T := TX12) (N := 18) hx hb hts hiX12 hown hK hP 0 rfl rfl 16 (by decide) hf43 (fun _ z => z) rfl dX12_isTold_24 ?_
    refine lv_bipush (v := 100) hx hb dX12_isTold_27 (by decide) ?_
    refine lv_iload_n hx hb dX12_isTold_29 rfl (lv_at hl 1 rfl) ?_
    refine lv_imul hx hb dX12_isTold_30 ?_
    refine lv_iload_n hx hb dX12_isTold_31 rfl (lv_at hl 2 rfl) ?_
    refine lv_iadd hx hb dX12_isTold_32 ?_
    refine va_iald hx hb hK hP 2 0 rfl rfl g10 dX12_isTold_33 ?_
    refine lv_iload_n hx hb dX12_isTold_34 rfl (lv_at hl 3 rfl) ?_
    refine lv_icmp_ne (tgt := 42) hx hb dX12_isTold_35 (by decide) (fun c35 => ?_) (fun c35 => ?_)
    · have h := k_neg c35 h
      refine lv_iconst (v := 0) hx hb dX12_isTold_42 (by decide) ?_
      cases h
      exact hret _ _ _ _ rfl hP hS dX12_isTold_43
    · have h := k_pos c35 h
      refine lv_iconst (v := 1) hx hb dX12_isTold_38 (by decide) ?_
      refine lv_goto (tgt := 43) hx hb dX12_isTold_39 (by decide) ?_
      cases h
      exact hret _ _ _ _ rfl hP hS dX12_isTold_43
abbrev Wd54 (cI : ClassId) (aR : Nat → Nat) (q_hasImage : Int32) (q_place : Int32) (q_rowAt : Int32) (q_rowEnd : Int32) (q_seed : Int32) (q_thrown : Int32) (q_s : Nat → Int32) (q_m : Nat → Int32) (q_kept : Nat → Int32) (q_sort : Nat → Int32) (q_size : Nat → Int32) (q_element : Nat → Int32) : va_W := [((aR 0), .inr (12, [.ref (aR 1), .ref (aR 2), .ref (aR 3), .ref (aR 4), .int q_hasImage, .int q_place, .int q_rowAt, .int q_rowEnd, .ref (aR 5), .ref (aR 6), .int q_seed, .ref (aR 7), .ref (aR 8), .ref (aR 9), .ref (aR 10), .ref (aR 11), .ref (aR 12), .int q_thrown])), ((aR 1), .inl (cI, 37, .inl q_s)), ((aR 2), .inl (cI, 37, .inl q_m)), ((aR 7), .inl (cI, 8, .inl q_kept)), ((aR 10), .inl (cI, 8, .inl q_sort)), ((aR 11), .inl (cI, 8, .inl q_size)), ((aR 12), .inl (cI, 800, .inl q_element))]
theorem kdV_X12_isTold : yX12_isTold.cls = RX12 ∧ yX12_isTold.cls ≠ "java/lang/invoke/MethodHandle" ∧ yX12_isTold.cls ≠ "java/lang/invoke/VarHandle" ∧ (parseMethodDescriptor yX12_isTold.desc).map (fun d => d.parameters.length) = some 3 := by decide +kernel
abbrev rm_X12_whatIs : Room := { frames := 4, cells := 0, slots := 0, locals := 90 }
set_option maxHeartbeats 4000000 in
set_option maxRecDepth 100000 in
theorem c_MD_whatIs (l : Launch) (D : va_G) (cI cM cS cJ : ClassId) (aR : Nat → Nat) (sz : Nat) (x1 : Int32) (x2 : Int32) (x3 : Int32) (q_hasImage : Int32) (q_place : Int32) (q_rowAt : Int32) (q_rowEnd : Int32) (q_seed : Int32) (q_thrown : Int32) (q_s : Nat → Int32) (q_m : Nat → Int32) (q_kept : Nat → Int32) (q_sort : Nat → Int32) (q_size : Nat → Int32) (q_element : Nat → Int32) {o : (Int32) × (Nat → Int32)} (hsem : S_MD_whatIs x1 x2 x3 q_s q_m q_kept q_sort q_size q_element = some o) : kMet l yX12_whatIs wsX12_whatIs rm_X12_whatIs [.ref (aR 0), .int x1, .int x2, .int x3] D (kT cI cM cS cJ) (Wd54 cI aR q_hasImage q_place q_rowAt q_rowEnd q_seed q_thrown q_s q_m q_kept q_sort q_size q_element) sz (some (.int o.1)) (Wd54 cI aR q_hasImage q_place q_rowAt q_rowEnd q_seed q_thrown q_s o.2 q_kept q_sort q_size q_element) := by
  refine k_metI (by decide) rfl rfl (Nat.le_of_ble_eq_true rfl) ?_
  intro p e s m below meth c ls Q A hx hb hml hts hown hK hN hA hP hD hS hl hsz hnm hret
  have hown : s.vm.findClass RX12 = some m.cls := hown
  have hf9 := hts (.fieldLink RX12 9 "PlumbLineModel" "s" "[I") (List.mem_of_getElem? (i := 1) rfl)
  have hf13 := hts (.fieldLink RX12 13 "PlumbLineModel" "m" "[I") (List.mem_of_getElem? (i := 2) rfl)
  have hf40 := hts (.fieldLink RX12 40 "PlumbLineModel" "size" "[I") (List.mem_of_getElem? (i := 3) rfl)
  have hiX12 : ∀ w ∈ u_ws RX12 TX12 18, w ∈ wsX12_whatIs := fun w h => List.mem_cons_of_mem _ (List.mem_append_right _ h)
  replace hl : lv_has ls 9 [(0, .ref (aR 0)), (1, .int x1), (2, .int x2), (3, .int x3)] := hl
  have h := hsem
  clear hsem
  rw [S_MD_whatIs] at h
  refine lv_aload_n hx hb dX12_whatIs_0 rfl (lv_at hl 0 rfl) ?_
  refine lv_iload_n hx hb dX12_whatIs_1 rfl (lv_at hl 2 rfl) ?_
  obtain ⟨r2, g2, h⟩ := k_bind h
  refine k_callV (As := [.int x2]) (rest := []) (st1 := [.int r2]) (ws2 := (Wd54 cI aR q_hasImage q_place q_rowAt q_rowEnd q_seed q_thrown q_s q_m q_kept q_sort q_size q_element)) hx hb hml hown hts hK hN hA hP hD hS hl (c_MD_isMan l D cI cM cS cJ aR s.heap.size x2 q_hasImage q_place q_rowAt q_rowEnd q_seed q_thrown q_s g2) gX12_whatIs_X12_isMan rfl kdV_X12_isMan 0 12 rfl rfl rfl [0, 1] ⟨rfl, rfl⟩ ⟨Nat.le_of_ble_eq_true rfl, Nat.le_of_ble_eq_true rfl⟩ ⟨Nat.zero_le _, Nat.zero_le _⟩ rfl rfl (by decide +kernel) rfl rfl rfl (Nat.le_of_ble_eq_true rfl) dX12_whatIs_2 rfl (fun H locs hP hD hS => ?_)
  refine lv_if_eq (tgt := 17) hx hb dX12_whatIs_5 (by decide) (fun c5 => ?_) (fun c5 => ?_)
  · have h := k_pos c5 h
    refine lv_iconst (v := (-1)) hx hb dX12_whatIs_17 (by decide) ?_
    cases h
    exact hret _ _ _ _ hP hS dX12_whatIs_18
  · have h := k_neg c5 h
    refine lv_iload_n hx hb dX12_whatIs_8 rfl (lv_at hl 3 rfl) ?_
    refine lv_iconst (v := 0) hx hb dX12_whatIs_9 (by decide) ?_
    refine lv_iconst (v := 1) hx hb dX12_whatIs_10 (by decide) ?_
    refine k_callS (As := [.int x3, .int 0, .int 1]) (rest := []) (st1 := [.int (S_MD_isIn x3 0 1)]) (ws2 := (Wd54 cI aR q_hasImage q_place q_rowAt q_rowEnd q_seed q_thrown q_s q_m q_kept q_sort q_size q_element)) hx hb hml hown hts hK hN hA hP hD hS hl (c_MD_isIn l D cI cM cS cJ H.size x3 0 1 rfl) gX12_whatIs_X12_isIn rfl kdS_X12_isIn [] ⟨rfl, rfl⟩ ⟨Nat.le_of_ble_eq_true rfl, Nat.le_of_ble_eq_true rfl⟩ ⟨Nat.zero_le _, Nat.zero_le _⟩ rfl rfl (by decide +kernel) rfl rfl rfl (Nat.le_of_ble_eq_true rfl) dX12_whatIs_11 rfl (fun H locs hP hD hS => ?_)
    refine lv_if_ne (tgt := 19) hx hb dX12_whatIs_14 (by decide) (fun c14 => ?_) (fun c14 => ?_)
    · have h := k_neg c14 h
      refine lv_aload_n hx hb dX12_whatIs_19 rfl (lv_at hl 0 rfl) ?_
      refine lv_iload_n hx hb dX12_whatIs_20 rfl (lv_at hl 1 rfl) ?_
      refine lv_iconst (v := (-1)) hx hb dX12_whatIs_21 (by decide) ?_
      obtain ⟨r22, g22, h⟩ := k_bind h
      refine k_callV (As := [.int x1, .int (-1)]) (rest := []) (st1 := [.int r22]) (ws2 := (Wd54 cI aR q_hasImage q_place q_rowAt q_rowEnd q_seed q_thrown q_s q_m q_kept q_sort q_size q_element)) hx hb hml hown hts hK hN hA hP hD hS hl (c_MD_wrongRow l D cI cM cS cJ aR H.size x1 (-1) q_hasImage q_place q_rowAt q_rowEnd q_seed q_thrown q_kept q_sort g22) gX12_whatIs_X12_wrongRow rfl kdV_X12_wrongRow 0 12 rfl rfl rfl [0, 3, 4] ⟨rfl, rfl⟩ ⟨Nat.le_of_ble_eq_true rfl, Nat.le_of_ble_eq_true rfl⟩ ⟨Nat.zero_le _, Nat.zero_le _⟩ rfl rfl (by decide +kernel) rfl rfl rfl (Nat.le_of_ble_eq_true rfl) dX12_whatIs_22 rfl (fun H locs hP hD hS => ?_)
      refine lv_istore (lv' := [(4, .int r22), (0, .ref (aR 0)), (1, .int x1), (2, .int x2), (3, .int x3)]) hx hb dX12_whatIs_25 hl (by decide) rfl (fun ls hl => ?_)
      refine lv_iload hx hb dX12_whatIs_27 (lv_at hl 0 rfl) ?_
      refine lv_if_eq (tgt := 35) hx hb dX12_whatIs_29 (by decide) (fun c29 => ?_) (fun c29 => ?_)
      · have h := k_pos c29 h
        refine lv_iconst (v := 0) hx hb dX12_whatIs_35 (by decide) ?_
        refine lv_istore (lv' := [(5, .int 0), (4, .int r22), (0, .ref (aR 0)), (1, .int x1), (2, .int x2), (3, .int x3)]) hx hb dX12_whatIs_36 hl (by decide) rfl (fun ls hl => ?_)
        refine lv_iconst (v := 0) hx hb dX12_whatIs_38 (by decide) ?_
        have B41 : ∀ (n41 : Nat) (y5 : Int32) (y6 : Int32) (q_m : Nat → Int32) (H : Heap) (locs : List Loc) (ls : Array Slot), va_P D vwCl (Wd54 cI aR q_hasImage q_place q_rowAt q_rowEnd q_seed q_thrown q_s q_m q_kept q_sort q_size q_element) H → va_D A (Wd54 cI aR q_hasImage q_place q_rowAt q_rowEnd q_seed q_thrown q_s q_m q_kept q_sort q_size q_element) → va_S A s.heap H locs → lv_has ls 9 [(0, .ref (aR 0)), (1, .int x1), (2, .int x2), (3, .int x3), (5, .int y5), (6, .int y6)] → S_MD_whatIs_L41 x1 x2 x3 q_s q_sort q_size q_element n41 y5 y6 q_m = some o → W p l e rm_X12_whatIs s m ([.ref (aR 0), .int x1, .int x2, .int x3] : List Value).toArray below meth c H locs 0 0 Q (F0 m 41 ls []) := by
          intro n41
          induction n41 with
          | zero => intro y5 y6 q_m H locs ls hP hD hS hl h; exact absurd h (by simp [S_MD_whatIs_L41])
          | succ n41 ih41 =>
            intro y5 y6 q_m H locs ls hP hD hS hl h
            rw [S_MD_whatIs_L41] at h
            refine lv_iload hx hb dX12_whatIs_41 (lv_at hl 5 rfl) ?_
            refine lv_iload_n hx hb dX12_whatIs_43 rfl (lv_at hl 3 rfl) ?_
            have B54 : ∀ (y5 : Int32) (y6 : Int32) (v0 : Int32) (v1 : Int32) (q_m : Nat → Int32) (H : Heap) (locs : List Loc) (ls : Array Slot), va_P D vwCl (Wd54 cI aR q_hasImage q_place q_rowAt q_rowEnd q_seed q_thrown q_s q_m q_kept q_sort q_size q_element) H → va_D A (Wd54 cI aR q_hasImage q_place q_rowAt q_rowEnd q_seed q_thrown q_s q_m q_kept q_sort q_size q_element) → va_S A s.heap H locs → lv_has ls 9 [(0, .ref (aR 0)), (1, .int x1), (2, .int x2), (3, .int x3), (5, .int y5), (6, .int y6)] → S_MD_whatIs_J54 (S_MD_whatIs_L41 x1 x2 x3 q_s q_sort q_size q_element n41) x1 x2 x3 y5 y6 v0 v1 q_s q_sort q_size q_element q_m = some o → W p l e rm_X12_whatIs s m ([.ref (aR 0), .int x1, .int x2, .int x3] : List Value).toArray below meth c H locs 0 0 Q (F0 m 54 ls [.int v1, .int v0]) := by
              intro y5 y6 v0 v1 q_m H locs ls hP hD hS hl h
              rw [S_MD_whatIs_J54] at h
              refine lv_icmp_ge (tgt := 156) hx hb dX12_whatIs_54 (by decide) (fun c54 => ?_) (fun c54 => ?_)
              · have h := k_pos c54 h
                refine lv_iload hx hb dX12_whatIs_156 (lv_at hl 4 rfl) ?_
                cases h
                exact hret _ _ _ _ hP hS dX12_whatIs_158
              · have h := k_neg c54 h
                refine lv_iconst (v := 1) hx hb dX12_whatIs_57 (by decide) ?_
                refine lv_istore (lv' := [(7, .int 1), (0, .ref (aR 0)), (1, .int x1), (2, .int x2), (3, .int x3), (5, .int y5), (6, .int y6)]) hx hb dX12_whatIs_58 hl (by decide) rfl (fun ls hl => ?_)
                refine lv_aload_n hx hb dX12_whatIs_60 rfl (lv_at hl 1 rfl) ?_
                refine va_get (D := D) (ci := 12) (v := .ref (aR 1)) (C := RX12) (T := TX12) (N := 18) hx hb hts hiX12 hown hK hP 0 rfl rfl 0 (by decide) hf9 (fun _ z => z) rfl dX12_whatIs_61 ?_
                refine lv_aload_n hx hb dX12_whatIs_64 rfl (lv_at hl 1 rfl) ?_
                refine va_get (D := D) (ci := 12) (v := .ref (aR 2)) (C := RX12) (T := TX12) (N := 18) hx hb hts hiX12 hown hK hP 0 rfl rfl 1 (by decide) hf13 (fun _ z => z) rfl dX12_whatIs_65 ?_
                obtain ⟨r68, g68, h⟩ := k_bind h
                refine k_callS (As := [.ref (aR 1), .ref (aR 2)]) (rest := []) (st1 := []) (ws2 := (Wd54 cI aR q_hasImage q_place q_rowAt q_rowEnd q_seed q_thrown q_s r68 q_kept q_sort q_size q_element)) hx hb hml hown hts hK hN hA hP hD hS hl (c_MD_copies l D cI cM cS cJ (aR 1) (aR 2) H.size q_s q_m g68) gX12_whatIs_X12_copies rfl kdS_X12_copies [1, 2] ⟨rfl, rfl⟩ ⟨Nat.le_of_ble_eq_true rfl, Nat.le_of_ble_eq_true rfl⟩ ⟨Nat.zero_le _, Nat.zero_le _⟩ rfl rfl (by decide +kernel) rfl rfl rfl (Nat.le_of_ble_eq_true rfl) dX12_whatIs_68 rfl (fun H locs hP hD hS => ?_)
                refine lv_aload_n hx hb dX12_whatIs_71 rfl (lv_at hl 1 rfl) ?_
                refine va_get (D := D) (ci := 12) (v := .ref (aR 2)) (C := RX12) (T := TX12) (N := 18) hx hb hts hiX12 hown hK hP 0 rfl rfl 1 (by decide) hf13 (fun _ z => z) rfl dX12_whatIs_72 ?_
                refine lv_iload_n hx hb dX12_whatIs_75 rfl (lv_at hl 3 rfl) ?_
                refine lv_iload_n hx hb dX12_whatIs_76 rfl (lv_at hl 4 rfl) ?_
                refine k_callS (As := [.int x2, .int x3]) (rest := [.ref (aR 2)]) (st1 := [.int (S_MD_of x2 x3), .ref (aR 2)]) (ws2 := (Wd54 cI aR q_hasImage q_place q_rowAt q_rowEnd q_seed q_thrown q_s r68 q_kept q_sort q_size q_element)) hx hb hml hown hts hK hN hA hP hD hS hl (c_MD_of l D cI cM cS cJ H.size x2 x3 rfl) gX12_whatIs_X12_of rfl kdS_X12_of [] ⟨rfl, rfl⟩ ⟨Nat.le_of_ble_eq_true rfl, Nat.le_of_ble_eq_true rfl⟩ ⟨Nat.zero_le _, Nat.zero_le _⟩ rfl rfl (by decide +kernel) rfl rfl rfl (Nat.le_of_ble_eq_true rfl) dX12_whatIs_77 rfl (fun H locs hP hD hS => ?_)
                refine lv_iload hx hb dX12_whatIs_80 (lv_at hl 6 rfl) ?_
                obtain ⟨g82, h⟩ := k_guard h
                refine va_iast hx hb hK hP hD hS 2 0 rfl rfl g82 dX12_whatIs_82 (fun H locs hP hD hS => ?_)
                replace hP : va_P D vwCl (Wd54 cI aR q_hasImage q_place q_rowAt q_rowEnd q_seed q_thrown q_s (upd r68 (S_MD_of x2 x3).toNatClampNeg y6) q_kept q_sort q_size q_element) H := hP
                replace hD : va_D A (Wd54 cI aR q_hasImage q_place q_rowAt q_rowEnd q_seed q_thrown q_s (upd r68 (S_MD_of x2 x3).toNatClampNeg y6) q_kept q_sort q_size q_element) := hD
                refine lv_iconst (v := 0) hx hb dX12_whatIs_83 (by decide) ?_
                have B86 : ∀ (y5 : Int32) (y6 : Int32) (n86 : Nat) (y7 : Int32) (y8 : Int32) (q_m : Nat → Int32) (H : Heap) (locs : List Loc) (ls : Array Slot), va_P D vwCl (Wd54 cI aR q_hasImage q_place q_rowAt q_rowEnd q_seed q_thrown q_s q_m q_kept q_sort q_size q_element) H → va_D A (Wd54 cI aR q_hasImage q_place q_rowAt q_rowEnd q_seed q_thrown q_s q_m q_kept q_sort q_size q_element) → va_S A s.heap H locs → lv_has ls 9 [(0, .ref (aR 0)), (1, .int x1), (2, .int x2), (3, .int x3), (5, .int y5), (6, .int y6), (7, .int y7), (8, .int y8)] → S_MD_whatIs_L86 (S_MD_whatIs_L41 x1 x2 x3 q_s q_sort q_size q_element n41) x1 x2 y5 y6 q_sort q_size q_element n86 y7 y8 q_m = some o → W p l e rm_X12_whatIs s m ([.ref (aR 0), .int x1, .int x2, .int x3] : List Value).toArray below meth c H locs 0 0 Q (F0 m 86 ls []) := by
                  intro y5 y6
                  intro n86
                  induction n86 with
                  | zero => intro y7 y8 q_m H locs ls hP hD hS hl h; exact absurd h (by simp [S_MD_whatIs_L86])
                  | succ n86 ih86 =>
                    intro y7 y8 q_m H locs ls hP hD hS hl h
                    rw [S_MD_whatIs_L86] at h
                    refine lv_iload hx hb dX12_whatIs_86 (lv_at hl 7 rfl) ?_
                    refine lv_aload_n hx hb dX12_whatIs_88 rfl (lv_at hl 0 rfl) ?_
                    refine va_get (D := D) (ci := 12) (v := .ref (aR 11)) (C := RX12) (T := TX12) (N := 18) hx hb hts hiX12 hown hK hP 0 rfl rfl 15 (by decide) hf40 (fun _ z => z) rfl dX12_whatIs_89 ?_
                    refine lv_iload_n hx hb dX12_whatIs_92 rfl (lv_at hl 1 rfl) ?_
                    obtain ⟨g93, h⟩ := k_guard h
                    refine va_iald hx hb hK hP 5 0 rfl rfl g93 dX12_whatIs_93 ?_
                    refine lv_icmp_ge (tgt := 132) hx hb dX12_whatIs_94 (by decide) (fun c94 => ?_) (fun c94 => ?_)
                    · have h := k_pos c94 h
                      refine lv_iload hx hb dX12_whatIs_132 (lv_at hl 4 rfl) ?_
                      refine lv_iload hx hb dX12_whatIs_134 (lv_at hl 6 rfl) ?_
                      refine lv_if_eq (tgt := 146) hx hb dX12_whatIs_136 (by decide) (fun c136 => ?_) (fun c136 => ?_)
                      · have h := k_pos c136 h
                        refine lv_iconst (v := 0) hx hb dX12_whatIs_146 (by decide) ?_
                        refine lv_ior hx hb dX12_whatIs_147 ?_
                        refine lv_istore (lv' := [(5, .int (y5 ||| 0)), (0, .ref (aR 0)), (1, .int x1), (2, .int x2), (3, .int x3), (6, .int y6), (7, .int y7), (8, .int y8)]) hx hb dX12_whatIs_148 hl (by decide) rfl (fun ls hl => ?_)
                        refine lv_iinc (v := (y6 + 1)) (lv' := [(6, .int (y6 + 1)), (5, .int (y5 ||| 0)), (0, .ref (aR 0)), (1, .int x1), (2, .int x2), (3, .int x3), (7, .int y7), (8, .int y8)]) hx hb dX12_whatIs_150 hl (k := 5) rfl (by first | rfl | decide) (by decide) rfl (fun ls hl => ?_)
                        refine lv_goto (tgt := 41) hx hb dX12_whatIs_153 (by decide) ?_
                        exact ih41 (y5 ||| 0) (y6 + 1) q_m H locs ls hP hD hS (lv_sub hl [2, 3, 4, 5, 1, 0] rfl) h
                      · have h := k_neg c136 h
                        refine lv_iconst (v := 1) hx hb dX12_whatIs_139 (by decide) ?_
                        refine lv_iload hx hb dX12_whatIs_140 (lv_at hl 5 rfl) ?_
                        refine lv_ishl hx hb dX12_whatIs_142 ?_
                        refine lv_goto (tgt := 147) hx hb dX12_whatIs_143 (by decide) ?_
                        refine lv_ior hx hb dX12_whatIs_147 ?_
                        refine lv_istore (lv' := [(5, .int (y5 ||| ((1 : Int32) <<< (y6 &&& 31)))), (0, .ref (aR 0)), (1, .int x1), (2, .int x2), (3, .int x3), (6, .int y6), (7, .int y7), (8, .int y8)]) hx hb dX12_whatIs_148 hl (by decide) rfl (fun ls hl => ?_)
                        refine lv_iinc (v := (y6 + 1)) (lv' := [(6, .int (y6 + 1)), (5, .int (y5 ||| ((1 : Int32) <<< (y6 &&& 31)))), (0, .ref (aR 0)), (1, .int x1), (2, .int x2), (3, .int x3), (7, .int y7), (8, .int y8)]) hx hb dX12_whatIs_150 hl (k := 5) rfl (by first | rfl | decide) (by decide) rfl (fun ls hl => ?_)
                        refine lv_goto (tgt := 41) hx hb dX12_whatIs_153 (by decide) ?_
                        exact ih41 (y5 ||| ((1 : Int32) <<< (y6 &&& 31))) (y6 + 1) q_m H locs ls hP hD hS (lv_sub hl [2, 3, 4, 5, 1, 0] rfl) h
                    · have h := k_neg c94 h
                      refine lv_iload hx hb dX12_whatIs_97 (lv_at hl 6 rfl) ?_
                      refine lv_aload_n hx hb dX12_whatIs_99 rfl (lv_at hl 0 rfl) ?_
                      refine lv_iload_n hx hb dX12_whatIs_100 rfl (lv_at hl 1 rfl) ?_
                      refine lv_iload hx hb dX12_whatIs_101 (lv_at hl 7 rfl) ?_
                      refine lv_aload_n hx hb dX12_whatIs_103 rfl (lv_at hl 0 rfl) ?_
                      refine va_get (D := D) (ci := 12) (v := .ref (aR 2)) (C := RX12) (T := TX12) (N := 18) hx hb hts hiX12 hown hK hP 0 rfl rfl 1 (by decide) hf13 (fun _ z => z) rfl dX12_whatIs_104 ?_
                      refine lv_iload_n hx hb dX12_whatIs_107 rfl (lv_at hl 2 rfl) ?_
                      refine lv_iconst (v := 2) hx hb dX12_whatIs_108 (by decide) ?_
                      refine k_callS (As := [.int x2, .int 2]) (rest := [.ref (aR 2), .int y8, .int x1, .ref (aR 0), .int y7]) (st1 := [.int (S_MD_of x2 2), .ref (aR 2), .int y8, .int x1, .ref (aR 0), .int y7]) (ws2 := (Wd54 cI aR q_hasImage q_place q_rowAt q_rowEnd q_seed q_thrown q_s q_m q_kept q_sort q_size q_element)) hx hb hml hown hts hK hN hA hP hD hS hl (c_MD_of l D cI cM cS cJ H.size x2 2 rfl) gX12_whatIs_X12_of rfl kdS_X12_of [] ⟨rfl, rfl⟩ ⟨Nat.le_of_ble_eq_true rfl, Nat.le_of_ble_eq_true rfl⟩ ⟨Nat.zero_le _, Nat.zero_le _⟩ rfl rfl (by decide +kernel) rfl rfl rfl (Nat.le_of_ble_eq_true rfl) dX12_whatIs_109 rfl (fun H locs hP hD hS => ?_)
                      obtain ⟨g112, h⟩ := k_guard h
                      refine va_iald hx hb hK hP 2 0 rfl rfl g112 dX12_whatIs_112 ?_
                      obtain ⟨r113, g113, h⟩ := k_bind h
                      refine k_callV (As := [.int x1, .int y8, .int (q_m (S_MD_of x2 2).toNatClampNeg)]) (rest := [.int y7]) (st1 := [.int r113, .int y7]) (ws2 := (Wd54 cI aR q_hasImage q_place q_rowAt q_rowEnd q_seed q_thrown q_s q_m q_kept q_sort q_size q_element)) hx hb hml hown hts hK hN hA hP hD hS hl (c_MD_isTold l D cI cM cS cJ aR H.size x1 y8 (q_m (S_MD_of x2 2).toNatClampNeg) q_hasImage q_place q_rowAt q_rowEnd q_seed q_thrown q_sort q_element g113) gX12_whatIs_X12_isTold rfl kdV_X12_isTold 0 12 rfl rfl rfl [0, 4, 6] ⟨rfl, rfl⟩ ⟨Nat.le_of_ble_eq_true rfl, Nat.le_of_ble_eq_true rfl⟩ ⟨Nat.zero_le _, Nat.zero_le _⟩ rfl rfl (by decide +kernel) rfl rfl rfl (Nat.le_of_ble_eq_true rfl) dX12_whatIs_113 rfl (fun H locs hP hD hS => ?_)
                      refine lv_iand hx hb dX12_whatIs_116 ?_
                      refine lv_istore (lv' := [(7, .int (y7 &&& r113)), (0, .ref (aR 0)), (1, .int x1), (2, .int x2), (3, .int x3), (5, .int y5), (6, .int y6), (8, .int y8)]) hx hb dX12_whatIs_117 hl (by decide) rfl (fun ls hl => ?_)
                      refine lv_aload_n hx hb dX12_whatIs_119 rfl (lv_at hl 1 rfl) ?_
                      refine va_get (D := D) (ci := 12) (v := .ref (aR 2)) (C := RX12) (T := TX12) (N := 18) hx hb hts hiX12 hown hK hP 0 rfl rfl 1 (by decide) hf13 (fun _ z => z) rfl dX12_whatIs_120 ?_
                      obtain ⟨r123, g123, h⟩ := k_bind h
                      refine k_callS (As := [.ref (aR 2)]) (rest := []) (st1 := []) (ws2 := (Wd54 cI aR q_hasImage q_place q_rowAt q_rowEnd q_seed q_thrown q_s r123 q_kept q_sort q_size q_element)) hx hb hml hown hts hK hN hA hP hD hS hl (c_MD_day l D cI cM cS cJ (aR 2) H.size q_m g123) gX12_whatIs_X12_day rfl kdS_X12_day [2] ⟨rfl, rfl⟩ ⟨Nat.le_of_ble_eq_true rfl, Nat.le_of_ble_eq_true rfl⟩ ⟨Nat.zero_le _, Nat.zero_le _⟩ rfl rfl (by decide +kernel) rfl rfl rfl (Nat.le_of_ble_eq_true rfl) dX12_whatIs_123 rfl (fun H locs hP hD hS => ?_)
                      refine lv_iinc (v := (y8 + 1)) (lv' := [(8, .int (y8 + 1)), (7, .int (y7 &&& r113)), (0, .ref (aR 0)), (1, .int x1), (2, .int x2), (3, .int x3), (5, .int y5), (6, .int y6)]) hx hb dX12_whatIs_126 hl (k := 7) rfl (by first | rfl | decide) (by decide) rfl (fun ls hl => ?_)
                      refine lv_goto (tgt := 86) hx hb dX12_whatIs_129 (by decide) ?_
                      exact ih86 (y7 &&& r113) (y8 + 1) r123 H locs ls hP hD hS (lv_sub hl [2, 3, 4, 5, 6, 7, 1, 0] rfl) h
                refine lv_istore (lv' := [(8, .int 0), (7, .int 1), (0, .ref (aR 0)), (1, .int x1), (2, .int x2), (3, .int x3), (5, .int y5), (6, .int y6)]) hx hb dX12_whatIs_84 hl (by decide) rfl (fun ls hl => ?_)
                exact B86 y5 y6 lfu 1 0 (upd r68 (S_MD_of x2 x3).toNatClampNeg y6) H locs ls hP hD hS (lv_sub hl [2, 3, 4, 5, 6, 7, 1, 0] rfl) h
            refine lv_if_ne (tgt := 52) hx hb dX12_whatIs_44 (by decide) (fun c44 => ?_) (fun c44 => ?_)
            · have h := k_neg c44 h
              refine lv_bipush (v := 10) hx hb dX12_whatIs_52 (by decide) ?_
              exact B54 y5 y6 y6 10 q_m H locs ls hP hD hS hl h
            · have h := k_pos c44 h
              refine lv_bipush (v := 8) hx hb dX12_whatIs_47 (by decide) ?_
              refine lv_goto (tgt := 54) hx hb dX12_whatIs_49 (by decide) ?_
              exact B54 y5 y6 y6 8 q_m H locs ls hP hD hS hl h
        refine lv_istore (lv' := [(6, .int 0), (5, .int 0), (4, .int r22), (0, .ref (aR 0)), (1, .int x1), (2, .int x2), (3, .int x3)]) hx hb dX12_whatIs_39 hl (by decide) rfl (fun ls hl => ?_)
        exact B41 lfu 0 0 q_m H locs ls hP hD hS (lv_sub hl [3, 4, 5, 6, 1, 0] rfl) h
      · have h := k_neg c29 h
        refine lv_iload hx hb dX12_whatIs_32 (lv_at hl 0 rfl) ?_
        cases h
        exact hret _ _ _ _ hP hS dX12_whatIs_34
    · have h := k_pos c14 h
      refine lv_iconst (v := (-1)) hx hb dX12_whatIs_17 (by decide) ?_
      cases h
      exact hret _ _ _ _ hP hS dX12_whatIs_18
abbrev Wd55 (cI : ClassId) (aR : Nat → Nat) (q_hasImage : Int32) (q_place : Int32) (q_rowAt : Int32) (q_rowEnd : Int32) (q_seed : Int32) (q_thrown : Int32) (q_s : Nat → Int32) (q_m : Nat → Int32) (q_sort : Nat → Int32) (q_size : Nat → Int32) (q_element : Nat → Int32) : va_W := [((aR 0), .inr (12, [.ref (aR 1), .ref (aR 2), .ref (aR 3), .ref (aR 4), .int q_hasImage, .int q_place, .int q_rowAt, .int q_rowEnd, .ref (aR 5), .ref (aR 6), .int q_seed, .ref (aR 7), .ref (aR 8), .ref (aR 9), .ref (aR 10), .ref (aR 11), .ref (aR 12), .int q_thrown])), ((aR 1), .inl (cI, 37, .inl q_s)), ((aR 2), .inl (cI, 37, .inl q_m)), ((aR 10), .inl (cI, 8, .inl q_sort)), ((aR 11), .inl (cI, 8, .inl q_size)), ((aR 12), .inl (cI, 800, .inl q_element))]
abbrev rm_X12_hasHungSo : Room := { frames := 4, cells := 0, slots := 0, locals := 90 }
set_option maxHeartbeats 4000000 in
set_option maxRecDepth 100000 in
theorem c_MD_hasHungSo (l : Launch) (D : va_G) (cI cM cS cJ : ClassId) (aR : Nat → Nat) (sz : Nat) (x1 : Int32) (x2 : Int32) (x3 : Int32) (q_hasImage : Int32) (q_place : Int32) (q_rowAt : Int32) (q_rowEnd : Int32) (q_seed : Int32) (q_thrown : Int32) (q_s : Nat → Int32) (q_m : Nat → Int32) (q_sort : Nat → Int32) (q_size : Nat → Int32) (q_element : Nat → Int32) {o : (Int32) × (Nat → Int32)} (hsem : S_MD_hasHungSo x1 x2 x3 q_s q_m q_sort q_size q_element = some o) : kMet l yX12_hasHungSo wsX12_hasHungSo rm_X12_hasHungSo [.ref (aR 0), .int x1, .int x2, .int x3] D (kT cI cM cS cJ) (Wd55 cI aR q_hasImage q_place q_rowAt q_rowEnd q_seed q_thrown q_s q_m q_sort q_size q_element) sz (some (.int o.1)) (Wd55 cI aR q_hasImage q_place q_rowAt q_rowEnd q_seed q_thrown q_s o.2 q_sort q_size q_element) := by
  refine k_metZ (by decide) rfl rfl (Nat.le_of_ble_eq_true rfl) ?_
  intro p e s m below meth c ls Q A hx hb hml hts hown hK hN hA hP hD hS hl hsz hnm hret
  have hown : s.vm.findClass RX12 = some m.cls := hown
  have hf9 := hts (.fieldLink RX12 9 "PlumbLineModel" "s" "[I") (List.mem_of_getElem? (i := 1) rfl)
  have hf13 := hts (.fieldLink RX12 13 "PlumbLineModel" "m" "[I") (List.mem_of_getElem? (i := 2) rfl)
  have hf40 := hts (.fieldLink RX12 40 "PlumbLineModel" "size" "[I") (List.mem_of_getElem? (i := 3) rfl)
  have hiX12 : ∀ w ∈ u_ws RX12 TX12 18, w ∈ wsX12_hasHungSo := fun w h => List.mem_cons_of_mem _ (List.mem_append_right _ h)
  replace hl : lv_has ls 5 [(0, .ref (aR 0)), (1, .int x1), (2, .int x2), (3, .int x3)] := hl
  have h := hsem
  clear hsem
  rw [S_MD_hasHungSo] at h
  refine lv_aload_n hx hb dX12_hasHungSo_0 rfl (lv_at hl 0 rfl) ?_
  refine va_get (D := D) (ci := 12) (v := .ref (aR 1)) (C := RX12) (T := TX12) (N := 18) hx hb hts hiX12 hown hK hP 0 rfl rfl 0 (by decide) hf9 (fun _ z => z) rfl dX12_hasHungSo_1 ?_
  refine lv_aload_n hx hb dX12_hasHungSo_4 rfl (lv_at hl 0 rfl) ?_
  refine va_get (D := D) (ci := 12) (v := .ref (aR 2)) (C := RX12) (T := TX12) (N := 18) hx hb hts hiX12 hown hK hP 0 rfl rfl 1 (by decide) hf13 (fun _ z => z) rfl dX12_hasHungSo_5 ?_
  obtain ⟨r8, g8, h⟩ := k_bind h
  refine k_callS (As := [.ref (aR 1), .ref (aR 2)]) (rest := []) (st1 := []) (ws2 := (Wd55 cI aR q_hasImage q_place q_rowAt q_rowEnd q_seed q_thrown q_s r8 q_sort q_size q_element)) hx hb hml hown hts hK hN hA hP hD hS hl (c_MD_copies l D cI cM cS cJ (aR 1) (aR 2) s.heap.size q_s q_m g8) gX12_hasHungSo_X12_copies rfl kdS_X12_copies [1, 2] ⟨rfl, rfl⟩ ⟨Nat.le_of_ble_eq_true rfl, Nat.le_of_ble_eq_true rfl⟩ ⟨Nat.zero_le _, Nat.zero_le _⟩ rfl rfl (by decide +kernel) rfl rfl rfl (Nat.le_of_ble_eq_true rfl) dX12_hasHungSo_8 rfl (fun H locs hP hD hS => ?_)
  refine lv_aload_n hx hb dX12_hasHungSo_11 rfl (lv_at hl 0 rfl) ?_
  refine va_get (D := D) (ci := 12) (v := .ref (aR 2)) (C := RX12) (T := TX12) (N := 18) hx hb hts hiX12 hown hK hP 0 rfl rfl 1 (by decide) hf13 (fun _ z => z) rfl dX12_hasHungSo_12 ?_
  refine lv_iconst (v := 3) hx hb dX12_hasHungSo_15 (by decide) ?_
  refine lv_iload_n hx hb dX12_hasHungSo_16 rfl (lv_at hl 2 rfl) ?_
  refine va_iast hx hb hK hP hD hS 2 0 rfl rfl (by decide) dX12_hasHungSo_17 (fun H locs hP hD hS => ?_)
  replace hP : va_P D vwCl (Wd55 cI aR q_hasImage q_place q_rowAt q_rowEnd q_seed q_thrown q_s (upd r8 (3 : Int32).toNatClampNeg x2) q_sort q_size q_element) H := hP
  replace hD : va_D A (Wd55 cI aR q_hasImage q_place q_rowAt q_rowEnd q_seed q_thrown q_s (upd r8 (3 : Int32).toNatClampNeg x2) q_sort q_size q_element) := hD
  refine lv_aload_n hx hb dX12_hasHungSo_18 rfl (lv_at hl 0 rfl) ?_
  refine va_get (D := D) (ci := 12) (v := .ref (aR 2)) (C := RX12) (T := TX12) (N := 18) hx hb hts hiX12 hown hK hP 0 rfl rfl 1 (by decide) hf13 (fun _ z => z) rfl dX12_hasHungSo_19 ?_
  refine lv_iconst (v := 2) hx hb dX12_hasHungSo_22 (by decide) ?_
  refine lv_iload_n hx hb dX12_hasHungSo_23 rfl (lv_at hl 3 rfl) ?_
  refine va_iast hx hb hK hP hD hS 2 0 rfl rfl (by decide) dX12_hasHungSo_24 (fun H locs hP hD hS => ?_)
  replace hP : va_P D vwCl (Wd55 cI aR q_hasImage q_place q_rowAt q_rowEnd q_seed q_thrown q_s (upd (upd r8 (3 : Int32).toNatClampNeg x2) (2 : Int32).toNatClampNeg x3) q_sort q_size q_element) H := hP
  replace hD : va_D A (Wd55 cI aR q_hasImage q_place q_rowAt q_rowEnd q_seed q_thrown q_s (upd (upd r8 (3 : Int32).toNatClampNeg x2) (2 : Int32).toNatClampNeg x3) q_sort q_size q_element) := hD
  refine lv_iconst (v := 0) hx hb dX12_hasHungSo_25 (by decide) ?_
  have B28 : ∀ (n28 : Nat) (y4 : Int32) (q_m : Nat → Int32) (H : Heap) (locs : List Loc) (ls : Array Slot), va_P D vwCl (Wd55 cI aR q_hasImage q_place q_rowAt q_rowEnd q_seed q_thrown q_s q_m q_sort q_size q_element) H → va_D A (Wd55 cI aR q_hasImage q_place q_rowAt q_rowEnd q_seed q_thrown q_s q_m q_sort q_size q_element) → va_S A s.heap H locs → lv_has ls 5 [(0, .ref (aR 0)), (1, .int x1), (4, .int y4)] → S_MD_hasHungSo_L28 x1 q_sort q_size q_element n28 y4 q_m = some o → W p l e rm_X12_hasHungSo s m ([.ref (aR 0), .int x1, .int x2, .int x3] : List Value).toArray below meth c H locs 0 0 Q (F0 m 28 ls []) := by
    intro n28
    induction n28 with
    | zero => intro y4 q_m H locs ls hP hD hS hl h; exact absurd h (by simp [S_MD_hasHungSo_L28])
    | succ n28 ih28 =>
      intro y4 q_m H locs ls hP hD hS hl h
      rw [S_MD_hasHungSo_L28] at h
      refine lv_iload hx hb dX12_hasHungSo_28 (lv_at hl 2 rfl) ?_
      refine lv_aload_n hx hb dX12_hasHungSo_30 rfl (lv_at hl 0 rfl) ?_
      refine va_get (D := D) (ci := 12) (v := .ref (aR 11)) (C := RX12) (T := TX12) (N := 18) hx hb hts hiX12 hown hK hP 0 rfl rfl 15 (by decide) hf40 (fun _ z => z) rfl dX12_hasHungSo_31 ?_
      refine lv_iload_n hx hb dX12_hasHungSo_34 rfl (lv_at hl 1 rfl) ?_
      obtain ⟨g35, h⟩ := k_guard h
      refine va_iald hx hb hK hP 4 0 rfl rfl g35 dX12_hasHungSo_35 ?_
      refine lv_icmp_ge (tgt := 70) hx hb dX12_hasHungSo_36 (by decide) (fun c36 => ?_) (fun c36 => ?_)
      · have h := k_pos c36 h
        refine lv_iconst (v := 1) hx hb dX12_hasHungSo_70 (by decide) ?_
        cases h
        exact hret _ _ _ _ rfl hP hS dX12_hasHungSo_71
      · have h := k_neg c36 h
        refine lv_aload_n hx hb dX12_hasHungSo_39 rfl (lv_at hl 0 rfl) ?_
        refine lv_iload_n hx hb dX12_hasHungSo_40 rfl (lv_at hl 1 rfl) ?_
        refine lv_iload hx hb dX12_hasHungSo_41 (lv_at hl 2 rfl) ?_
        refine lv_aload_n hx hb dX12_hasHungSo_43 rfl (lv_at hl 0 rfl) ?_
        refine va_get (D := D) (ci := 12) (v := .ref (aR 2)) (C := RX12) (T := TX12) (N := 18) hx hb hts hiX12 hown hK hP 0 rfl rfl 1 (by decide) hf13 (fun _ z => z) rfl dX12_hasHungSo_44 ?_
        refine lv_iconst (v := 2) hx hb dX12_hasHungSo_47 (by decide) ?_
        refine va_iald hx hb hK hP 2 0 rfl rfl (by decide) dX12_hasHungSo_48 ?_
        obtain ⟨r49, g49, h⟩ := k_bind h
        refine k_callV (As := [.int x1, .int y4, .int (q_m (2 : Int32).toNatClampNeg)]) (rest := []) (st1 := [.int r49]) (ws2 := (Wd55 cI aR q_hasImage q_place q_rowAt q_rowEnd q_seed q_thrown q_s q_m q_sort q_size q_element)) hx hb hml hown hts hK hN hA hP hD hS hl (c_MD_isTold l D cI cM cS cJ aR H.size x1 y4 (q_m (2 : Int32).toNatClampNeg) q_hasImage q_place q_rowAt q_rowEnd q_seed q_thrown q_sort q_element g49) gX12_hasHungSo_X12_isTold rfl kdV_X12_isTold 0 12 rfl rfl rfl [0, 3, 5] ⟨rfl, rfl⟩ ⟨Nat.le_of_ble_eq_true rfl, Nat.le_of_ble_eq_true rfl⟩ ⟨Nat.zero_le _, Nat.zero_le _⟩ rfl rfl (by decide +kernel) rfl rfl rfl (Nat.le_of_ble_eq_true rfl) dX12_hasHungSo_49 rfl (fun H locs hP hD hS => ?_)
        refine lv_if_ne (tgt := 57) hx hb dX12_hasHungSo_52 (by decide) (fun c52 => ?_) (fun c52 => ?_)
        · have h := k_neg c52 h
          refine lv_aload_n hx hb dX12_hasHungSo_57 rfl (lv_at hl 0 rfl) ?_
          refine va_get (D := D) (ci := 12) (v := .ref (aR 2)) (C := RX12) (T := TX12) (N := 18) hx hb hts hiX12 hown hK hP 0 rfl rfl 1 (by decide) hf13 (fun _ z => z) rfl dX12_hasHungSo_58 ?_
          obtain ⟨r61, g61, h⟩ := k_bind h
          refine k_callS (As := [.ref (aR 2)]) (rest := []) (st1 := []) (ws2 := (Wd55 cI aR q_hasImage q_place q_rowAt q_rowEnd q_seed q_thrown q_s r61 q_sort q_size q_element)) hx hb hml hown hts hK hN hA hP hD hS hl (c_MD_day l D cI cM cS cJ (aR 2) H.size q_m g61) gX12_hasHungSo_X12_day rfl kdS_X12_day [2] ⟨rfl, rfl⟩ ⟨Nat.le_of_ble_eq_true rfl, Nat.le_of_ble_eq_true rfl⟩ ⟨Nat.zero_le _, Nat.zero_le _⟩ rfl rfl (by decide +kernel) rfl rfl rfl (Nat.le_of_ble_eq_true rfl) dX12_hasHungSo_61 rfl (fun H locs hP hD hS => ?_)
          refine lv_iinc (v := (y4 + 1)) (lv' := [(4, .int (y4 + 1)), (0, .ref (aR 0)), (1, .int x1)]) hx hb dX12_hasHungSo_64 hl (k := 2) rfl (by first | rfl | decide) (by decide) rfl (fun ls hl => ?_)
          refine lv_goto (tgt := 28) hx hb dX12_hasHungSo_67 (by decide) ?_
          exact ih28 (y4 + 1) r61 H locs ls hP hD hS (lv_sub hl [1, 2, 0] rfl) h
        · have h := k_pos c52 h
          refine lv_iconst (v := 0) hx hb dX12_hasHungSo_55 (by decide) ?_
          cases h
          exact hret _ _ _ _ rfl hP hS dX12_hasHungSo_56
  refine lv_istore (lv' := [(4, .int 0), (0, .ref (aR 0)), (1, .int x1), (2, .int x2), (3, .int x3)]) hx hb dX12_hasHungSo_26 hl (by decide) rfl (fun ls hl => ?_)
  exact B28 lfu 0 (upd (upd r8 (3 : Int32).toNatClampNeg x2) (2 : Int32).toNatClampNeg x3) H locs ls hP hD hS (lv_sub hl [1, 2, 0] rfl) h
theorem kdV_X12_hasHungSo : yX12_hasHungSo.cls = RX12 ∧ yX12_hasHungSo.cls ≠ "java/lang/invoke/MethodHandle" ∧ yX12_hasHungSo.cls ≠ "java/lang/invoke/VarHandle" ∧ (parseMethodDescriptor yX12_hasHungSo.desc).map (fun d => d.parameters.length) = some 3 := by decide +kernel
abbrev rm_X12_whereHung : Room := { frames := 5, cells := 0, slots := 0, locals := 114 }
set_option maxHeartbeats 4000000 in
set_option maxRecDepth 100000 in
theorem c_MD_whereHung (l : Launch) (D : va_G) (cI cM cS cJ : ClassId) (aR : Nat → Nat) (sz : Nat) (x1 : Int32) (x2 : Int32) (q_hasImage : Int32) (q_place : Int32) (q_rowAt : Int32) (q_rowEnd : Int32) (q_seed : Int32) (q_thrown : Int32) (q_s : Nat → Int32) (q_m : Nat → Int32) (q_kept : Nat → Int32) (q_sort : Nat → Int32) (q_size : Nat → Int32) (q_element : Nat → Int32) {o : (Int32) × (Nat → Int32)} (hsem : S_MD_whereHung x1 x2 q_s q_m q_kept q_sort q_size q_element = some o) : kMet l yX12_whereHung wsX12_whereHung rm_X12_whereHung [.ref (aR 0), .int x1, .int x2] D (kT cI cM cS cJ) (Wd54 cI aR q_hasImage q_place q_rowAt q_rowEnd q_seed q_thrown q_s q_m q_kept q_sort q_size q_element) sz (some (.int o.1)) (Wd54 cI aR q_hasImage q_place q_rowAt q_rowEnd q_seed q_thrown q_s o.2 q_kept q_sort q_size q_element) := by
  refine k_metI (by decide) rfl rfl (Nat.le_of_ble_eq_true rfl) ?_
  intro p e s m below meth c ls Q A hx hb hml hts hown hK hN hA hP hD hS hl hsz hnm hret
  have hown : s.vm.findClass RX12 = some m.cls := hown
  replace hl : lv_has ls 8 [(0, .ref (aR 0)), (1, .int x1), (2, .int x2)] := hl
  have h := hsem
  clear hsem
  rw [S_MD_whereHung] at h
  refine lv_iload_n hx hb dX12_whereHung_0 rfl (lv_at hl 2 rfl) ?_
  refine lv_iconst (v := 0) hx hb dX12_whereHung_1 (by decide) ?_
  refine lv_iconst (v := 2) hx hb dX12_whereHung_2 (by decide) ?_
  refine k_callS (As := [.int x2, .int 0, .int 2]) (rest := []) (st1 := [.int (S_MD_isIn x2 0 2)]) (ws2 := (Wd54 cI aR q_hasImage q_place q_rowAt q_rowEnd q_seed q_thrown q_s q_m q_kept q_sort q_size q_element)) hx hb hml hown hts hK hN hA hP hD hS hl (c_MD_isIn l D cI cM cS cJ s.heap.size x2 0 2 rfl) gX12_whereHung_X12_isIn rfl kdS_X12_isIn [] ⟨rfl, rfl⟩ ⟨Nat.le_of_ble_eq_true rfl, Nat.le_of_ble_eq_true rfl⟩ ⟨Nat.zero_le _, Nat.zero_le _⟩ rfl rfl (by decide +kernel) rfl rfl rfl (Nat.le_of_ble_eq_true rfl) dX12_whereHung_3 rfl (fun H locs hP hD hS => ?_)
  refine lv_if_ne (tgt := 11) hx hb dX12_whereHung_6 (by decide) (fun c6 => ?_) (fun c6 => ?_)
  · have h := k_neg c6 h
    refine lv_aload_n hx hb dX12_whereHung_11 rfl (lv_at hl 0 rfl) ?_
    refine lv_iload_n hx hb dX12_whereHung_12 rfl (lv_at hl 1 rfl) ?_
    refine lv_iconst (v := (-1)) hx hb dX12_whereHung_13 (by decide) ?_
    obtain ⟨r14, g14, h⟩ := k_bind h
    refine k_callV (As := [.int x1, .int (-1)]) (rest := []) (st1 := [.int r14]) (ws2 := (Wd54 cI aR q_hasImage q_place q_rowAt q_rowEnd q_seed q_thrown q_s q_m q_kept q_sort q_size q_element)) hx hb hml hown hts hK hN hA hP hD hS hl (c_MD_wrongRow l D cI cM cS cJ aR H.size x1 (-1) q_hasImage q_place q_rowAt q_rowEnd q_seed q_thrown q_kept q_sort g14) gX12_whereHung_X12_wrongRow rfl kdV_X12_wrongRow 0 12 rfl rfl rfl [0, 3, 4] ⟨rfl, rfl⟩ ⟨Nat.le_of_ble_eq_true rfl, Nat.le_of_ble_eq_true rfl⟩ ⟨Nat.zero_le _, Nat.zero_le _⟩ rfl rfl (by decide +kernel) rfl rfl rfl (Nat.le_of_ble_eq_true rfl) dX12_whereHung_14 rfl (fun H locs hP hD hS => ?_)
    refine lv_istore_n (lv' := [(3, .int r14), (0, .ref (aR 0)), (1, .int x1), (2, .int x2)]) hx hb dX12_whereHung_17 rfl hl (by decide) rfl (fun ls hl => ?_)
    refine lv_iload_n hx hb dX12_whereHung_18 rfl (lv_at hl 0 rfl) ?_
    refine lv_if_eq (tgt := 24) hx hb dX12_whereHung_19 (by decide) (fun c19 => ?_) (fun c19 => ?_)
    · have h := k_pos c19 h
      refine lv_iconst (v := 0) hx hb dX12_whereHung_24 (by decide) ?_
      refine lv_istore (lv' := [(4, .int 0), (3, .int r14), (0, .ref (aR 0)), (1, .int x1), (2, .int x2)]) hx hb dX12_whereHung_25 hl (by decide) rfl (fun ls hl => ?_)
      refine lv_bipush (v := (-4)) hx hb dX12_whereHung_27 (by decide) ?_
      refine lv_istore (lv' := [(5, .int (-4)), (4, .int 0), (3, .int r14), (0, .ref (aR 0)), (1, .int x1), (2, .int x2)]) hx hb dX12_whereHung_29 hl (by decide) rfl (fun ls hl => ?_)
      refine lv_bipush (v := (-4)) hx hb dX12_whereHung_31 (by decide) ?_
      refine lv_istore (lv' := [(6, .int (-4)), (5, .int (-4)), (4, .int 0), (3, .int r14), (0, .ref (aR 0)), (1, .int x1), (2, .int x2)]) hx hb dX12_whereHung_33 hl (by decide) rfl (fun ls hl => ?_)
      refine lv_iconst (v := 0) hx hb dX12_whereHung_35 (by decide) ?_
      have B38 : ∀ (n38 : Nat) (y4 : Int32) (y5 : Int32) (y6 : Int32) (y7 : Int32) (q_m : Nat → Int32) (H : Heap) (locs : List Loc) (ls : Array Slot), va_P D vwCl (Wd54 cI aR q_hasImage q_place q_rowAt q_rowEnd q_seed q_thrown q_s q_m q_kept q_sort q_size q_element) H → va_D A (Wd54 cI aR q_hasImage q_place q_rowAt q_rowEnd q_seed q_thrown q_s q_m q_kept q_sort q_size q_element) → va_S A s.heap H locs → lv_has ls 8 [(0, .ref (aR 0)), (1, .int x1), (2, .int x2), (4, .int y4), (5, .int y5), (6, .int y6), (7, .int y7)] → S_MD_whereHung_L38 x1 x2 q_s q_sort q_size q_element n38 y4 y5 y6 y7 q_m = some o → W p l e rm_X12_whereHung s m ([.ref (aR 0), .int x1, .int x2] : List Value).toArray below meth c H locs 0 0 Q (F0 m 38 ls []) := by
        intro n38
        induction n38 with
        | zero => intro y4 y5 y6 y7 q_m H locs ls hP hD hS hl h; exact absurd h (by simp [S_MD_whereHung_L38])
        | succ n38 ih38 =>
          intro y4 y5 y6 y7 q_m H locs ls hP hD hS hl h
          rw [S_MD_whereHung_L38] at h
          refine lv_iload hx hb dX12_whereHung_38 (lv_at hl 6 rfl) ?_
          refine lv_bipush (v := 100) hx hb dX12_whereHung_40 (by decide) ?_
          refine lv_icmp_ge (tgt := 103) hx hb dX12_whereHung_42 (by decide) (fun c42 => ?_) (fun c42 => ?_)
          · have h := k_pos c42 h
            refine lv_iload_n hx hb dX12_whereHung_103 rfl (lv_at hl 2 rfl) ?_
            refine lv_if_ne (tgt := 112) hx hb dX12_whereHung_104 (by decide) (fun c104 => ?_) (fun c104 => ?_)
            · have h := k_neg c104 h
              refine lv_iload_n hx hb dX12_whereHung_112 rfl (lv_at hl 2 rfl) ?_
              refine lv_iconst (v := 1) hx hb dX12_whereHung_113 (by decide) ?_
              refine lv_icmp_ne (tgt := 122) hx hb dX12_whereHung_114 (by decide) (fun c114 => ?_) (fun c114 => ?_)
              · have h := k_neg c114 h
                refine lv_iload hx hb dX12_whereHung_122 (lv_at hl 5 rfl) ?_
                cases h
                exact hret _ _ _ _ hP hS dX12_whereHung_124
              · have h := k_pos c114 h
                refine lv_iload hx hb dX12_whereHung_117 (lv_at hl 4 rfl) ?_
                refine lv_goto (tgt := 124) hx hb dX12_whereHung_119 (by decide) ?_
                cases h
                exact hret _ _ _ _ hP hS dX12_whereHung_124
            · have h := k_pos c104 h
              refine lv_iload hx hb dX12_whereHung_107 (lv_at hl 3 rfl) ?_
              refine lv_goto (tgt := 124) hx hb dX12_whereHung_109 (by decide) ?_
              cases h
              exact hret _ _ _ _ hP hS dX12_whereHung_124
          · have h := k_neg c42 h
            refine lv_iload hx hb dX12_whereHung_45 (lv_at hl 6 rfl) ?_
            refine lv_bipush (v := 10) hx hb dX12_whereHung_47 (by decide) ?_
            refine lv_irem hx hb dX12_whereHung_49 (by decide) ?_
            refine lv_bipush (v := 8) hx hb dX12_whereHung_50 (by decide) ?_
            refine lv_icmp_ge (tgt := 97) hx hb dX12_whereHung_52 (by decide) (fun c52 => ?_) (fun c52 => ?_)
            · have h := k_pos c52 h
              refine lv_iinc (v := (y7 + 1)) (lv' := [(7, .int (y7 + 1)), (0, .ref (aR 0)), (1, .int x1), (2, .int x2), (4, .int y4), (5, .int y5), (6, .int y6)]) hx hb dX12_whereHung_97 hl (k := 6) rfl (by first | rfl | decide) (by decide) rfl (fun ls hl => ?_)
              refine lv_goto (tgt := 38) hx hb dX12_whereHung_100 (by decide) ?_
              exact ih38 y4 y5 y6 (y7 + 1) q_m H locs ls hP hD hS (lv_sub hl [1, 2, 3, 4, 5, 6, 0] rfl) h
            · have h := k_neg c52 h
              refine lv_aload_n hx hb dX12_whereHung_55 rfl (lv_at hl 0 rfl) ?_
              refine lv_iload_n hx hb dX12_whereHung_56 rfl (lv_at hl 1 rfl) ?_
              refine lv_iload hx hb dX12_whereHung_57 (lv_at hl 6 rfl) ?_
              refine lv_bipush (v := 10) hx hb dX12_whereHung_59 (by decide) ?_
              refine lv_idiv hx hb dX12_whereHung_61 (by decide) ?_
              refine lv_iload hx hb dX12_whereHung_62 (lv_at hl 6 rfl) ?_
              refine lv_bipush (v := 10) hx hb dX12_whereHung_64 (by decide) ?_
              refine lv_irem hx hb dX12_whereHung_66 (by decide) ?_
              obtain ⟨r67, g67, h⟩ := k_bind h
              refine k_callV (As := [.int x1, .int (y7 / 10), .int (y7 - y7 / 10 * 10)]) (rest := []) (st1 := [.int r67.1]) (ws2 := (Wd54 cI aR q_hasImage q_place q_rowAt q_rowEnd q_seed q_thrown q_s r67.2 q_kept q_sort q_size q_element)) hx hb hml hown hts hK hN hA hP hD hS hl (c_MD_hasHungSo l D cI cM cS cJ aR H.size x1 (y7 / 10) (y7 - y7 / 10 * 10) q_hasImage q_place q_rowAt q_rowEnd q_seed q_thrown q_s q_m q_sort q_size q_element g67) gX12_whereHung_X12_hasHungSo rfl kdV_X12_hasHungSo 0 12 rfl rfl rfl [0, 1, 2, 4, 5, 6] ⟨rfl, rfl⟩ ⟨Nat.le_of_ble_eq_true rfl, Nat.le_of_ble_eq_true rfl⟩ ⟨Nat.zero_le _, Nat.zero_le _⟩ rfl rfl (by decide +kernel) rfl rfl rfl (Nat.le_of_ble_eq_true rfl) dX12_whereHung_67 rfl (fun H locs hP hD hS => ?_)
              refine lv_if_ne (tgt := 76) hx hb dX12_whereHung_70 (by decide) (fun c70 => ?_) (fun c70 => ?_)
              · have h := k_neg c70 h
                refine lv_iload hx hb dX12_whereHung_76 (lv_at hl 3 rfl) ?_
                refine lv_if_ne (tgt := 86) hx hb dX12_whereHung_78 (by decide) (fun c78 => ?_) (fun c78 => ?_)
                · have h := k_neg c78 h
                  refine lv_iload hx hb dX12_whereHung_86 (lv_at hl 4 rfl) ?_
                  refine lv_istore (lv' := [(5, .int y5), (0, .ref (aR 0)), (1, .int x1), (2, .int x2), (4, .int y4), (6, .int y6), (7, .int y7)]) hx hb dX12_whereHung_88 hl (by decide) rfl (fun ls hl => ?_)
                  refine lv_iload hx hb dX12_whereHung_90 (lv_at hl 6 rfl) ?_
                  refine lv_istore (lv' := [(6, .int y7), (5, .int y5), (0, .ref (aR 0)), (1, .int x1), (2, .int x2), (4, .int y4), (7, .int y7)]) hx hb dX12_whereHung_92 hl (by decide) rfl (fun ls hl => ?_)
                  refine lv_iinc (v := (y4 + 1)) (lv' := [(4, .int (y4 + 1)), (6, .int y7), (5, .int y5), (0, .ref (aR 0)), (1, .int x1), (2, .int x2), (7, .int y7)]) hx hb dX12_whereHung_94 hl (k := 5) rfl (by first | rfl | decide) (by decide) rfl (fun ls hl => ?_)
                  refine lv_iinc (v := (y7 + 1)) (lv' := [(7, .int (y7 + 1)), (4, .int (y4 + 1)), (6, .int y7), (5, .int y5), (0, .ref (aR 0)), (1, .int x1), (2, .int x2)]) hx hb dX12_whereHung_97 hl (k := 6) rfl (by first | rfl | decide) (by decide) rfl (fun ls hl => ?_)
                  refine lv_goto (tgt := 38) hx hb dX12_whereHung_100 (by decide) ?_
                  exact ih38 (y4 + 1) y5 y7 (y7 + 1) r67.2 H locs ls hP hD hS (lv_sub hl [4, 5, 6, 1, 3, 2, 0] rfl) h
                · have h := k_pos c78 h
                  refine lv_iload hx hb dX12_whereHung_81 (lv_at hl 6 rfl) ?_
                  refine lv_goto (tgt := 88) hx hb dX12_whereHung_83 (by decide) ?_
                  refine lv_istore (lv' := [(5, .int y7), (0, .ref (aR 0)), (1, .int x1), (2, .int x2), (4, .int y4), (6, .int y6), (7, .int y7)]) hx hb dX12_whereHung_88 hl (by decide) rfl (fun ls hl => ?_)
                  refine lv_iload hx hb dX12_whereHung_90 (lv_at hl 6 rfl) ?_
                  refine lv_istore (lv' := [(6, .int y7), (5, .int y7), (0, .ref (aR 0)), (1, .int x1), (2, .int x2), (4, .int y4), (7, .int y7)]) hx hb dX12_whereHung_92 hl (by decide) rfl (fun ls hl => ?_)
                  refine lv_iinc (v := (y4 + 1)) (lv' := [(4, .int (y4 + 1)), (6, .int y7), (5, .int y7), (0, .ref (aR 0)), (1, .int x1), (2, .int x2), (7, .int y7)]) hx hb dX12_whereHung_94 hl (k := 5) rfl (by first | rfl | decide) (by decide) rfl (fun ls hl => ?_)
                  refine lv_iinc (v := (y7 + 1)) (lv' := [(7, .int (y7 + 1)), (4, .int (y4 + 1)), (6, .int y7), (5, .int y7), (0, .ref (aR 0)), (1, .int x1), (2, .int x2)]) hx hb dX12_whereHung_97 hl (k := 6) rfl (by first | rfl | decide) (by decide) rfl (fun ls hl => ?_)
                  refine lv_goto (tgt := 38) hx hb dX12_whereHung_100 (by decide) ?_
                  exact ih38 (y4 + 1) y7 y7 (y7 + 1) r67.2 H locs ls hP hD hS (lv_sub hl [4, 5, 6, 1, 3, 2, 0] rfl) h
              · have h := k_pos c70 h
                refine lv_goto (tgt := 97) hx hb dX12_whereHung_73 (by decide) ?_
                refine lv_iinc (v := (y7 + 1)) (lv' := [(7, .int (y7 + 1)), (0, .ref (aR 0)), (1, .int x1), (2, .int x2), (4, .int y4), (5, .int y5), (6, .int y6)]) hx hb dX12_whereHung_97 hl (k := 6) rfl (by first | rfl | decide) (by decide) rfl (fun ls hl => ?_)
                refine lv_goto (tgt := 38) hx hb dX12_whereHung_100 (by decide) ?_
                exact ih38 y4 y5 y6 (y7 + 1) r67.2 H locs ls hP hD hS (lv_sub hl [1, 2, 3, 4, 5, 6, 0] rfl) h
      refine lv_istore (lv' := [(7, .int 0), (6, .int (-4)), (5, .int (-4)), (4, .int 0), (3, .int r14), (0, .ref (aR 0)), (1, .int x1), (2, .int x2)]) hx hb dX12_whereHung_36 hl (by decide) rfl (fun ls hl => ?_)
      exact B38 lfu 0 (-4) (-4) 0 q_m H locs ls hP hD hS (lv_sub hl [5, 6, 7, 3, 2, 1, 0] rfl) h
    · have h := k_neg c19 h
      refine lv_iload_n hx hb dX12_whereHung_22 rfl (lv_at hl 0 rfl) ?_
      cases h
      exact hret _ _ _ _ hP hS dX12_whereHung_23
  · have h := k_pos c6 h
    refine lv_iconst (v := (-1)) hx hb dX12_whereHung_9 (by decide) ?_
    cases h
    exact hret _ _ _ _ hP hS dX12_whereHung_10
abbrev rm_X12_hasBy : Room := { frames := 5, cells := 0, slots := 0, locals := 112 }
set_option maxHeartbeats 4000000 in
set_option maxRecDepth 100000 in
theorem c_MD_hasBy (l : Launch) (D : va_G) (cI cM cS cJ : ClassId) (aR : Nat → Nat) (sz : Nat) (x1 : Int32) (x2 : Int32) (x3 : Int32) (x4 : Int32) (x5 : Int32) (x6 : Int32) (q_hasImage : Int32) (q_place : Int32) (q_rowAt : Int32) (q_rowEnd : Int32) (q_seed : Int32) (q_thrown : Int32) (q_s : Nat → Int32) (q_m : Nat → Int32) {o : (Int32) × (Nat → Int32)} (hsem : S_MD_hasBy x1 x2 x3 x4 x5 x6 q_s q_m = some o) : kMet l yX12_hasBy wsX12_hasBy rm_X12_hasBy [.ref (aR 0), .int x1, .int x2, .int x3, .int x4, .int x5, .int x6] D (kT cI cM cS cJ) (Wd49 cI aR q_hasImage q_place q_rowAt q_rowEnd q_seed q_thrown q_s q_m) sz (some (.int o.1)) (Wd49 cI aR q_hasImage q_place q_rowAt q_rowEnd q_seed q_thrown q_s o.2) := by
  refine k_metI (by decide) rfl rfl (Nat.le_of_ble_eq_true rfl) ?_
  intro p e s m below meth c ls Q A hx hb hml hts hown hK hN hA hP hD hS hl hsz hnm hret
  have hown : s.vm.findClass RX12 = some m.cls := hown
  have hf9 := hts (.fieldLink RX12 9 "PlumbLineModel" "s" "[I") (List.mem_of_getElem? (i := 1) rfl)
  have hf13 := hts (.fieldLink RX12 13 "PlumbLineModel" "m" "[I") (List.mem_of_getElem? (i := 2) rfl)
  have hiX12 : ∀ w ∈ u_ws RX12 TX12 18, w ∈ wsX12_hasBy := fun w h => List.mem_cons_of_mem _ (List.mem_append_right _ h)
  replace hl : lv_has ls 7 [(0, .ref (aR 0)), (1, .int x1), (2, .int x2), (3, .int x3), (4, .int x4), (5, .int x5), (6, .int x6)] := hl
  have h := hsem
  clear hsem
  rw [S_MD_hasBy] at h
  refine lv_aload_n hx hb dX12_hasBy_0 rfl (lv_at hl 0 rfl) ?_
  refine va_get (D := D) (ci := 12) (v := .ref (aR 1)) (C := RX12) (T := TX12) (N := 18) hx hb hts hiX12 hown hK hP 0 rfl rfl 0 (by decide) hf9 (fun _ z => z) rfl dX12_hasBy_1 ?_
  refine lv_aload_n hx hb dX12_hasBy_4 rfl (lv_at hl 0 rfl) ?_
  refine va_get (D := D) (ci := 12) (v := .ref (aR 2)) (C := RX12) (T := TX12) (N := 18) hx hb hts hiX12 hown hK hP 0 rfl rfl 1 (by decide) hf13 (fun _ z => z) rfl dX12_hasBy_5 ?_
  obtain ⟨r8, g8, h⟩ := k_bind h
  refine k_callS (As := [.ref (aR 1), .ref (aR 2)]) (rest := []) (st1 := []) (ws2 := (Wd49 cI aR q_hasImage q_place q_rowAt q_rowEnd q_seed q_thrown q_s r8)) hx hb hml hown hts hK hN hA hP hD hS hl (c_MD_copies l D cI cM cS cJ (aR 1) (aR 2) s.heap.size q_s q_m g8) gX12_hasBy_X12_copies rfl kdS_X12_copies [1, 2] ⟨rfl, rfl⟩ ⟨Nat.le_of_ble_eq_true rfl, Nat.le_of_ble_eq_true rfl⟩ ⟨Nat.zero_le _, Nat.zero_le _⟩ rfl rfl (by decide +kernel) rfl rfl rfl (Nat.le_of_ble_eq_true rfl) dX12_hasBy_8 rfl (fun H locs hP hD hS => ?_)
  refine lv_aload_n hx hb dX12_hasBy_11 rfl (lv_at hl 0 rfl) ?_
  refine va_get (D := D) (ci := 12) (v := .ref (aR 2)) (C := RX12) (T := TX12) (N := 18) hx hb hts hiX12 hown hK hP 0 rfl rfl 1 (by decide) hf13 (fun _ z => z) rfl dX12_hasBy_12 ?_
  refine lv_iconst (v := 4) hx hb dX12_hasBy_15 (by decide) ?_
  refine lv_iconst (v := 0) hx hb dX12_hasBy_16 (by decide) ?_
  refine va_iast hx hb hK hP hD hS 2 0 rfl rfl (by decide) dX12_hasBy_17 (fun H locs hP hD hS => ?_)
  replace hP : va_P D vwCl (Wd49 cI aR q_hasImage q_place q_rowAt q_rowEnd q_seed q_thrown q_s (upd r8 (4 : Int32).toNatClampNeg 0)) H := hP
  replace hD : va_D A (Wd49 cI aR q_hasImage q_place q_rowAt q_rowEnd q_seed q_thrown q_s (upd r8 (4 : Int32).toNatClampNeg 0)) := hD
  refine lv_iload_n hx hb dX12_hasBy_18 rfl (lv_at hl 3 rfl) ?_
  refine lv_iconst (v := 1) hx hb dX12_hasBy_19 (by decide) ?_
  have B34 : ∀ (q_m : Nat → Int32) (H : Heap) (locs : List Loc) (ls : Array Slot), va_P D vwCl (Wd49 cI aR q_hasImage q_place q_rowAt q_rowEnd q_seed q_thrown q_s q_m) H → va_D A (Wd49 cI aR q_hasImage q_place q_rowAt q_rowEnd q_seed q_thrown q_s q_m) → va_S A s.heap H locs → lv_has ls 7 [(0, .ref (aR 0)), (1, .int x1), (2, .int x2), (3, .int x3), (4, .int x4), (5, .int x5), (6, .int x6)] → S_MD_hasBy_J34 x1 x2 x3 x4 x5 x6 q_m = some o → W p l e rm_X12_hasBy s m ([.ref (aR 0), .int x1, .int x2, .int x3, .int x4, .int x5, .int x6] : List Value).toArray below meth c H locs 0 0 Q (F0 m 34 ls []) := by
    intro q_m H locs ls hP hD hS hl h
    rw [S_MD_hasBy_J34] at h
    refine lv_iload hx hb dX12_hasBy_34 (lv_at hl 5 rfl) ?_
    refine lv_iconst (v := 1) hx hb dX12_hasBy_36 (by decide) ?_
    have B52 : ∀ (q_m : Nat → Int32) (H : Heap) (locs : List Loc) (ls : Array Slot), va_P D vwCl (Wd49 cI aR q_hasImage q_place q_rowAt q_rowEnd q_seed q_thrown q_s q_m) H → va_D A (Wd49 cI aR q_hasImage q_place q_rowAt q_rowEnd q_seed q_thrown q_s q_m) → va_S A s.heap H locs → lv_has ls 7 [(0, .ref (aR 0)), (1, .int x1), (2, .int x2), (3, .int x3), (5, .int x5), (6, .int x6)] → S_MD_hasBy_J52 x1 x2 x3 x5 x6 q_m = some o → W p l e rm_X12_hasBy s m ([.ref (aR 0), .int x1, .int x2, .int x3, .int x4, .int x5, .int x6] : List Value).toArray below meth c H locs 0 0 Q (F0 m 52 ls []) := by
      intro q_m H locs ls hP hD hS hl h
      rw [S_MD_hasBy_J52] at h
      refine lv_aload_n hx hb dX12_hasBy_52 rfl (lv_at hl 0 rfl) ?_
      refine va_get (D := D) (ci := 12) (v := .ref (aR 2)) (C := RX12) (T := TX12) (N := 18) hx hb hts hiX12 hown hK hP 0 rfl rfl 1 (by decide) hf13 (fun _ z => z) rfl dX12_hasBy_53 ?_
      refine lv_iload hx hb dX12_hasBy_56 (lv_at hl 5 rfl) ?_
      obtain ⟨r58, g58, h⟩ := k_bind h
      refine k_callS (As := [.ref (aR 2), .int x6]) (rest := []) (st1 := []) (ws2 := (Wd49 cI aR q_hasImage q_place q_rowAt q_rowEnd q_seed q_thrown q_s r58)) hx hb hml hown hts hK hN hA hP hD hS hl (c_MD_daysOn l D cI cM cS cJ (aR 2) H.size x6 q_m g58) gX12_hasBy_X12_daysOn rfl kdS_X12_daysOn [2] ⟨rfl, rfl⟩ ⟨Nat.le_of_ble_eq_true rfl, Nat.le_of_ble_eq_true rfl⟩ ⟨Nat.zero_le _, Nat.zero_le _⟩ rfl rfl (by decide +kernel) rfl rfl rfl (Nat.le_of_ble_eq_true rfl) dX12_hasBy_58 rfl (fun H locs hP hD hS => ?_)
      refine lv_aload_n hx hb dX12_hasBy_61 rfl (lv_at hl 0 rfl) ?_
      refine va_get (D := D) (ci := 12) (v := .ref (aR 2)) (C := RX12) (T := TX12) (N := 18) hx hb hts hiX12 hown hK hP 0 rfl rfl 1 (by decide) hf13 (fun _ z => z) rfl dX12_hasBy_62 ?_
      obtain ⟨r65, g65, h⟩ := k_bind h
      refine k_callS (As := [.ref (aR 2)]) (rest := []) (st1 := [.int r65]) (ws2 := (Wd49 cI aR q_hasImage q_place q_rowAt q_rowEnd q_seed q_thrown q_s r58)) hx hb hml hown hts hK hN hA hP hD hS hl (c_MD_upright l D cI cM cS cJ (aR 2) H.size r58 g65) gX12_hasBy_X12_upright rfl kdS_X12_upright [2] ⟨rfl, rfl⟩ ⟨Nat.le_of_ble_eq_true rfl, Nat.le_of_ble_eq_true rfl⟩ ⟨Nat.zero_le _, Nat.zero_le _⟩ rfl rfl (by decide +kernel) rfl rfl rfl (Nat.le_of_ble_eq_true rfl) dX12_hasBy_65 rfl (fun H locs hP hD hS => ?_)
      refine lv_iload_n hx hb dX12_hasBy_68 rfl (lv_at hl 1 rfl) ?_
      refine k_callS (As := [.int r65, .int x1]) (rest := []) (st1 := [.int (S_MD_has r65 x1)]) (ws2 := (Wd49 cI aR q_hasImage q_place q_rowAt q_rowEnd q_seed q_thrown q_s r58)) hx hb hml hown hts hK hN hA hP hD hS hl (c_MD_has l D cI cM cS cJ H.size r65 x1 rfl) gX12_hasBy_X12_has rfl kdS_X12_has [] ⟨rfl, rfl⟩ ⟨Nat.le_of_ble_eq_true rfl, Nat.le_of_ble_eq_true rfl⟩ ⟨Nat.zero_le _, Nat.zero_le _⟩ rfl rfl (by decide +kernel) rfl rfl rfl (Nat.le_of_ble_eq_true rfl) dX12_hasBy_69 rfl (fun H locs hP hD hS => ?_)
      have B81 : ∀ (v0 : Int32) (q_m : Nat → Int32) (H : Heap) (locs : List Loc) (ls : Array Slot), va_P D vwCl (Wd49 cI aR q_hasImage q_place q_rowAt q_rowEnd q_seed q_thrown q_s q_m) H → va_D A (Wd49 cI aR q_hasImage q_place q_rowAt q_rowEnd q_seed q_thrown q_s q_m) → va_S A s.heap H locs → lv_has ls 7 [(0, .ref (aR 0)), (1, .int x1), (2, .int x2), (3, .int x3), (5, .int x5)] → S_MD_hasBy_J81 x1 x2 x3 x5 v0 q_m = some o → W p l e rm_X12_hasBy s m ([.ref (aR 0), .int x1, .int x2, .int x3, .int x4, .int x5, .int x6] : List Value).toArray below meth c H locs 0 0 Q (F0 m 81 ls [.int v0]) := by
        intro v0 q_m H locs ls hP hD hS hl h
        rw [S_MD_hasBy_J81] at h
        refine lv_iconst (v := 2) hx hb dX12_hasBy_81 (by decide) ?_
        refine lv_iload_n hx hb dX12_hasBy_82 rfl (lv_at hl 1 rfl) ?_
        refine lv_iload_n hx hb dX12_hasBy_83 rfl (lv_at hl 2 rfl) ?_
        refine lv_icmp_ne (tgt := 91) hx hb dX12_hasBy_84 (by decide) (fun c84 => ?_) (fun c84 => ?_)
        · have h := k_neg c84 h
          refine lv_iload hx hb dX12_hasBy_91 (lv_at hl 4 rfl) ?_
          refine lv_imul hx hb dX12_hasBy_93 ?_
          refine lv_isub hx hb dX12_hasBy_94 ?_
          refine lv_aload_n hx hb dX12_hasBy_95 rfl (lv_at hl 0 rfl) ?_
          refine va_get (D := D) (ci := 12) (v := .ref (aR 2)) (C := RX12) (T := TX12) (N := 18) hx hb hts hiX12 hown hK hP 0 rfl rfl 1 (by decide) hf13 (fun _ z => z) rfl dX12_hasBy_96 ?_
          refine lv_iconst (v := 4) hx hb dX12_hasBy_99 (by decide) ?_
          refine va_iald hx hb hK hP 2 0 rfl rfl (by decide) dX12_hasBy_100 ?_
          refine lv_isub hx hb dX12_hasBy_101 ?_
          cases h
          exact hret _ _ _ _ hP hS dX12_hasBy_102
        · have h := k_pos c84 h
          refine lv_iload_n hx hb dX12_hasBy_87 rfl (lv_at hl 3 rfl) ?_
          refine lv_goto (tgt := 93) hx hb dX12_hasBy_88 (by decide) ?_
          refine lv_imul hx hb dX12_hasBy_93 ?_
          refine lv_isub hx hb dX12_hasBy_94 ?_
          refine lv_aload_n hx hb dX12_hasBy_95 rfl (lv_at hl 0 rfl) ?_
          refine va_get (D := D) (ci := 12) (v := .ref (aR 2)) (C := RX12) (T := TX12) (N := 18) hx hb hts hiX12 hown hK hP 0 rfl rfl 1 (by decide) hf13 (fun _ z => z) rfl dX12_hasBy_96 ?_
          refine lv_iconst (v := 4) hx hb dX12_hasBy_99 (by decide) ?_
          refine va_iald hx hb hK hP 2 0 rfl rfl (by decide) dX12_hasBy_100 ?_
          refine lv_isub hx hb dX12_hasBy_101 ?_
          cases h
          exact hret _ _ _ _ hP hS dX12_hasBy_102
      refine lv_if_eq (tgt := 80) hx hb dX12_hasBy_72 (by decide) (fun c72 => ?_) (fun c72 => ?_)
      · have h := k_pos c72 h
        refine lv_iconst (v := 0) hx hb dX12_hasBy_80 (by decide) ?_
        exact B81 0 r58 H locs ls hP hD hS (lv_sub hl [0, 1, 2, 3, 4] rfl) h
      · have h := k_neg c72 h
        refine lv_bipush (v := 6) hx hb dX12_hasBy_75 (by decide) ?_
        refine lv_goto (tgt := 81) hx hb dX12_hasBy_77 (by decide) ?_
        exact B81 6 r58 H locs ls hP hD hS (lv_sub hl [0, 1, 2, 3, 4] rfl) h
    refine lv_icmp_ne (tgt := 52) hx hb dX12_hasBy_37 (by decide) (fun c37 => ?_) (fun c37 => ?_)
    · have h := k_neg c37 h
      exact B52 q_m H locs ls hP hD hS (lv_sub hl [0, 1, 2, 3, 5, 6] rfl) h
    · have h := k_pos c37 h
      refine lv_aload_n hx hb dX12_hasBy_40 rfl (lv_at hl 0 rfl) ?_
      refine va_get (D := D) (ci := 12) (v := .ref (aR 2)) (C := RX12) (T := TX12) (N := 18) hx hb hts hiX12 hown hK hP 0 rfl rfl 1 (by decide) hf13 (fun _ z => z) rfl dX12_hasBy_41 ?_
      refine lv_iload hx hb dX12_hasBy_44 (lv_at hl 4 rfl) ?_
      refine lv_iconst (v := 3) hx hb dX12_hasBy_46 (by decide) ?_
      refine k_callS (As := [.int x4, .int 3]) (rest := [.ref (aR 2)]) (st1 := [.int (S_MD_of x4 3), .ref (aR 2)]) (ws2 := (Wd49 cI aR q_hasImage q_place q_rowAt q_rowEnd q_seed q_thrown q_s q_m)) hx hb hml hown hts hK hN hA hP hD hS hl (c_MD_of l D cI cM cS cJ H.size x4 3 rfl) gX12_hasBy_X12_of rfl kdS_X12_of [] ⟨rfl, rfl⟩ ⟨Nat.le_of_ble_eq_true rfl, Nat.le_of_ble_eq_true rfl⟩ ⟨Nat.zero_le _, Nat.zero_le _⟩ rfl rfl (by decide +kernel) rfl rfl rfl (Nat.le_of_ble_eq_true rfl) dX12_hasBy_47 rfl (fun H locs hP hD hS => ?_)
      refine lv_iconst (v := 1) hx hb dX12_hasBy_50 (by decide) ?_
      obtain ⟨g51, h⟩ := k_guard h
      refine va_iast hx hb hK hP hD hS 2 0 rfl rfl g51 dX12_hasBy_51 (fun H locs hP hD hS => ?_)
      replace hP : va_P D vwCl (Wd49 cI aR q_hasImage q_place q_rowAt q_rowEnd q_seed q_thrown q_s (upd q_m (S_MD_of x4 3).toNatClampNeg 1)) H := hP
      replace hD : va_D A (Wd49 cI aR q_hasImage q_place q_rowAt q_rowEnd q_seed q_thrown q_s (upd q_m (S_MD_of x4 3).toNatClampNeg 1)) := hD
      exact B52 (upd q_m (S_MD_of x4 3).toNatClampNeg 1) H locs ls hP hD hS (lv_sub hl [0, 1, 2, 3, 5, 6] rfl) h
  refine lv_icmp_ne (tgt := 34) hx hb dX12_hasBy_20 (by decide) (fun c20 => ?_) (fun c20 => ?_)
  · have h := k_neg c20 h
    exact B34 (upd r8 (4 : Int32).toNatClampNeg 0) H locs ls hP hD hS hl h
  · have h := k_pos c20 h
    refine lv_aload_n hx hb dX12_hasBy_23 rfl (lv_at hl 0 rfl) ?_
    refine va_get (D := D) (ci := 12) (v := .ref (aR 2)) (C := RX12) (T := TX12) (N := 18) hx hb hts hiX12 hown hK hP 0 rfl rfl 1 (by decide) hf13 (fun _ z => z) rfl dX12_hasBy_24 ?_
    refine lv_iload_n hx hb dX12_hasBy_27 rfl (lv_at hl 2 rfl) ?_
    refine lv_iconst (v := 3) hx hb dX12_hasBy_28 (by decide) ?_
    refine k_callS (As := [.int x2, .int 3]) (rest := [.ref (aR 2)]) (st1 := [.int (S_MD_of x2 3), .ref (aR 2)]) (ws2 := (Wd49 cI aR q_hasImage q_place q_rowAt q_rowEnd q_seed q_thrown q_s (upd r8 (4 : Int32).toNatClampNeg 0))) hx hb hml hown hts hK hN hA hP hD hS hl (c_MD_of l D cI cM cS cJ H.size x2 3 rfl) gX12_hasBy_X12_of rfl kdS_X12_of [] ⟨rfl, rfl⟩ ⟨Nat.le_of_ble_eq_true rfl, Nat.le_of_ble_eq_true rfl⟩ ⟨Nat.zero_le _, Nat.zero_le _⟩ rfl rfl (by decide +kernel) rfl rfl rfl (Nat.le_of_ble_eq_true rfl) dX12_hasBy_29 rfl (fun H locs hP hD hS => ?_)
    refine lv_iconst (v := 1) hx hb dX12_hasBy_32 (by decide) ?_
    obtain ⟨g33, h⟩ := k_guard h
    refine va_iast hx hb hK hP hD hS 2 0 rfl rfl g33 dX12_hasBy_33 (fun H locs hP hD hS => ?_)
    replace hP : va_P D vwCl (Wd49 cI aR q_hasImage q_place q_rowAt q_rowEnd q_seed q_thrown q_s (upd (upd r8 (4 : Int32).toNatClampNeg 0) (S_MD_of x2 3).toNatClampNeg 1)) H := hP
    replace hD : va_D A (Wd49 cI aR q_hasImage q_place q_rowAt q_rowEnd q_seed q_thrown q_s (upd (upd r8 (4 : Int32).toNatClampNeg 0) (S_MD_of x2 3).toNatClampNeg 1)) := hD
    exact B34 (upd (upd r8 (4 : Int32).toNatClampNeg 0) (S_MD_of x2 3).toNatClampNeg 1) H locs ls hP hD hS hl h
theorem kdV_X12_areTwo : yX12_areTwo.cls = RX12 ∧ yX12_areTwo.cls ≠ "java/lang/invoke/MethodHandle" ∧ yX12_areTwo.cls ≠ "java/lang/invoke/VarHandle" ∧ (parseMethodDescriptor yX12_areTwo.desc).map (fun d => d.parameters.length) = some 2 := by decide +kernel
theorem kdV_X12_hasBy : yX12_hasBy.cls = RX12 ∧ yX12_hasBy.cls ≠ "java/lang/invoke/MethodHandle" ∧ yX12_hasBy.cls ≠ "java/lang/invoke/VarHandle" ∧ (parseMethodDescriptor yX12_hasBy.desc).map (fun d => d.parameters.length) = some 6 := by decide +kernel
abbrev rm_X12_two : Room := { frames := 6, cells := 0, slots := 0, locals := 138 }
set_option maxHeartbeats 4000000 in
set_option maxRecDepth 100000 in
theorem c_MD_two (l : Launch) (D : va_G) (cI cM cS cJ : ClassId) (aR : Nat → Nat) (sz : Nat) (x1 : Int32) (x2 : Int32) (x3 : Int32) (q_hasImage : Int32) (q_place : Int32) (q_rowAt : Int32) (q_rowEnd : Int32) (q_seed : Int32) (q_thrown : Int32) (q_s : Nat → Int32) (q_m : Nat → Int32) {o : (Int32) × (Nat → Int32)} (hsem : S_MD_two x1 x2 x3 q_s q_m = some o) : kMet l yX12_two wsX12_two rm_X12_two [.ref (aR 0), .int x1, .int x2, .int x3] D (kT cI cM cS cJ) (Wd49 cI aR q_hasImage q_place q_rowAt q_rowEnd q_seed q_thrown q_s q_m) sz (some (.int o.1)) (Wd49 cI aR q_hasImage q_place q_rowAt q_rowEnd q_seed q_thrown q_s o.2) := by
  refine k_metI (by decide) rfl rfl (Nat.le_of_ble_eq_true rfl) ?_
  intro p e s m below meth c ls Q A hx hb hml hts hown hK hN hA hP hD hS hl hsz hnm hret
  have hown : s.vm.findClass RX12 = some m.cls := hown
  replace hl : lv_has ls 7 [(0, .ref (aR 0)), (1, .int x1), (2, .int x2), (3, .int x3)] := hl
  have h := hsem
  clear hsem
  rw [S_MD_two] at h
  refine lv_aload_n hx hb dX12_two_0 rfl (lv_at hl 0 rfl) ?_
  refine lv_iload_n hx hb dX12_two_1 rfl (lv_at hl 1 rfl) ?_
  refine lv_iload_n hx hb dX12_two_2 rfl (lv_at hl 2 rfl) ?_
  obtain ⟨r3, g3, h⟩ := k_bind h
  refine k_callV (As := [.int x1, .int x2]) (rest := []) (st1 := [.int r3]) (ws2 := (Wd49 cI aR q_hasImage q_place q_rowAt q_rowEnd q_seed q_thrown q_s q_m)) hx hb hml hown hts hK hN hA hP hD hS hl (c_MD_areTwo l D cI cM cS cJ aR s.heap.size x1 x2 q_hasImage q_place q_rowAt q_rowEnd q_seed q_thrown q_s g3) gX12_two_X12_areTwo rfl kdV_X12_areTwo 0 12 rfl rfl rfl [0, 1] ⟨rfl, rfl⟩ ⟨Nat.le_of_ble_eq_true rfl, Nat.le_of_ble_eq_true rfl⟩ ⟨Nat.zero_le _, Nat.zero_le _⟩ rfl rfl (by decide +kernel) rfl rfl rfl (Nat.le_of_ble_eq_true rfl) dX12_two_3 rfl (fun H locs hP hD hS => ?_)
  refine lv_if_eq (tgt := 19) hx hb dX12_two_6 (by decide) (fun c6 => ?_) (fun c6 => ?_)
  · have h := k_pos c6 h
    refine lv_iconst (v := (-1)) hx hb dX12_two_19 (by decide) ?_
    cases h
    exact hret _ _ _ _ hP hS dX12_two_20
  · have h := k_neg c6 h
    refine lv_iload_n hx hb dX12_two_9 rfl (lv_at hl 3 rfl) ?_
    refine lv_iconst (v := 1) hx hb dX12_two_10 (by decide) ?_
    refine lv_bipush (v := 30) hx hb dX12_two_11 (by decide) ?_
    refine k_callS (As := [.int x3, .int 1, .int 30]) (rest := []) (st1 := [.int (S_MD_isIn x3 1 30)]) (ws2 := (Wd49 cI aR q_hasImage q_place q_rowAt q_rowEnd q_seed q_thrown q_s q_m)) hx hb hml hown hts hK hN hA hP hD hS hl (c_MD_isIn l D cI cM cS cJ H.size x3 1 30 rfl) gX12_two_X12_isIn rfl kdS_X12_isIn [] ⟨rfl, rfl⟩ ⟨Nat.le_of_ble_eq_true rfl, Nat.le_of_ble_eq_true rfl⟩ ⟨Nat.zero_le _, Nat.zero_le _⟩ rfl rfl (by decide +kernel) rfl rfl rfl (Nat.le_of_ble_eq_true rfl) dX12_two_13 rfl (fun H locs hP hD hS => ?_)
    refine lv_if_ne (tgt := 21) hx hb dX12_two_16 (by decide) (fun c16 => ?_) (fun c16 => ?_)
    · have h := k_neg c16 h
      refine lv_iconst (v := 0) hx hb dX12_two_21 (by decide) ?_
      have B24 : ∀ (n24 : Nat) (y4 : Int32) (q_m : Nat → Int32) (H : Heap) (locs : List Loc) (ls : Array Slot), va_P D vwCl (Wd49 cI aR q_hasImage q_place q_rowAt q_rowEnd q_seed q_thrown q_s q_m) H → va_D A (Wd49 cI aR q_hasImage q_place q_rowAt q_rowEnd q_seed q_thrown q_s q_m) → va_S A s.heap H locs → lv_has ls 7 [(0, .ref (aR 0)), (1, .int x1), (2, .int x2), (3, .int x3), (4, .int y4)] → S_MD_two_L24 x1 x2 x3 q_s n24 y4 q_m = some o → W p l e rm_X12_two s m ([.ref (aR 0), .int x1, .int x2, .int x3] : List Value).toArray below meth c H locs 0 0 Q (F0 m 24 ls []) := by
        intro n24
        induction n24 with
        | zero => intro y4 q_m H locs ls hP hD hS hl h; exact absurd h (by simp [S_MD_two_L24])
        | succ n24 ih24 =>
          intro y4 q_m H locs ls hP hD hS hl h
          rw [S_MD_two_L24] at h
          refine lv_iload hx hb dX12_two_24 (lv_at hl 4 rfl) ?_
          refine lv_iconst (v := 4) hx hb dX12_two_26 (by decide) ?_
          refine lv_icmp_ge (tgt := 115) hx hb dX12_two_27 (by decide) (fun c27 => ?_) (fun c27 => ?_)
          · have h := k_pos c27 h
            refine lv_bipush (v := (-4)) hx hb dX12_two_115 (by decide) ?_
            cases h
            exact hret _ _ _ _ hP hS dX12_two_117
          · have h := k_neg c27 h
            refine lv_iload hx hb dX12_two_30 (lv_at hl 4 rfl) ?_
            refine lv_iconst (v := 2) hx hb dX12_two_32 (by decide) ?_
            refine lv_idiv hx hb dX12_two_33 (by decide) ?_
            refine lv_istore (lv' := [(5, .int (y4 / 2)), (0, .ref (aR 0)), (1, .int x1), (2, .int x2), (3, .int x3), (4, .int y4)]) hx hb dX12_two_34 hl (by decide) rfl (fun ls hl => ?_)
            refine lv_iload hx hb dX12_two_36 (lv_at hl 5 rfl) ?_
            refine lv_iconst (v := 2) hx hb dX12_two_38 (by decide) ?_
            refine lv_irem hx hb dX12_two_39 (by decide) ?_
            refine lv_istore (lv' := [(6, .int (y4 - y4 / 2 * 2)), (5, .int (y4 / 2)), (0, .ref (aR 0)), (1, .int x1), (2, .int x2), (3, .int x3), (4, .int y4)]) hx hb dX12_two_40 hl (by decide) rfl (fun ls hl => ?_)
            refine lv_aload_n hx hb dX12_two_42 rfl (lv_at hl 2 rfl) ?_
            refine lv_iload_n hx hb dX12_two_43 rfl (lv_at hl 3 rfl) ?_
            refine lv_iload_n hx hb dX12_two_44 rfl (lv_at hl 3 rfl) ?_
            refine lv_iconst (v := 1) hx hb dX12_two_45 (by decide) ?_
            refine lv_iload hx hb dX12_two_46 (lv_at hl 1 rfl) ?_
            refine lv_isub hx hb dX12_two_48 ?_
            refine lv_iload_n hx hb dX12_two_49 rfl (lv_at hl 4 rfl) ?_
            refine lv_iload hx hb dX12_two_50 (lv_at hl 0 rfl) ?_
            refine lv_iload_n hx hb dX12_two_52 rfl (lv_at hl 5 rfl) ?_
            obtain ⟨r53, g53, h⟩ := k_bind h
            refine k_callV (As := [.int x1, .int x1, .int ((1 : Int32) - (y4 / 2)), .int x2, .int (y4 - y4 / 2 * 2), .int x3]) (rest := []) (st1 := [.int r53.1]) (ws2 := (Wd49 cI aR q_hasImage q_place q_rowAt q_rowEnd q_seed q_thrown q_s r53.2)) hx hb hml hown hts hK hN hA hP hD hS hl (c_MD_hasBy l D cI cM cS cJ aR H.size x1 x1 ((1 : Int32) - (y4 / 2)) x2 (y4 - y4 / 2 * 2) x3 q_hasImage q_place q_rowAt q_rowEnd q_seed q_thrown q_s q_m g53) gX12_two_X12_hasBy rfl kdV_X12_hasBy 0 12 rfl rfl rfl [0, 1, 2] ⟨rfl, rfl⟩ ⟨Nat.le_of_ble_eq_true rfl, Nat.le_of_ble_eq_true rfl⟩ ⟨Nat.zero_le _, Nat.zero_le _⟩ rfl rfl (by decide +kernel) rfl rfl rfl (Nat.le_of_ble_eq_true rfl) dX12_two_53 rfl (fun H locs hP hD hS => ?_)
            refine lv_aload_n hx hb dX12_two_56 rfl (lv_at hl 2 rfl) ?_
            refine lv_iload_n hx hb dX12_two_57 rfl (lv_at hl 3 rfl) ?_
            refine lv_iload_n hx hb dX12_two_58 rfl (lv_at hl 3 rfl) ?_
            refine lv_iload hx hb dX12_two_59 (lv_at hl 1 rfl) ?_
            refine lv_iload_n hx hb dX12_two_61 rfl (lv_at hl 4 rfl) ?_
            refine lv_iload hx hb dX12_two_62 (lv_at hl 0 rfl) ?_
            refine lv_iload_n hx hb dX12_two_64 rfl (lv_at hl 5 rfl) ?_
            obtain ⟨r65, g65, h⟩ := k_bind h
            refine k_callV (As := [.int x1, .int x1, .int (y4 / 2), .int x2, .int (y4 - y4 / 2 * 2), .int x3]) (rest := [.int r53.1]) (st1 := [.int r65.1, .int r53.1]) (ws2 := (Wd49 cI aR q_hasImage q_place q_rowAt q_rowEnd q_seed q_thrown q_s r65.2)) hx hb hml hown hts hK hN hA hP hD hS hl (c_MD_hasBy l D cI cM cS cJ aR H.size x1 x1 (y4 / 2) x2 (y4 - y4 / 2 * 2) x3 q_hasImage q_place q_rowAt q_rowEnd q_seed q_thrown q_s r53.2 g65) gX12_two_X12_hasBy rfl kdV_X12_hasBy 0 12 rfl rfl rfl [0, 1, 2] ⟨rfl, rfl⟩ ⟨Nat.le_of_ble_eq_true rfl, Nat.le_of_ble_eq_true rfl⟩ ⟨Nat.zero_le _, Nat.zero_le _⟩ rfl rfl (by decide +kernel) rfl rfl rfl (Nat.le_of_ble_eq_true rfl) dX12_two_65 rfl (fun H locs hP hD hS => ?_)
            refine lv_icmp_gt (tgt := 109) hx hb dX12_two_68 (by decide) (fun c68 => ?_) (fun c68 => ?_)
            · have h := k_pos c68 h
              refine lv_iinc (v := (y4 + 1)) (lv' := [(4, .int (y4 + 1)), (6, .int (y4 - y4 / 2 * 2)), (5, .int (y4 / 2)), (0, .ref (aR 0)), (1, .int x1), (2, .int x2), (3, .int x3)]) hx hb dX12_two_109 hl (k := 6) rfl (by first | rfl | decide) (by decide) rfl (fun ls hl => ?_)
              refine lv_goto (tgt := 24) hx hb dX12_two_112 (by decide) ?_
              exact ih24 (y4 + 1) r65.2 H locs ls hP hD hS (lv_sub hl [3, 4, 5, 6, 0] rfl) h
            · have h := k_neg c68 h
              refine lv_aload_n hx hb dX12_two_71 rfl (lv_at hl 2 rfl) ?_
              refine lv_iload_n hx hb dX12_two_72 rfl (lv_at hl 4 rfl) ?_
              refine lv_iload_n hx hb dX12_two_73 rfl (lv_at hl 3 rfl) ?_
              refine lv_iload hx hb dX12_two_74 (lv_at hl 1 rfl) ?_
              refine lv_iload_n hx hb dX12_two_76 rfl (lv_at hl 4 rfl) ?_
              refine lv_iconst (v := 1) hx hb dX12_two_77 (by decide) ?_
              refine lv_iload hx hb dX12_two_78 (lv_at hl 0 rfl) ?_
              refine lv_isub hx hb dX12_two_80 ?_
              refine lv_iload_n hx hb dX12_two_81 rfl (lv_at hl 5 rfl) ?_
              obtain ⟨r82, g82, h⟩ := k_bind h
              refine k_callV (As := [.int x2, .int x1, .int (y4 / 2), .int x2, .int ((1 : Int32) - (y4 - y4 / 2 * 2)), .int x3]) (rest := []) (st1 := [.int r82.1]) (ws2 := (Wd49 cI aR q_hasImage q_place q_rowAt q_rowEnd q_seed q_thrown q_s r82.2)) hx hb hml hown hts hK hN hA hP hD hS hl (c_MD_hasBy l D cI cM cS cJ aR H.size x2 x1 (y4 / 2) x2 ((1 : Int32) - (y4 - y4 / 2 * 2)) x3 q_hasImage q_place q_rowAt q_rowEnd q_seed q_thrown q_s r65.2 g82) gX12_two_X12_hasBy rfl kdV_X12_hasBy 0 12 rfl rfl rfl [0, 1, 2] ⟨rfl, rfl⟩ ⟨Nat.le_of_ble_eq_true rfl, Nat.le_of_ble_eq_true rfl⟩ ⟨Nat.zero_le _, Nat.zero_le _⟩ rfl rfl (by decide +kernel) rfl rfl rfl (Nat.le_of_ble_eq_true rfl) dX12_two_82 rfl (fun H locs hP hD hS => ?_)
              refine lv_aload_n hx hb dX12_two_85 rfl (lv_at hl 2 rfl) ?_
              refine lv_iload_n hx hb dX12_two_86 rfl (lv_at hl 4 rfl) ?_
              refine lv_iload_n hx hb dX12_two_87 rfl (lv_at hl 3 rfl) ?_
              refine lv_iload hx hb dX12_two_88 (lv_at hl 1 rfl) ?_
              refine lv_iload_n hx hb dX12_two_90 rfl (lv_at hl 4 rfl) ?_
              refine lv_iload hx hb dX12_two_91 (lv_at hl 0 rfl) ?_
              refine lv_iload_n hx hb dX12_two_93 rfl (lv_at hl 5 rfl) ?_
              obtain ⟨r94, g94, h⟩ := k_bind h
              refine k_callV (As := [.int x2, .int x1, .int (y4 / 2), .int x2, .int (y4 - y4 / 2 * 2), .int x3]) (rest := [.int r82.1]) (st1 := [.int r94.1, .int r82.1]) (ws2 := (Wd49 cI aR q_hasImage q_place q_rowAt q_rowEnd q_seed q_thrown q_s r94.2)) hx hb hml hown hts hK hN hA hP hD hS hl (c_MD_hasBy l D cI cM cS cJ aR H.size x2 x1 (y4 / 2) x2 (y4 - y4 / 2 * 2) x3 q_hasImage q_place q_rowAt q_rowEnd q_seed q_thrown q_s r82.2 g94) gX12_two_X12_hasBy rfl kdV_X12_hasBy 0 12 rfl rfl rfl [0, 1, 2] ⟨rfl, rfl⟩ ⟨Nat.le_of_ble_eq_true rfl, Nat.le_of_ble_eq_true rfl⟩ ⟨Nat.zero_le _, Nat.zero_le _⟩ rfl rfl (by decide +kernel) rfl rfl rfl (Nat.le_of_ble_eq_true rfl) dX12_two_94 rfl (fun H locs hP hD hS => ?_)
              refine lv_icmp_gt (tgt := 109) hx hb dX12_two_97 (by decide) (fun c97 => ?_) (fun c97 => ?_)
              · have h := k_pos c97 h
                refine lv_iinc (v := (y4 + 1)) (lv' := [(4, .int (y4 + 1)), (6, .int (y4 - y4 / 2 * 2)), (5, .int (y4 / 2)), (0, .ref (aR 0)), (1, .int x1), (2, .int x2), (3, .int x3)]) hx hb dX12_two_109 hl (k := 6) rfl (by first | rfl | decide) (by decide) rfl (fun ls hl => ?_)
                refine lv_goto (tgt := 24) hx hb dX12_two_112 (by decide) ?_
                exact ih24 (y4 + 1) r94.2 H locs ls hP hD hS (lv_sub hl [3, 4, 5, 6, 0] rfl) h
              · have h := k_neg c97 h
                refine lv_bipush (v := 10) hx hb dX12_two_100 (by decide) ?_
                refine lv_iload hx hb dX12_two_102 (lv_at hl 1 rfl) ?_
                refine lv_imul hx hb dX12_two_104 ?_
                refine lv_iload hx hb dX12_two_105 (lv_at hl 0 rfl) ?_
                refine lv_iadd hx hb dX12_two_107 ?_
                cases h
                exact hret _ _ _ _ hP hS dX12_two_108
      refine lv_istore (lv' := [(4, .int 0), (0, .ref (aR 0)), (1, .int x1), (2, .int x2), (3, .int x3)]) hx hb dX12_two_22 hl (by decide) rfl (fun ls hl => ?_)
      exact B24 lfu 0 q_m H locs ls hP hD hS (lv_sub hl [1, 2, 3, 4, 0] rfl) h
    · have h := k_pos c16 h
      refine lv_iconst (v := (-1)) hx hb dX12_two_19 (by decide) ?_
      cases h
      exact hret _ _ _ _ hP hS dX12_two_20
abbrev rm_X12_gcd : Room := { frames := 0, cells := 0, slots := 0, locals := 0 }
set_option maxHeartbeats 4000000 in
set_option maxRecDepth 100000 in
theorem c_MD_gcd (l : Launch) (D : va_G) (cI cM cS cJ : ClassId) (sz : Nat) (x0 : Int64) (x2 : Int64) {o : (Int64)} (hsem : S_MD_gcd x0 x2 = some o) : kMet l yX12_gcd wsX12_gcd rm_X12_gcd [.long x0, .long x2] D (kT cI cM cS cJ) (Wd0) sz (some (.long o)) (Wd0) := by
  refine k_metJ (by decide) rfl rfl (Nat.le_of_ble_eq_true rfl) ?_
  intro p e s m below meth c ls Q A hx hb hml hts hown hK hN hA hP hD hS hl hsz hnm hret
  have hown : s.vm.findClass RX12 = some m.cls := hown
  replace hl : lv_has ls 10 [(0, .long x0), (2, .long x2)] := hl
  have h := hsem
  clear hsem
  rw [S_MD_gcd] at h
  refine lv_lload_n hx hb dX12_gcd_0 rfl (lv_at hl 0 rfl) ?_
  refine lv_lstore (lv' := [(4, .long x0), (0, .long x0), (2, .long x2)]) hx hb dX12_gcd_1 hl (by decide) rfl (fun ls hl => ?_)
  refine lv_lload_n hx hb dX12_gcd_3 rfl (lv_at hl 2 rfl) ?_
  have B6 : ∀ (n6 : Nat) (y4 : Int64) (y6 : Int64) (H : Heap) (locs : List Loc) (ls : Array Slot), va_P D vwCl (Wd0) H → va_D A (Wd0) → va_S A s.heap H locs → lv_has ls 10 [(4, .long y4), (6, .long y6)] → S_MD_gcd_L6 n6 y4 y6 = some o → W p l e rm_X12_gcd s m ([.long x0, .long x2] : List Value).toArray below meth c H locs 0 0 Q (F0 m 6 ls []) := by
    intro n6
    induction n6 with
    | zero => intro y4 y6 H locs ls hP hD hS hl h; exact absurd h (by simp [S_MD_gcd_L6])
    | succ n6 ih6 =>
      intro y4 y6 H locs ls hP hD hS hl h
      rw [S_MD_gcd_L6] at h
      refine lv_lload hx hb dX12_gcd_6 (lv_at hl 1 rfl) ?_
      refine lv_lconst (v := 0) hx hb dX12_gcd_8 (by decide) ?_
      refine W.lcmp hx hb dX12_gcd_9 ?_
      refine lv_if_eq (tgt := 31) hx hb dX12_gcd_10 (by decide) (fun c10 => ?_) (fun c10 => ?_)
      · have h := k_pos c10 h
        refine lv_lload hx hb dX12_gcd_31 (lv_at hl 0 rfl) ?_
        cases h
        exact hret _ _ _ _ hP hS dX12_gcd_33
      · have h := k_neg c10 h
        refine lv_lload hx hb dX12_gcd_13 (lv_at hl 0 rfl) ?_
        refine lv_lload hx hb dX12_gcd_15 (lv_at hl 1 rfl) ?_
        obtain ⟨g17, h⟩ := k_guard h
        refine lv_lrem hx hb dX12_gcd_17 g17 ?_
        refine lv_lstore (lv' := [(8, .long (y4 - y4 / y6 * y6)), (4, .long y4), (6, .long y6)]) hx hb dX12_gcd_18 hl (by decide) rfl (fun ls hl => ?_)
        refine lv_lload hx hb dX12_gcd_20 (lv_at hl 2 rfl) ?_
        refine lv_lstore (lv' := [(4, .long y6), (8, .long (y4 - y4 / y6 * y6)), (6, .long y6)]) hx hb dX12_gcd_22 hl (by decide) rfl (fun ls hl => ?_)
        refine lv_lload hx hb dX12_gcd_24 (lv_at hl 1 rfl) ?_
        refine lv_lstore (lv' := [(6, .long (y4 - y4 / y6 * y6)), (4, .long y6), (8, .long (y4 - y4 / y6 * y6))]) hx hb dX12_gcd_26 hl (by decide) rfl (fun ls hl => ?_)
        refine lv_goto (tgt := 6) hx hb dX12_gcd_28 (by decide) ?_
        exact ih6 y6 (y4 - y4 / y6 * y6) H locs ls hP hD hS (lv_sub hl [1, 0] rfl) h
  refine lv_lstore (lv' := [(6, .long x2), (4, .long x0), (0, .long x0), (2, .long x2)]) hx hb dX12_gcd_4 hl (by decide) rfl (fun ls hl => ?_)
  exact B6 lfu x0 x2 s.heap [] ls hP hD hS (lv_sub hl [1, 0] rfl) h
theorem kdS_X12_gcd : yX12_gcd.cls ≠ "java/lang/invoke/MethodHandle" ∧ yX12_gcd.cls ≠ "java/lang/invoke/VarHandle" ∧ (parseMethodDescriptor yX12_gcd.desc).map (fun d => d.parameters.length) = some 2 := by decide +kernel
abbrev rm_X12_partOf : Room := { frames := 1, cells := 0, slots := 0, locals := 29 }
set_option maxHeartbeats 4000000 in
set_option maxRecDepth 100000 in
theorem c_MD_partOf (l : Launch) (D : va_G) (cI cM cS cJ : ClassId) (sz : Nat) (x0 : Int64) (x2 : Int64) (x4 : Int32) {o : (Int64)} (hsem : S_MD_partOf x0 x2 x4 = some o) : kMet l yX12_partOf wsX12_partOf rm_X12_partOf [.long x0, .long x2, .int x4] D (kT cI cM cS cJ) (Wd0) sz (some (.long o)) (Wd0) := by
  refine k_metJ (by decide) rfl rfl (Nat.le_of_ble_eq_true rfl) ?_
  intro p e s m below meth c ls Q A hx hb hml hts hown hK hN hA hP hD hS hl hsz hnm hret
  have hown : s.vm.findClass RX12 = some m.cls := hown
  replace hl : lv_has ls 5 [(0, .long x0), (2, .long x2), (4, .int x4)] := hl
  have h := hsem
  clear hsem
  rw [S_MD_partOf] at h
  refine lv_lload_n hx hb dX12_partOf_0 rfl (lv_at hl 0 rfl) ?_
  refine lv_lconst (v := 0) hx hb dX12_partOf_1 (by decide) ?_
  refine W.lcmp hx hb dX12_partOf_2 ?_
  refine lv_if_ne (tgt := 10) hx hb dX12_partOf_3 (by decide) (fun c3 => ?_) (fun c3 => ?_)
  · have h := k_neg c3 h
    refine lv_iload hx hb dX12_partOf_10 (lv_at hl 2 rfl) ?_
    refine lv_if_ne (tgt := 19) hx hb dX12_partOf_12 (by decide) (fun c12 => ?_) (fun c12 => ?_)
    · have h := k_neg c12 h
      refine lv_lload_n hx hb dX12_partOf_19 rfl (lv_at hl 1 rfl) ?_
      refine lv_lload_n hx hb dX12_partOf_20 rfl (lv_at hl 0 rfl) ?_
      refine lv_lload_n hx hb dX12_partOf_21 rfl (lv_at hl 1 rfl) ?_
      obtain ⟨r22, g22, h⟩ := k_bind h
      refine k_callS (As := [.long x0, .long x2]) (rest := [.long x2]) (st1 := [.long r22, .long x2]) (ws2 := (Wd0)) hx hb hml hown hts hK hN hA hP hD hS hl (c_MD_gcd l D cI cM cS cJ s.heap.size x0 x2 g22) gX12_partOf_X12_gcd rfl kdS_X12_gcd [] ⟨rfl, rfl⟩ ⟨Nat.le_of_ble_eq_true rfl, Nat.le_of_ble_eq_true rfl⟩ ⟨Nat.zero_le _, Nat.zero_le _⟩ rfl rfl (by decide +kernel) rfl rfl rfl (Nat.le_of_ble_eq_true rfl) dX12_partOf_22 rfl (fun H locs hP hD hS => ?_)
      obtain ⟨g25, h⟩ := k_guard h
      refine lv_ldiv hx hb dX12_partOf_25 g25 ?_
      cases h
      exact hret _ _ _ _ hP hS dX12_partOf_26
    · have h := k_pos c12 h
      refine lv_lload_n hx hb dX12_partOf_15 rfl (lv_at hl 0 rfl) ?_
      refine lv_goto (tgt := 20) hx hb dX12_partOf_16 (by decide) ?_
      refine lv_lload_n hx hb dX12_partOf_20 rfl (lv_at hl 0 rfl) ?_
      refine lv_lload_n hx hb dX12_partOf_21 rfl (lv_at hl 1 rfl) ?_
      obtain ⟨r22, g22, h⟩ := k_bind h
      refine k_callS (As := [.long x0, .long x2]) (rest := [.long x0]) (st1 := [.long r22, .long x0]) (ws2 := (Wd0)) hx hb hml hown hts hK hN hA hP hD hS hl (c_MD_gcd l D cI cM cS cJ s.heap.size x0 x2 g22) gX12_partOf_X12_gcd rfl kdS_X12_gcd [] ⟨rfl, rfl⟩ ⟨Nat.le_of_ble_eq_true rfl, Nat.le_of_ble_eq_true rfl⟩ ⟨Nat.zero_le _, Nat.zero_le _⟩ rfl rfl (by decide +kernel) rfl rfl rfl (Nat.le_of_ble_eq_true rfl) dX12_partOf_22 rfl (fun H locs hP hD hS => ?_)
      obtain ⟨g25, h⟩ := k_guard h
      refine lv_ldiv hx hb dX12_partOf_25 g25 ?_
      cases h
      exact hret _ _ _ _ hP hS dX12_partOf_26
  · have h := k_pos c3 h
    refine lv_iload hx hb dX12_partOf_6 (lv_at hl 2 rfl) ?_
    refine lv_i2l (v := (x4 : Int32).toInt64) hx hb dX12_partOf_8 rfl ?_
    cases h
    exact hret _ _ _ _ hP hS dX12_partOf_9
theorem kdS_X12_partOf : yX12_partOf.cls ≠ "java/lang/invoke/MethodHandle" ∧ yX12_partOf.cls ≠ "java/lang/invoke/VarHandle" ∧ (parseMethodDescriptor yX12_partOf.desc).map (fun d => d.parameters.length) = some 3 := by decide +kernel
abbrev rm_X12_shocks : Room := { frames := 4, cells := 0, slots := 0, locals := 90 }
set_option maxHeartbeats 4000000 in
set_option maxRecDepth 100000 in
theorem c_MD_shocks (l : Launch) (D : va_G) (cI cM cS cJ : ClassId) (aR : Nat → Nat) (sz : Nat) (x1 : Int32) (x2 : Int32) (x3 : Int32) (x4 : Int32) (q_hasImage : Int32) (q_place : Int32) (q_rowAt : Int32) (q_rowEnd : Int32) (q_seed : Int32) (q_thrown : Int32) (q_s : Nat → Int32) (q_m : Nat → Int32) {o : (Int64) × (Nat → Int32)} (hsem : S_MD_shocks x1 x2 x3 x4 q_s q_m = some o) : kMet l yX12_shocks wsX12_shocks rm_X12_shocks [.ref (aR 0), .int x1, .int x2, .int x3, .int x4] D (kT cI cM cS cJ) (Wd49 cI aR q_hasImage q_place q_rowAt q_rowEnd q_seed q_thrown q_s q_m) sz (some (.long o.1)) (Wd49 cI aR q_hasImage q_place q_rowAt q_rowEnd q_seed q_thrown q_s o.2) := by
  refine k_metJ (by decide) rfl rfl (Nat.le_of_ble_eq_true rfl) ?_
  intro p e s m below meth c ls Q A hx hb hml hts hown hK hN hA hP hD hS hl hsz hnm hret
  have hown : s.vm.findClass RX12 = some m.cls := hown
  have hf9 := hts (.fieldLink RX12 9 "PlumbLineModel" "s" "[I") (List.mem_of_getElem? (i := 2) rfl)
  have hf13 := hts (.fieldLink RX12 13 "PlumbLineModel" "m" "[I") (List.mem_of_getElem? (i := 3) rfl)
  have hiX12 : ∀ w ∈ u_ws RX12 TX12 18, w ∈ wsX12_shocks := fun w h => List.mem_cons_of_mem _ (List.mem_append_right _ h)
  replace hl : lv_has ls 13 [(0, .ref (aR 0)), (1, .int x1), (2, .int x2), (3, .int x3), (4, .int x4)] := hl
  have h := hsem
  clear hsem
  rw [S_MD_shocks] at h
  refine lv_aload_n hx hb dX12_shocks_0 rfl (lv_at hl 0 rfl) ?_
  refine lv_iload_n hx hb dX12_shocks_1 rfl (lv_at hl 1 rfl) ?_
  obtain ⟨r2, g2, h⟩ := k_bind h
  refine k_callV (As := [.int x1]) (rest := []) (st1 := [.int r2]) (ws2 := (Wd49 cI aR q_hasImage q_place q_rowAt q_rowEnd q_seed q_thrown q_s q_m)) hx hb hml hown hts hK hN hA hP hD hS hl (c_MD_isMan l D cI cM cS cJ aR s.heap.size x1 q_hasImage q_place q_rowAt q_rowEnd q_seed q_thrown q_s g2) gX12_shocks_X12_isMan rfl kdV_X12_isMan 0 12 rfl rfl rfl [0, 1] ⟨rfl, rfl⟩ ⟨Nat.le_of_ble_eq_true rfl, Nat.le_of_ble_eq_true rfl⟩ ⟨Nat.zero_le _, Nat.zero_le _⟩ rfl rfl (by decide +kernel) rfl rfl rfl (Nat.le_of_ble_eq_true rfl) dX12_shocks_2 rfl (fun H locs hP hD hS => ?_)
  refine lv_if_eq (tgt := 38) hx hb dX12_shocks_5 (by decide) (fun c5 => ?_) (fun c5 => ?_)
  · have h := k_pos c5 h
    refine lv_ldc2 (v := 1000000001) hx hb hown (hts (.constantLong RX12 223 1000000001) (List.mem_of_getElem? (i := 1) rfl)) dX12_shocks_38 ?_
    cases h
    exact hret _ _ _ _ hP hS dX12_shocks_41
  · have h := k_neg c5 h
    refine lv_iload_n hx hb dX12_shocks_8 rfl (lv_at hl 2 rfl) ?_
    refine lv_iconst (v := 0) hx hb dX12_shocks_9 (by decide) ?_
    refine lv_bipush (v := 7) hx hb dX12_shocks_10 (by decide) ?_
    refine k_callS (As := [.int x2, .int 0, .int 7]) (rest := []) (st1 := [.int (S_MD_isIn x2 0 7)]) (ws2 := (Wd49 cI aR q_hasImage q_place q_rowAt q_rowEnd q_seed q_thrown q_s q_m)) hx hb hml hown hts hK hN hA hP hD hS hl (c_MD_isIn l D cI cM cS cJ H.size x2 0 7 rfl) gX12_shocks_X12_isIn rfl kdS_X12_isIn [] ⟨rfl, rfl⟩ ⟨Nat.le_of_ble_eq_true rfl, Nat.le_of_ble_eq_true rfl⟩ ⟨Nat.zero_le _, Nat.zero_le _⟩ rfl rfl (by decide +kernel) rfl rfl rfl (Nat.le_of_ble_eq_true rfl) dX12_shocks_12 rfl (fun H locs hP hD hS => ?_)
    refine lv_if_eq (tgt := 38) hx hb dX12_shocks_15 (by decide) (fun c15 => ?_) (fun c15 => ?_)
    · have h := k_pos c15 h
      refine lv_ldc2 (v := 1000000001) hx hb hown (hts (.constantLong RX12 223 1000000001) (List.mem_of_getElem? (i := 1) rfl)) dX12_shocks_38 ?_
      cases h
      exact hret _ _ _ _ hP hS dX12_shocks_41
    · have h := k_neg c15 h
      refine lv_iload_n hx hb dX12_shocks_18 rfl (lv_at hl 3 rfl) ?_
      refine lv_iconst (v := 2) hx hb dX12_shocks_19 (by decide) ?_
      refine lv_bipush (v := 20) hx hb dX12_shocks_20 (by decide) ?_
      refine k_callS (As := [.int x3, .int 2, .int 20]) (rest := []) (st1 := [.int (S_MD_isIn x3 2 20)]) (ws2 := (Wd49 cI aR q_hasImage q_place q_rowAt q_rowEnd q_seed q_thrown q_s q_m)) hx hb hml hown hts hK hN hA hP hD hS hl (c_MD_isIn l D cI cM cS cJ H.size x3 2 20 rfl) gX12_shocks_X12_isIn rfl kdS_X12_isIn [] ⟨rfl, rfl⟩ ⟨Nat.le_of_ble_eq_true rfl, Nat.le_of_ble_eq_true rfl⟩ ⟨Nat.zero_le _, Nat.zero_le _⟩ rfl rfl (by decide +kernel) rfl rfl rfl (Nat.le_of_ble_eq_true rfl) dX12_shocks_22 rfl (fun H locs hP hD hS => ?_)
      refine lv_if_eq (tgt := 38) hx hb dX12_shocks_25 (by decide) (fun c25 => ?_) (fun c25 => ?_)
      · have h := k_pos c25 h
        refine lv_ldc2 (v := 1000000001) hx hb hown (hts (.constantLong RX12 223 1000000001) (List.mem_of_getElem? (i := 1) rfl)) dX12_shocks_38 ?_
        cases h
        exact hret _ _ _ _ hP hS dX12_shocks_41
      · have h := k_neg c25 h
        refine lv_iload hx hb dX12_shocks_28 (lv_at hl 4 rfl) ?_
        refine lv_iconst (v := 0) hx hb dX12_shocks_30 (by decide) ?_
        refine lv_iconst (v := 1) hx hb dX12_shocks_31 (by decide) ?_
        refine k_callS (As := [.int x4, .int 0, .int 1]) (rest := []) (st1 := [.int (S_MD_isIn x4 0 1)]) (ws2 := (Wd49 cI aR q_hasImage q_place q_rowAt q_rowEnd q_seed q_thrown q_s q_m)) hx hb hml hown hts hK hN hA hP hD hS hl (c_MD_isIn l D cI cM cS cJ H.size x4 0 1 rfl) gX12_shocks_X12_isIn rfl kdS_X12_isIn [] ⟨rfl, rfl⟩ ⟨Nat.le_of_ble_eq_true rfl, Nat.le_of_ble_eq_true rfl⟩ ⟨Nat.zero_le _, Nat.zero_le _⟩ rfl rfl (by decide +kernel) rfl rfl rfl (Nat.le_of_ble_eq_true rfl) dX12_shocks_32 rfl (fun H locs hP hD hS => ?_)
        refine lv_if_ne (tgt := 42) hx hb dX12_shocks_35 (by decide) (fun c35 => ?_) (fun c35 => ?_)
        · have h := k_neg c35 h
          refine lv_lconst (v := 0) hx hb dX12_shocks_42 (by decide) ?_
          refine lv_lstore (lv' := [(5, .long 0), (0, .ref (aR 0)), (1, .int x1), (2, .int x2), (3, .int x3), (4, .int x4)]) hx hb dX12_shocks_43 hl (by decide) rfl (fun ls hl => ?_)
          refine lv_lconst (v := 1) hx hb dX12_shocks_45 (by decide) ?_
          refine lv_lstore (lv' := [(7, .long 1), (5, .long 0), (0, .ref (aR 0)), (1, .int x1), (2, .int x2), (3, .int x3), (4, .int x4)]) hx hb dX12_shocks_46 hl (by decide) rfl (fun ls hl => ?_)
          refine lv_iconst (v := 0) hx hb dX12_shocks_48 (by decide) ?_
          have B51 : ∀ (y5 : Int64) (q_m : Nat → Int32) (n51 : Nat) (y7 : Int64) (y9 : Int32) (H : Heap) (locs : List Loc) (ls : Array Slot), va_P D vwCl (Wd49 cI aR q_hasImage q_place q_rowAt q_rowEnd q_seed q_thrown q_s q_m) H → va_D A (Wd49 cI aR q_hasImage q_place q_rowAt q_rowEnd q_seed q_thrown q_s q_m) → va_S A s.heap H locs → lv_has ls 13 [(0, .ref (aR 0)), (1, .int x1), (2, .int x2), (3, .int x3), (4, .int x4), (5, .long y5), (7, .long y7), (9, .int y9)] → S_MD_shocks_L51 x1 x2 x3 x4 y5 q_s q_m n51 y7 y9 = some o → W p l e rm_X12_shocks s m ([.ref (aR 0), .int x1, .int x2, .int x3, .int x4] : List Value).toArray below meth c H locs 0 0 Q (F0 m 51 ls []) := by
            intro y5 q_m
            intro n51
            induction n51 with
            | zero => intro y7 y9 H locs ls hP hD hS hl h; exact absurd h (by simp [S_MD_shocks_L51])
            | succ n51 ih51 =>
              intro y7 y9 H locs ls hP hD hS hl h
              rw [S_MD_shocks_L51] at h
              refine lv_iload hx hb dX12_shocks_51 (lv_at hl 7 rfl) ?_
              refine lv_iload_n hx hb dX12_shocks_53 rfl (lv_at hl 2 rfl) ?_
              refine lv_icmp_ge (tgt := 70) hx hb dX12_shocks_54 (by decide) (fun c54 => ?_) (fun c54 => ?_)
              · have h := k_pos c54 h
                refine lv_iconst (v := 0) hx hb dX12_shocks_70 (by decide) ?_
                have B73 : ∀ (y7 : Int64) (n73 : Nat) (y5 : Int64) (y9 : Int32) (q_m : Nat → Int32) (H : Heap) (locs : List Loc) (ls : Array Slot), va_P D vwCl (Wd49 cI aR q_hasImage q_place q_rowAt q_rowEnd q_seed q_thrown q_s q_m) H → va_D A (Wd49 cI aR q_hasImage q_place q_rowAt q_rowEnd q_seed q_thrown q_s q_m) → va_S A s.heap H locs → lv_has ls 13 [(0, .ref (aR 0)), (1, .int x1), (2, .int x2), (3, .int x3), (4, .int x4), (5, .long y5), (7, .long y7), (9, .int y9)] → S_MD_shocks_L73 x1 x2 x3 x4 y7 q_s n73 y5 y9 q_m = some o → W p l e rm_X12_shocks s m ([.ref (aR 0), .int x1, .int x2, .int x3, .int x4] : List Value).toArray below meth c H locs 0 0 Q (F0 m 73 ls []) := by
                  intro y7
                  intro n73
                  induction n73 with
                  | zero => intro y5 y9 q_m H locs ls hP hD hS hl h; exact absurd h (by simp [S_MD_shocks_L73])
                  | succ n73 ih73 =>
                    intro y5 y9 q_m H locs ls hP hD hS hl h
                    rw [S_MD_shocks_L73] at h
                    refine lv_iload hx hb dX12_shocks_73 (lv_at hl 7 rfl) ?_
                    refine lv_iconst (v := 1) hx hb dX12_shocks_75 (by decide) ?_
                    refine lv_iload_n hx hb dX12_shocks_76 rfl (lv_at hl 2 rfl) ?_
                    refine lv_ishl hx hb dX12_shocks_77 ?_
                    refine lv_icmp_ge (tgt := 188) hx hb dX12_shocks_78 (by decide) (fun c78 => ?_) (fun c78 => ?_)
                    · have h := k_pos c78 h
                      refine lv_lload hx hb dX12_shocks_188 (lv_at hl 5 rfl) ?_
                      refine lv_lload hx hb dX12_shocks_190 (lv_at hl 6 rfl) ?_
                      refine lv_iload hx hb dX12_shocks_192 (lv_at hl 4 rfl) ?_
                      obtain ⟨r194, g194, h⟩ := k_bind h
                      refine k_callS (As := [.long y5, .long y7, .int x4]) (rest := []) (st1 := [.long r194]) (ws2 := (Wd49 cI aR q_hasImage q_place q_rowAt q_rowEnd q_seed q_thrown q_s q_m)) hx hb hml hown hts hK hN hA hP hD hS hl (c_MD_partOf l D cI cM cS cJ H.size y5 y7 x4 g194) gX12_shocks_X12_partOf rfl kdS_X12_partOf [] ⟨rfl, rfl⟩ ⟨Nat.le_of_ble_eq_true rfl, Nat.le_of_ble_eq_true rfl⟩ ⟨Nat.zero_le _, Nat.zero_le _⟩ rfl rfl (by decide +kernel) rfl rfl rfl (Nat.le_of_ble_eq_true rfl) dX12_shocks_194 rfl (fun H locs hP hD hS => ?_)
                      cases h
                      exact hret _ _ _ _ hP hS dX12_shocks_197
                    · have h := k_neg c78 h
                      refine lv_lconst (v := 1) hx hb dX12_shocks_81 (by decide) ?_
                      refine lv_lstore (lv' := [(10, .long 1), (0, .ref (aR 0)), (1, .int x1), (2, .int x2), (3, .int x3), (4, .int x4), (5, .long y5), (7, .long y7), (9, .int y9)]) hx hb dX12_shocks_82 hl (by decide) rfl (fun ls hl => ?_)
                      refine lv_aload_n hx hb dX12_shocks_84 rfl (lv_at hl 1 rfl) ?_
                      refine va_get (D := D) (ci := 12) (v := .ref (aR 1)) (C := RX12) (T := TX12) (N := 18) hx hb hts hiX12 hown hK hP 0 rfl rfl 0 (by decide) hf9 (fun _ z => z) rfl dX12_shocks_85 ?_
                      refine lv_aload_n hx hb dX12_shocks_88 rfl (lv_at hl 1 rfl) ?_
                      refine va_get (D := D) (ci := 12) (v := .ref (aR 2)) (C := RX12) (T := TX12) (N := 18) hx hb hts hiX12 hown hK hP 0 rfl rfl 1 (by decide) hf13 (fun _ z => z) rfl dX12_shocks_89 ?_
                      obtain ⟨r92, g92, h⟩ := k_bind h
                      refine k_callS (As := [.ref (aR 1), .ref (aR 2)]) (rest := []) (st1 := []) (ws2 := (Wd49 cI aR q_hasImage q_place q_rowAt q_rowEnd q_seed q_thrown q_s r92)) hx hb hml hown hts hK hN hA hP hD hS hl (c_MD_copies l D cI cM cS cJ (aR 1) (aR 2) H.size q_s q_m g92) gX12_shocks_X12_copies rfl kdS_X12_copies [1, 2] ⟨rfl, rfl⟩ ⟨Nat.le_of_ble_eq_true rfl, Nat.le_of_ble_eq_true rfl⟩ ⟨Nat.zero_le _, Nat.zero_le _⟩ rfl rfl (by decide +kernel) rfl rfl rfl (Nat.le_of_ble_eq_true rfl) dX12_shocks_92 rfl (fun H locs hP hD hS => ?_)
                      refine lv_iconst (v := 0) hx hb dX12_shocks_95 (by decide) ?_
                      have B98 : ∀ (y5 : Int64) (y7 : Int64) (y9 : Int32) (n98 : Nat) (y10 : Int64) (y12 : Int32) (q_m : Nat → Int32) (H : Heap) (locs : List Loc) (ls : Array Slot), va_P D vwCl (Wd49 cI aR q_hasImage q_place q_rowAt q_rowEnd q_seed q_thrown q_s q_m) H → va_D A (Wd49 cI aR q_hasImage q_place q_rowAt q_rowEnd q_seed q_thrown q_s q_m) → va_S A s.heap H locs → lv_has ls 13 [(0, .ref (aR 0)), (1, .int x1), (2, .int x2), (3, .int x3), (4, .int x4), (5, .long y5), (7, .long y7), (9, .int y9), (10, .long y10), (12, .int y12)] → S_MD_shocks_L98 (S_MD_shocks_L73 x1 x2 x3 x4 y7 q_s n73) x1 x2 x3 y5 y9 n98 y10 y12 q_m = some o → W p l e rm_X12_shocks s m ([.ref (aR 0), .int x1, .int x2, .int x3, .int x4] : List Value).toArray below meth c H locs 0 0 Q (F0 m 98 ls []) := by
                        intro y5 y7 y9
                        intro n98
                        induction n98 with
                        | zero => intro y10 y12 q_m H locs ls hP hD hS hl h; exact absurd h (by simp [S_MD_shocks_L98])
                        | succ n98 ih98 =>
                          intro y10 y12 q_m H locs ls hP hD hS hl h
                          rw [S_MD_shocks_L98] at h
                          refine lv_iload hx hb dX12_shocks_98 (lv_at hl 9 rfl) ?_
                          refine lv_iload_n hx hb dX12_shocks_100 rfl (lv_at hl 2 rfl) ?_
                          refine lv_icmp_ge (tgt := 157) hx hb dX12_shocks_101 (by decide) (fun c101 => ?_) (fun c101 => ?_)
                          · have h := k_pos c101 h
                            refine lv_lload hx hb dX12_shocks_157 (lv_at hl 5 rfl) ?_
                            refine lv_aload_n hx hb dX12_shocks_159 rfl (lv_at hl 0 rfl) ?_
                            refine va_get (D := D) (ci := 12) (v := .ref (aR 2)) (C := RX12) (T := TX12) (N := 18) hx hb hts hiX12 hown hK hP 0 rfl rfl 1 (by decide) hf13 (fun _ z => z) rfl dX12_shocks_160 ?_
                            obtain ⟨r163, g163, h⟩ := k_bind h
                            refine k_callS (As := [.ref (aR 2)]) (rest := [.long y5]) (st1 := [.int r163, .long y5]) (ws2 := (Wd49 cI aR q_hasImage q_place q_rowAt q_rowEnd q_seed q_thrown q_s q_m)) hx hb hml hown hts hK hN hA hP hD hS hl (c_MD_upright l D cI cM cS cJ (aR 2) H.size q_m g163) gX12_shocks_X12_upright rfl kdS_X12_upright [2] ⟨rfl, rfl⟩ ⟨Nat.le_of_ble_eq_true rfl, Nat.le_of_ble_eq_true rfl⟩ ⟨Nat.zero_le _, Nat.zero_le _⟩ rfl rfl (by decide +kernel) rfl rfl rfl (Nat.le_of_ble_eq_true rfl) dX12_shocks_163 rfl (fun H locs hP hD hS => ?_)
                            refine lv_iload_n hx hb dX12_shocks_166 rfl (lv_at hl 1 rfl) ?_
                            refine k_callS (As := [.int r163, .int x1]) (rest := [.long y5]) (st1 := [.int (S_MD_has r163 x1), .long y5]) (ws2 := (Wd49 cI aR q_hasImage q_place q_rowAt q_rowEnd q_seed q_thrown q_s q_m)) hx hb hml hown hts hK hN hA hP hD hS hl (c_MD_has l D cI cM cS cJ H.size r163 x1 rfl) gX12_shocks_X12_has rfl kdS_X12_has [] ⟨rfl, rfl⟩ ⟨Nat.le_of_ble_eq_true rfl, Nat.le_of_ble_eq_true rfl⟩ ⟨Nat.zero_le _, Nat.zero_le _⟩ rfl rfl (by decide +kernel) rfl rfl rfl (Nat.le_of_ble_eq_true rfl) dX12_shocks_167 rfl (fun H locs hP hD hS => ?_)
                            refine lv_if_eq (tgt := 178) hx hb dX12_shocks_170 (by decide) (fun c170 => ?_) (fun c170 => ?_)
                            · have h := k_pos c170 h
                              refine lv_lconst (v := 0) hx hb dX12_shocks_178 (by decide) ?_
                              refine lv_ladd hx hb dX12_shocks_179 ?_
                              refine lv_lstore (lv' := [(5, .long (y5 + 0)), (0, .ref (aR 0)), (1, .int x1), (2, .int x2), (3, .int x3), (4, .int x4), (7, .long y7), (9, .int y9), (10, .long y10), (12, .int y12)]) hx hb dX12_shocks_180 hl (by decide) rfl (fun ls hl => ?_)
                              refine lv_iinc (v := (y9 + 1)) (lv' := [(9, .int (y9 + 1)), (5, .long (y5 + 0)), (0, .ref (aR 0)), (1, .int x1), (2, .int x2), (3, .int x3), (4, .int x4), (7, .long y7), (10, .long y10), (12, .int y12)]) hx hb dX12_shocks_182 hl (k := 7) rfl (by first | rfl | decide) (by decide) rfl (fun ls hl => ?_)
                              refine lv_goto (tgt := 73) hx hb dX12_shocks_185 (by decide) ?_
                              exact ih73 (y5 + 0) (y9 + 1) q_m H locs ls hP hD hS (lv_sub hl [2, 3, 4, 5, 6, 1, 7, 0] rfl) h
                            · have h := k_neg c170 h
                              refine lv_lload hx hb dX12_shocks_173 (lv_at hl 8 rfl) ?_
                              refine lv_goto (tgt := 179) hx hb dX12_shocks_175 (by decide) ?_
                              refine lv_ladd hx hb dX12_shocks_179 ?_
                              refine lv_lstore (lv' := [(5, .long (y5 + y10)), (0, .ref (aR 0)), (1, .int x1), (2, .int x2), (3, .int x3), (4, .int x4), (7, .long y7), (9, .int y9), (10, .long y10), (12, .int y12)]) hx hb dX12_shocks_180 hl (by decide) rfl (fun ls hl => ?_)
                              refine lv_iinc (v := (y9 + 1)) (lv' := [(9, .int (y9 + 1)), (5, .long (y5 + y10)), (0, .ref (aR 0)), (1, .int x1), (2, .int x2), (3, .int x3), (4, .int x4), (7, .long y7), (10, .long y10), (12, .int y12)]) hx hb dX12_shocks_182 hl (k := 7) rfl (by first | rfl | decide) (by decide) rfl (fun ls hl => ?_)
                              refine lv_goto (tgt := 73) hx hb dX12_shocks_185 (by decide) ?_
                              exact ih73 (y5 + y10) (y9 + 1) q_m H locs ls hP hD hS (lv_sub hl [2, 3, 4, 5, 6, 1, 7, 0] rfl) h
                          · have h := k_neg c101 h
                            refine lv_lload hx hb dX12_shocks_104 (lv_at hl 8 rfl) ?_
                            refine lv_iload hx hb dX12_shocks_106 (lv_at hl 7 rfl) ?_
                            refine lv_iload hx hb dX12_shocks_108 (lv_at hl 9 rfl) ?_
                            refine k_callS (As := [.int y9, .int y12]) (rest := [.long y10]) (st1 := [.int (S_MD_has y9 y12), .long y10]) (ws2 := (Wd49 cI aR q_hasImage q_place q_rowAt q_rowEnd q_seed q_thrown q_s q_m)) hx hb hml hown hts hK hN hA hP hD hS hl (c_MD_has l D cI cM cS cJ H.size y9 y12 rfl) gX12_shocks_X12_has rfl kdS_X12_has [] ⟨rfl, rfl⟩ ⟨Nat.le_of_ble_eq_true rfl, Nat.le_of_ble_eq_true rfl⟩ ⟨Nat.zero_le _, Nat.zero_le _⟩ rfl rfl (by decide +kernel) rfl rfl rfl (Nat.le_of_ble_eq_true rfl) dX12_shocks_110 rfl (fun H locs hP hD hS => ?_)
                            have B124 : ∀ (y5 : Int64) (y7 : Int64) (y9 : Int32) (y12 : Int32) (v0 : Int64) (v1 : Int64) (q_m : Nat → Int32) (H : Heap) (locs : List Loc) (ls : Array Slot), va_P D vwCl (Wd49 cI aR q_hasImage q_place q_rowAt q_rowEnd q_seed q_thrown q_s q_m) H → va_D A (Wd49 cI aR q_hasImage q_place q_rowAt q_rowEnd q_seed q_thrown q_s q_m) → va_S A s.heap H locs → lv_has ls 13 [(0, .ref (aR 0)), (1, .int x1), (2, .int x2), (3, .int x3), (4, .int x4), (5, .long y5), (7, .long y7), (9, .int y9), (12, .int y12)] → S_MD_shocks_J124 (S_MD_shocks_L98 (S_MD_shocks_L73 x1 x2 x3 x4 y7 q_s n73) x1 x2 x3 y5 y9 n98) y9 y12 v0 v1 q_m = some o → W p l e rm_X12_shocks s m ([.ref (aR 0), .int x1, .int x2, .int x3, .int x4] : List Value).toArray below meth c H locs 0 0 Q (F0 m 124 ls [.long v1, .long v0]) := by
                              intro y5 y7 y9 y12 v0 v1 q_m H locs ls hP hD hS hl h
                              rw [S_MD_shocks_J124] at h
                              refine lv_lmul hx hb dX12_shocks_124 ?_
                              refine lv_lstore (lv' := [(10, .long (v0 * v1)), (0, .ref (aR 0)), (1, .int x1), (2, .int x2), (3, .int x3), (4, .int x4), (5, .long y5), (7, .long y7), (9, .int y9), (12, .int y12)]) hx hb dX12_shocks_125 hl (by decide) rfl (fun ls hl => ?_)
                              refine lv_iload hx hb dX12_shocks_127 (lv_at hl 8 rfl) ?_
                              refine lv_iload hx hb dX12_shocks_129 (lv_at hl 9 rfl) ?_
                              refine k_callS (As := [.int y9, .int y12]) (rest := []) (st1 := [.int (S_MD_has y9 y12)]) (ws2 := (Wd49 cI aR q_hasImage q_place q_rowAt q_rowEnd q_seed q_thrown q_s q_m)) hx hb hml hown hts hK hN hA hP hD hS hl (c_MD_has l D cI cM cS cJ H.size y9 y12 rfl) gX12_shocks_X12_has rfl kdS_X12_has [] ⟨rfl, rfl⟩ ⟨Nat.le_of_ble_eq_true rfl, Nat.le_of_ble_eq_true rfl⟩ ⟨Nat.zero_le _, Nat.zero_le _⟩ rfl rfl (by decide +kernel) rfl rfl rfl (Nat.le_of_ble_eq_true rfl) dX12_shocks_131 rfl (fun H locs hP hD hS => ?_)
                              refine lv_if_eq (tgt := 144) hx hb dX12_shocks_134 (by decide) (fun c134 => ?_) (fun c134 => ?_)
                              · have h := k_pos c134 h
                                refine lv_aload_n hx hb dX12_shocks_144 rfl (lv_at hl 1 rfl) ?_
                                refine va_get (D := D) (ci := 12) (v := .ref (aR 2)) (C := RX12) (T := TX12) (N := 18) hx hb hts hiX12 hown hK hP 0 rfl rfl 1 (by decide) hf13 (fun _ z => z) rfl dX12_shocks_145 ?_
                                obtain ⟨r148, g148, h⟩ := k_bind h
                                refine k_callS (As := [.ref (aR 2)]) (rest := []) (st1 := []) (ws2 := (Wd49 cI aR q_hasImage q_place q_rowAt q_rowEnd q_seed q_thrown q_s r148)) hx hb hml hown hts hK hN hA hP hD hS hl (c_MD_day l D cI cM cS cJ (aR 2) H.size q_m g148) gX12_shocks_X12_day rfl kdS_X12_day [2] ⟨rfl, rfl⟩ ⟨Nat.le_of_ble_eq_true rfl, Nat.le_of_ble_eq_true rfl⟩ ⟨Nat.zero_le _, Nat.zero_le _⟩ rfl rfl (by decide +kernel) rfl rfl rfl (Nat.le_of_ble_eq_true rfl) dX12_shocks_148 rfl (fun H locs hP hD hS => ?_)
                                refine lv_iinc (v := (y12 + 1)) (lv' := [(12, .int (y12 + 1)), (10, .long (v0 * v1)), (0, .ref (aR 0)), (1, .int x1), (2, .int x2), (3, .int x3), (4, .int x4), (5, .long y5), (7, .long y7), (9, .int y9)]) hx hb dX12_shocks_151 hl (k := 9) rfl (by first | rfl | decide) (by decide) rfl (fun ls hl => ?_)
                                refine lv_goto (tgt := 98) hx hb dX12_shocks_154 (by decide) ?_
                                exact ih98 (v0 * v1) (y12 + 1) r148 H locs ls hP hD hS (lv_sub hl [2, 3, 4, 5, 6, 7, 8, 9, 1, 0] rfl) h
                              · have h := k_neg c134 h
                                refine lv_aload_n hx hb dX12_shocks_137 rfl (lv_at hl 1 rfl) ?_
                                refine va_get (D := D) (ci := 12) (v := .ref (aR 2)) (C := RX12) (T := TX12) (N := 18) hx hb hts hiX12 hown hK hP 0 rfl rfl 1 (by decide) hf13 (fun _ z => z) rfl dX12_shocks_138 ?_
                                obtain ⟨r141, g141, h⟩ := k_bind h
                                refine k_callS (As := [.ref (aR 2)]) (rest := []) (st1 := []) (ws2 := (Wd49 cI aR q_hasImage q_place q_rowAt q_rowEnd q_seed q_thrown q_s r141)) hx hb hml hown hts hK hN hA hP hD hS hl (c_MD_turnsRound l D cI cM cS cJ (aR 2) H.size q_m g141) gX12_shocks_X12_turnsRound rfl kdS_X12_turnsRound [2] ⟨rfl, rfl⟩ ⟨Nat.le_of_ble_eq_true rfl, Nat.le_of_ble_eq_true rfl⟩ ⟨Nat.zero_le _, Nat.zero_le _⟩ rfl rfl (by decide +kernel) rfl rfl rfl (Nat.le_of_ble_eq_true rfl) dX12_shocks_141 rfl (fun H locs hP hD hS => ?_)
                                refine lv_aload_n hx hb dX12_shocks_144 rfl (lv_at hl 1 rfl) ?_
                                refine va_get (D := D) (ci := 12) (v := .ref (aR 2)) (C := RX12) (T := TX12) (N := 18) hx hb hts hiX12 hown hK hP 0 rfl rfl 1 (by decide) hf13 (fun _ z => z) rfl dX12_shocks_145 ?_
                                obtain ⟨r148, g148, h⟩ := k_bind h
                                refine k_callS (As := [.ref (aR 2)]) (rest := []) (st1 := []) (ws2 := (Wd49 cI aR q_hasImage q_place q_rowAt q_rowEnd q_seed q_thrown q_s r148)) hx hb hml hown hts hK hN hA hP hD hS hl (c_MD_day l D cI cM cS cJ (aR 2) H.size r141 g148) gX12_shocks_X12_day rfl kdS_X12_day [2] ⟨rfl, rfl⟩ ⟨Nat.le_of_ble_eq_true rfl, Nat.le_of_ble_eq_true rfl⟩ ⟨Nat.zero_le _, Nat.zero_le _⟩ rfl rfl (by decide +kernel) rfl rfl rfl (Nat.le_of_ble_eq_true rfl) dX12_shocks_148 rfl (fun H locs hP hD hS => ?_)
                                refine lv_iinc (v := (y12 + 1)) (lv' := [(12, .int (y12 + 1)), (10, .long (v0 * v1)), (0, .ref (aR 0)), (1, .int x1), (2, .int x2), (3, .int x3), (4, .int x4), (5, .long y5), (7, .long y7), (9, .int y9)]) hx hb dX12_shocks_151 hl (k := 9) rfl (by first | rfl | decide) (by decide) rfl (fun ls hl => ?_)
                                refine lv_goto (tgt := 98) hx hb dX12_shocks_154 (by decide) ?_
                                exact ih98 (v0 * v1) (y12 + 1) r148 H locs ls hP hD hS (lv_sub hl [2, 3, 4, 5, 6, 7, 8, 9, 1, 0] rfl) h
                            refine lv_if_eq (tgt := 120) hx hb dX12_shocks_113 (by decide) (fun c113 => ?_) (fun c113 => ?_)
                            · have h := k_pos c113 h
                              refine lv_iload_n hx hb dX12_shocks_120 rfl (lv_at hl 3 rfl) ?_
                              refine lv_iconst (v := 1) hx hb dX12_shocks_121 (by decide) ?_
                              refine lv_isub hx hb dX12_shocks_122 ?_
                              refine lv_i2l (v := ((x3 - 1) : Int32).toInt64) hx hb dX12_shocks_123 rfl ?_
                              exact B124 y5 y7 y9 y12 y10 ((x3 - 1) : Int32).toInt64 q_m H locs ls hP hD hS (lv_sub hl [0, 1, 2, 3, 4, 5, 6, 7, 9] rfl) h
                            · have h := k_neg c113 h
                              refine lv_lconst (v := 1) hx hb dX12_shocks_116 (by decide) ?_
                              refine lv_goto (tgt := 124) hx hb dX12_shocks_117 (by decide) ?_
                              exact B124 y5 y7 y9 y12 y10 1 q_m H locs ls hP hD hS (lv_sub hl [0, 1, 2, 3, 4, 5, 6, 7, 9] rfl) h
                      refine lv_istore (lv' := [(12, .int 0), (10, .long 1), (0, .ref (aR 0)), (1, .int x1), (2, .int x2), (3, .int x3), (4, .int x4), (5, .long y5), (7, .long y7), (9, .int y9)]) hx hb dX12_shocks_96 hl (by decide) rfl (fun ls hl => ?_)
                      exact B98 y5 y7 y9 lfu 1 0 r92 H locs ls hP hD hS (lv_sub hl [2, 3, 4, 5, 6, 7, 8, 9, 1, 0] rfl) h
                refine lv_istore (lv' := [(9, .int 0), (0, .ref (aR 0)), (1, .int x1), (2, .int x2), (3, .int x3), (4, .int x4), (5, .long y5), (7, .long y7)]) hx hb dX12_shocks_71 hl (by decide) rfl (fun ls hl => ?_)
                exact B73 y7 lfu y5 0 q_m H locs ls hP hD hS (lv_sub hl [1, 2, 3, 4, 5, 6, 7, 0] rfl) h
              · have h := k_neg c54 h
                refine lv_lload hx hb dX12_shocks_57 (lv_at hl 6 rfl) ?_
                refine lv_iload_n hx hb dX12_shocks_59 rfl (lv_at hl 3 rfl) ?_
                refine lv_i2l (v := (x3 : Int32).toInt64) hx hb dX12_shocks_60 rfl ?_
                refine lv_lmul hx hb dX12_shocks_61 ?_
                refine lv_lstore (lv' := [(7, .long (y7 * (x3 : Int32).toInt64)), (0, .ref (aR 0)), (1, .int x1), (2, .int x2), (3, .int x3), (4, .int x4), (5, .long y5), (9, .int y9)]) hx hb dX12_shocks_62 hl (by decide) rfl (fun ls hl => ?_)
                refine lv_iinc (v := (y9 + 1)) (lv' := [(9, .int (y9 + 1)), (7, .long (y7 * (x3 : Int32).toInt64)), (0, .ref (aR 0)), (1, .int x1), (2, .int x2), (3, .int x3), (4, .int x4), (5, .long y5)]) hx hb dX12_shocks_64 hl (k := 7) rfl (by first | rfl | decide) (by decide) rfl (fun ls hl => ?_)
                refine lv_goto (tgt := 51) hx hb dX12_shocks_67 (by decide) ?_
                exact ih51 (y7 * (x3 : Int32).toInt64) (y9 + 1) H locs ls hP hD hS (lv_sub hl [2, 3, 4, 5, 6, 7, 1, 0] rfl) h
          refine lv_istore (lv' := [(9, .int 0), (7, .long 1), (5, .long 0), (0, .ref (aR 0)), (1, .int x1), (2, .int x2), (3, .int x3), (4, .int x4)]) hx hb dX12_shocks_49 hl (by decide) rfl (fun ls hl => ?_)
          exact B51 0 q_m lfu 1 0 H locs ls hP hD hS (lv_sub hl [3, 4, 5, 6, 7, 2, 1, 0] rfl) h
        · have h := k_pos c35 h
          refine lv_ldc2 (v := 1000000001) hx hb hown (hts (.constantLong RX12 223 1000000001) (List.mem_of_getElem? (i := 1) rfl)) dX12_shocks_38 ?_
          cases h
          exact hret _ _ _ _ hP hS dX12_shocks_41
abbrev rm_X12_mean : Room := { frames := 2, cells := 0, slots := 0, locals := 53 }
set_option maxHeartbeats 4000000 in
set_option maxRecDepth 100000 in
theorem c_MD_mean (l : Launch) (D : va_G) (cI cM cS cJ : ClassId) (aR : Nat → Nat) (sz : Nat) (x1 : Int32) (q_hasImage : Int32) (q_place : Int32) (q_rowAt : Int32) (q_rowEnd : Int32) (q_seed : Int32) (q_thrown : Int32) (q_s : Nat → Int32) {o : (Int64)} (hsem : S_MD_mean x1 q_s = some o) : kMet l yX12_mean wsX12_mean rm_X12_mean [.ref (aR 0), .int x1] D (kT cI cM cS cJ) (Wd40 cI aR q_hasImage q_place q_rowAt q_rowEnd q_seed q_thrown q_s) sz (some (.long o)) (Wd40 cI aR q_hasImage q_place q_rowAt q_rowEnd q_seed q_thrown q_s) := by
  refine k_metJ (by decide) rfl rfl (Nat.le_of_ble_eq_true rfl) ?_
  intro p e s m below meth c ls Q A hx hb hml hts hown hK hN hA hP hD hS hl hsz hnm hret
  have hown : s.vm.findClass RX12 = some m.cls := hown
  have hf9 := hts (.fieldLink RX12 9 "PlumbLineModel" "s" "[I") (List.mem_of_getElem? (i := 1) rfl)
  have hiX12 : ∀ w ∈ u_ws RX12 TX12 18, w ∈ wsX12_mean := fun w h => List.mem_cons_of_mem _ (List.mem_append_right _ h)
  replace hl : lv_has ls 2 [(0, .ref (aR 0)), (1, .int x1)] := hl
  have h := hsem
  clear hsem
  rw [S_MD_mean] at h
  refine lv_iload_n hx hb dX12_mean_0 rfl (lv_at hl 1 rfl) ?_
  refine lv_iconst (v := 0) hx hb dX12_mean_1 (by decide) ?_
  refine lv_iconst (v := 1) hx hb dX12_mean_2 (by decide) ?_
  refine k_callS (As := [.int x1, .int 0, .int 1]) (rest := []) (st1 := [.int (S_MD_isIn x1 0 1)]) (ws2 := (Wd40 cI aR q_hasImage q_place q_rowAt q_rowEnd q_seed q_thrown q_s)) hx hb hml hown hts hK hN hA hP hD hS hl (c_MD_isIn l D cI cM cS cJ s.heap.size x1 0 1 rfl) gX12_mean_X12_isIn rfl kdS_X12_isIn [] ⟨rfl, rfl⟩ ⟨Nat.le_of_ble_eq_true rfl, Nat.le_of_ble_eq_true rfl⟩ ⟨Nat.zero_le _, Nat.zero_le _⟩ rfl rfl (by decide +kernel) rfl rfl rfl (Nat.le_of_ble_eq_true rfl) dX12_mean_3 rfl (fun H locs hP hD hS => ?_)
  refine lv_if_eq (tgt := 41) hx hb dX12_mean_6 (by decide) (fun c6 => ?_) (fun c6 => ?_)
  · have h := k_pos c6 h
    refine lv_ldc2 (v := 1000000001) hx hb hown (hts (.constantLong RX12 223 1000000001) (List.mem_of_getElem? (i := 2) rfl)) dX12_mean_41 ?_
    cases h
    exact hret _ _ _ _ hP hS dX12_mean_44
  · have h := k_neg c6 h
    refine lv_aload_n hx hb dX12_mean_9 rfl (lv_at hl 0 rfl) ?_
    refine va_get (D := D) (ci := 12) (v := .ref (aR 1)) (C := RX12) (T := TX12) (N := 18) hx hb hts hiX12 hown hK hP 0 rfl rfl 0 (by decide) hf9 (fun _ z => z) rfl dX12_mean_10 ?_
    obtain ⟨r13, g13, h⟩ := k_bind h
    refine k_callS (As := [.ref (aR 1)]) (rest := []) (st1 := [.int r13]) (ws2 := (Wd40 cI aR q_hasImage q_place q_rowAt q_rowEnd q_seed q_thrown q_s)) hx hb hml hown hts hK hN hA hP hD hS hl (c_MD_leanSum l D cI cM cS cJ (aR 1) H.size q_s g13) gX12_mean_X12_leanSum rfl kdS_X12_leanSum [1] ⟨rfl, rfl⟩ ⟨Nat.le_of_ble_eq_true rfl, Nat.le_of_ble_eq_true rfl⟩ ⟨Nat.zero_le _, Nat.zero_le _⟩ rfl rfl (by decide +kernel) rfl rfl rfl (Nat.le_of_ble_eq_true rfl) dX12_mean_13 rfl (fun H locs hP hD hS => ?_)
    refine lv_bipush (v := 45) hx hb dX12_mean_16 (by decide) ?_
    refine lv_aload_n hx hb dX12_mean_18 rfl (lv_at hl 0 rfl) ?_
    refine va_get (D := D) (ci := 12) (v := .ref (aR 1)) (C := RX12) (T := TX12) (N := 18) hx hb hts hiX12 hown hK hP 0 rfl rfl 0 (by decide) hf9 (fun _ z => z) rfl dX12_mean_19 ?_
    refine lv_iconst (v := 0) hx hb dX12_mean_22 (by decide) ?_
    refine va_iald hx hb hK hP 1 0 rfl rfl (by decide) dX12_mean_23 ?_
    refine lv_imul hx hb dX12_mean_24 ?_
    refine lv_iadd hx hb dX12_mean_25 ?_
    refine lv_i2l (v := ((r13 + ((45 : Int32) * (q_s (0 : Int32).toNatClampNeg))) : Int32).toInt64) hx hb dX12_mean_26 rfl ?_
    refine lv_aload_n hx hb dX12_mean_27 rfl (lv_at hl 0 rfl) ?_
    refine va_get (D := D) (ci := 12) (v := .ref (aR 1)) (C := RX12) (T := TX12) (N := 18) hx hb hts hiX12 hown hK hP 0 rfl rfl 0 (by decide) hf9 (fun _ z => z) rfl dX12_mean_28 ?_
    refine lv_iconst (v := 0) hx hb dX12_mean_31 (by decide) ?_
    refine va_iald hx hb hK hP 1 0 rfl rfl (by decide) dX12_mean_32 ?_
    refine lv_i2l (v := ((q_s (0 : Int32).toNatClampNeg) : Int32).toInt64) hx hb dX12_mean_33 rfl ?_
    refine lv_iload_n hx hb dX12_mean_34 rfl (lv_at hl 1 rfl) ?_
    obtain ⟨r35, g35, h⟩ := k_bind h
    refine k_callS (As := [.long ((r13 + ((45 : Int32) * (q_s (0 : Int32).toNatClampNeg))) : Int32).toInt64, .long ((q_s (0 : Int32).toNatClampNeg) : Int32).toInt64, .int x1]) (rest := []) (st1 := [.long r35]) (ws2 := (Wd40 cI aR q_hasImage q_place q_rowAt q_rowEnd q_seed q_thrown q_s)) hx hb hml hown hts hK hN hA hP hD hS hl (c_MD_partOf l D cI cM cS cJ H.size (((r13 + ((45 : Int32) * (q_s (0 : Int32).toNatClampNeg))) : Int32).toInt64) (((q_s (0 : Int32).toNatClampNeg) : Int32).toInt64) x1 g35) gX12_mean_X12_partOf rfl kdS_X12_partOf [] ⟨rfl, rfl⟩ ⟨Nat.le_of_ble_eq_true rfl, Nat.le_of_ble_eq_true rfl⟩ ⟨Nat.zero_le _, Nat.zero_le _⟩ rfl rfl (by decide +kernel) rfl rfl rfl (Nat.le_of_ble_eq_true rfl) dX12_mean_35 rfl (fun H locs hP hD hS => ?_)
    refine lv_goto (tgt := 44) hx hb dX12_mean_38 (by decide) ?_
    cases h
    exact hret _ _ _ _ hP hS dX12_mean_44
abbrev Wd56 (cI : ClassId) (aR : Nat → Nat) (q_hasImage : Int32) (q_place : Int32) (q_rowAt : Int32) (q_rowEnd : Int32) (q_seed : Int32) (q_thrown : Int32) (q_s : Nat → Int32) (q_kept : Nat → Int32) (q_sort : Nat → Int32) (q_size : Nat → Int32) (q_element : Nat → Int32) : va_W := [((aR 0), .inr (12, [.ref (aR 1), .ref (aR 2), .ref (aR 3), .ref (aR 4), .int q_hasImage, .int q_place, .int q_rowAt, .int q_rowEnd, .ref (aR 5), .ref (aR 6), .int q_seed, .ref (aR 7), .ref (aR 8), .ref (aR 9), .ref (aR 10), .ref (aR 11), .ref (aR 12), .int q_thrown])), ((aR 1), .inl (cI, 37, .inl q_s)), ((aR 7), .inl (cI, 8, .inl q_kept)), ((aR 10), .inl (cI, 8, .inl q_sort)), ((aR 11), .inl (cI, 8, .inl q_size)), ((aR 12), .inl (cI, 800, .inl q_element))]
abbrev rm_X12_forged : Room := { frames := 3, cells := 0, slots := 0, locals := 64 }
set_option maxHeartbeats 4000000 in
set_option maxRecDepth 100000 in
theorem c_MD_forged (l : Launch) (D : va_G) (cI cM cS cJ : ClassId) (aR : Nat → Nat) (sz : Nat) (x1 : Int32) (q_hasImage : Int32) (q_place : Int32) (q_rowAt : Int32) (q_rowEnd : Int32) (q_seed : Int32) (q_thrown : Int32) (q_s : Nat → Int32) (q_kept : Nat → Int32) (q_sort : Nat → Int32) (q_size : Nat → Int32) (q_element : Nat → Int32) {o : (Int32)} (hsem : S_MD_forged x1 q_s q_kept q_sort q_size q_element = some o) : kMet l yX12_forged wsX12_forged rm_X12_forged [.ref (aR 0), .int x1] D (kT cI cM cS cJ) (Wd56 cI aR q_hasImage q_place q_rowAt q_rowEnd q_seed q_thrown q_s q_kept q_sort q_size q_element) sz (some (.int o)) (Wd56 cI aR q_hasImage q_place q_rowAt q_rowEnd q_seed q_thrown q_s q_kept q_sort q_size q_element) := by
  refine k_metI (by decide) rfl rfl (Nat.le_of_ble_eq_true rfl) ?_
  intro p e s m below meth c ls Q A hx hb hml hts hown hK hN hA hP hD hS hl hsz hnm hret
  have hown : s.vm.findClass RX12 = some m.cls := hown
  have hf40 := hts (.fieldLink RX12 40 "PlumbLineModel" "size" "[I") (List.mem_of_getElem? (i := 1) rfl)
  have hf43 := hts (.fieldLink RX12 43 "PlumbLineModel" "element" "[I") (List.mem_of_getElem? (i := 2) rfl)
  have hf9 := hts (.fieldLink RX12 9 "PlumbLineModel" "s" "[I") (List.mem_of_getElem? (i := 3) rfl)
  have hiX12 : ∀ w ∈ u_ws RX12 TX12 18, w ∈ wsX12_forged := fun w h => List.mem_cons_of_mem _ (List.mem_append_right _ h)
  replace hl : lv_has ls 4 [(0, .ref (aR 0)), (1, .int x1)] := hl
  have h := hsem
  clear hsem
  rw [S_MD_forged] at h
  refine lv_aload_n hx hb dX12_forged_0 rfl (lv_at hl 0 rfl) ?_
  refine lv_iload_n hx hb dX12_forged_1 rfl (lv_at hl 1 rfl) ?_
  refine lv_iconst (v := (-1)) hx hb dX12_forged_2 (by decide) ?_
  obtain ⟨r3, g3, h⟩ := k_bind h
  refine k_callV (As := [.int x1, .int (-1)]) (rest := []) (st1 := [.int r3]) (ws2 := (Wd56 cI aR q_hasImage q_place q_rowAt q_rowEnd q_seed q_thrown q_s q_kept q_sort q_size q_element)) hx hb hml hown hts hK hN hA hP hD hS hl (c_MD_wrongRow l D cI cM cS cJ aR s.heap.size x1 (-1) q_hasImage q_place q_rowAt q_rowEnd q_seed q_thrown q_kept q_sort g3) gX12_forged_X12_wrongRow rfl kdV_X12_wrongRow 0 12 rfl rfl rfl [0, 2, 3] ⟨rfl, rfl⟩ ⟨Nat.le_of_ble_eq_true rfl, Nat.le_of_ble_eq_true rfl⟩ ⟨Nat.zero_le _, Nat.zero_le _⟩ rfl rfl (by decide +kernel) rfl rfl rfl (Nat.le_of_ble_eq_true rfl) dX12_forged_3 rfl (fun H locs hP hD hS => ?_)
  refine lv_istore_n (lv' := [(2, .int r3), (0, .ref (aR 0)), (1, .int x1)]) hx hb dX12_forged_6 rfl hl (by decide) rfl (fun ls hl => ?_)
  refine lv_iload_n hx hb dX12_forged_7 rfl (lv_at hl 0 rfl) ?_
  refine lv_if_eq (tgt := 13) hx hb dX12_forged_8 (by decide) (fun c8 => ?_) (fun c8 => ?_)
  · have h := k_pos c8 h
    refine lv_iconst (v := 0) hx hb dX12_forged_13 (by decide) ?_
    have B15 : ∀ (n15 : Nat) (y3 : Int32) (H : Heap) (locs : List Loc) (ls : Array Slot), va_P D vwCl (Wd56 cI aR q_hasImage q_place q_rowAt q_rowEnd q_seed q_thrown q_s q_kept q_sort q_size q_element) H → va_D A (Wd56 cI aR q_hasImage q_place q_rowAt q_rowEnd q_seed q_thrown q_s q_kept q_sort q_size q_element) → va_S A s.heap H locs → lv_has ls 4 [(0, .ref (aR 0)), (1, .int x1), (3, .int y3)] → S_MD_forged_L15 x1 q_s q_size q_element n15 y3 = some o → W p l e rm_X12_forged s m ([.ref (aR 0), .int x1] : List Value).toArray below meth c H locs 0 0 Q (F0 m 15 ls []) := by
      intro n15
      induction n15 with
      | zero => intro y3 H locs ls hP hD hS hl h; exact absurd h (by simp [S_MD_forged_L15])
      | succ n15 ih15 =>
        intro y3 H locs ls hP hD hS hl h
        rw [S_MD_forged_L15] at h
        refine lv_iload_n hx hb dX12_forged_15 rfl (lv_at hl 2 rfl) ?_
        refine lv_aload_n hx hb dX12_forged_16 rfl (lv_at hl 0 rfl) ?_
        refine va_get (D := D) (ci := 12) (v := .ref (aR 11)) (C := RX12) (T := TX12) (N := 18) hx hb hts hiX12 hown hK hP 0 rfl rfl 15 (by decide) hf40 (fun _ z => z) rfl dX12_forged_17 ?_
        refine lv_iload_n hx hb dX12_forged_20 rfl (lv_at hl 1 rfl) ?_
        obtain ⟨g21, h⟩ := k_guard h
        refine va_iald hx hb hK hP 4 0 rfl rfl g21 dX12_forged_21 ?_
        refine lv_icmp_ge (tgt := 65) hx hb dX12_forged_22 (by decide) (fun c22 => ?_) (fun c22 => ?_)
        · have h := k_pos c22 h
          refine lv_bipush (v := (-4)) hx hb dX12_forged_65 (by decide) ?_
          cases h
          exact hret _ _ _ _ hP hS dX12_forged_67
        · have h := k_neg c22 h
          refine lv_aload_n hx hb dX12_forged_25 rfl (lv_at hl 0 rfl) ?_
          refine lv_iload_n hx hb dX12_forged_26 rfl (lv_at hl 2 rfl) ?_
          obtain ⟨r27, g27, h⟩ := k_bind h
          refine k_callV (As := [.int y3]) (rest := []) (st1 := [.int r27]) (ws2 := (Wd56 cI aR q_hasImage q_place q_rowAt q_rowEnd q_seed q_thrown q_s q_kept q_sort q_size q_element)) hx hb hml hown hts hK hN hA hP hD hS hl (c_MD_isMan l D cI cM cS cJ aR H.size y3 q_hasImage q_place q_rowAt q_rowEnd q_seed q_thrown q_s g27) gX12_forged_X12_isMan rfl kdV_X12_isMan 0 12 rfl rfl rfl [0, 1] ⟨rfl, rfl⟩ ⟨Nat.le_of_ble_eq_true rfl, Nat.le_of_ble_eq_true rfl⟩ ⟨Nat.zero_le _, Nat.zero_le _⟩ rfl rfl (by decide +kernel) rfl rfl rfl (Nat.le_of_ble_eq_true rfl) dX12_forged_27 rfl (fun H locs hP hD hS => ?_)
          refine lv_if_eq (tgt := 57) hx hb dX12_forged_30 (by decide) (fun c30 => ?_) (fun c30 => ?_)
          · have h := k_pos c30 h
            refine lv_iload_n hx hb dX12_forged_57 rfl (lv_at hl 2 rfl) ?_
            cases h
            exact hret _ _ _ _ hP hS dX12_forged_58
          · have h := k_neg c30 h
            refine lv_aload_n hx hb dX12_forged_33 rfl (lv_at hl 0 rfl) ?_
            refine va_get (D := D) (ci := 12) (v := .ref (aR 12)) (C := RX12) (T := TX12) (N := 18) hx hb hts hiX12 hown hK hP 0 rfl rfl 16 (by decide) hf43 (fun _ z => z) rfl dX12_forged_34 ?_
            refine lv_bipush (v := 100) hx hb dX12_forged_37 (by decide) ?_
            refine lv_iload_n hx hb dX12_forged_39 rfl (lv_at hl 1 rfl) ?_
            refine lv_imul hx hb dX12_forged_40 ?_
            refine lv_iload_n hx hb dX12_forged_41 rfl (lv_at hl 2 rfl) ?_
            refine lv_iadd hx hb dX12_forged_42 ?_
            obtain ⟨g43, h⟩ := k_guard h
            refine va_iald hx hb hK hP 5 0 rfl rfl g43 dX12_forged_43 ?_
            refine lv_aload_n hx hb dX12_forged_44 rfl (lv_at hl 0 rfl) ?_
            refine va_get (D := D) (ci := 12) (v := .ref (aR 1)) (C := RX12) (T := TX12) (N := 18) hx hb hts hiX12 hown hK hP 0 rfl rfl 0 (by decide) hf9 (fun _ z => z) rfl dX12_forged_45 ?_
            refine lv_iload_n hx hb dX12_forged_48 rfl (lv_at hl 2 rfl) ?_
            refine lv_iconst (v := 2) hx hb dX12_forged_49 (by decide) ?_
            refine k_callS (As := [.int y3, .int 2]) (rest := [.ref (aR 1), .int (q_element (((100 : Int32) * x1) + y3).toNatClampNeg)]) (st1 := [.int (S_MD_of y3 2), .ref (aR 1), .int (q_element (((100 : Int32) * x1) + y3).toNatClampNeg)]) (ws2 := (Wd56 cI aR q_hasImage q_place q_rowAt q_rowEnd q_seed q_thrown q_s q_kept q_sort q_size q_element)) hx hb hml hown hts hK hN hA hP hD hS hl (c_MD_of l D cI cM cS cJ H.size y3 2 rfl) gX12_forged_X12_of rfl kdS_X12_of [] ⟨rfl, rfl⟩ ⟨Nat.le_of_ble_eq_true rfl, Nat.le_of_ble_eq_true rfl⟩ ⟨Nat.zero_le _, Nat.zero_le _⟩ rfl rfl (by decide +kernel) rfl rfl rfl (Nat.le_of_ble_eq_true rfl) dX12_forged_50 rfl (fun H locs hP hD hS => ?_)
            obtain ⟨g53, h⟩ := k_guard h
            refine va_iald hx hb hK hP 1 0 rfl rfl g53 dX12_forged_53 ?_
            refine lv_icmp_eq (tgt := 59) hx hb dX12_forged_54 (by decide) (fun c54 => ?_) (fun c54 => ?_)
            · have h := k_pos c54 h
              refine lv_iinc (v := (y3 + 1)) (lv' := [(3, .int (y3 + 1)), (0, .ref (aR 0)), (1, .int x1)]) hx hb dX12_forged_59 hl (k := 2) rfl (by first | rfl | decide) (by decide) rfl (fun ls hl => ?_)
              refine lv_goto (tgt := 15) hx hb dX12_forged_62 (by decide) ?_
              exact ih15 (y3 + 1) H locs ls hP hD hS (lv_sub hl [1, 2, 0] rfl) h
            · have h := k_neg c54 h
              refine lv_iload_n hx hb dX12_forged_57 rfl (lv_at hl 2 rfl) ?_
              cases h
              exact hret _ _ _ _ hP hS dX12_forged_58
    refine lv_istore_n (lv' := [(3, .int 0), (2, .int r3), (0, .ref (aR 0)), (1, .int x1)]) hx hb dX12_forged_14 rfl hl (by decide) rfl (fun ls hl => ?_)
    exact B15 lfu 0 H locs ls hP hD hS (lv_sub hl [2, 3, 0] rfl) h
  · have h := k_neg c8 h
    refine lv_iload_n hx hb dX12_forged_11 rfl (lv_at hl 0 rfl) ?_
    cases h
    exact hret _ _ _ _ hP hS dX12_forged_12
abbrev rm_X12_judge : Room := { frames := 4, cells := 0, slots := 0, locals := 90 }
set_option maxHeartbeats 4000000 in
set_option maxRecDepth 100000 in
theorem c_MD_judge (l : Launch) (D : va_G) (cI cM cS cJ : ClassId) (aR : Nat → Nat) (sz : Nat) (x1 : Int32) (q_hasImage : Int32) (q_place : Int32) (q_rowAt : Int32) (q_rowEnd : Int32) (q_seed : Int32) (q_thrown : Int32) (q_s : Nat → Int32) (q_m : Nat → Int32) (q_kept : Nat → Int32) (q_sort : Nat → Int32) (q_size : Nat → Int32) (q_element : Nat → Int32) {o : (Int32) × (Nat → Int32)} (hsem : S_MD_judge x1 q_s q_m q_kept q_sort q_size q_element = some o) : kMet l yX12_judge wsX12_judge rm_X12_judge [.ref (aR 0), .int x1] D (kT cI cM cS cJ) (Wd54 cI aR q_hasImage q_place q_rowAt q_rowEnd q_seed q_thrown q_s q_m q_kept q_sort q_size q_element) sz (some (.int o.1)) (Wd54 cI aR q_hasImage q_place q_rowAt q_rowEnd q_seed q_thrown q_s o.2 q_kept q_sort q_size q_element) := by
  refine k_metI (by decide) rfl rfl (Nat.le_of_ble_eq_true rfl) ?_
  intro p e s m below meth c ls Q A hx hb hml hts hown hK hN hA hP hD hS hl hsz hnm hret
  have hown : s.vm.findClass RX12 = some m.cls := hown
  have hf9 := hts (.fieldLink RX12 9 "PlumbLineModel" "s" "[I") (List.mem_of_getElem? (i := 1) rfl)
  have hf13 := hts (.fieldLink RX12 13 "PlumbLineModel" "m" "[I") (List.mem_of_getElem? (i := 2) rfl)
  have hf40 := hts (.fieldLink RX12 40 "PlumbLineModel" "size" "[I") (List.mem_of_getElem? (i := 3) rfl)
  have hiX12 : ∀ w ∈ u_ws RX12 TX12 18, w ∈ wsX12_judge := fun w h => List.mem_cons_of_mem _ (List.mem_append_right _ h)
  replace hl : lv_has ls 4 [(0, .ref (aR 0)), (1, .int x1)] := hl
  have h := hsem
  clear hsem
  rw [S_MD_judge] at h
  refine lv_aload_n hx hb dX12_judge_0 rfl (lv_at hl 0 rfl) ?_
  refine lv_iload_n hx hb dX12_judge_1 rfl (lv_at hl 1 rfl) ?_
  refine lv_iconst (v := (-1)) hx hb dX12_judge_2 (by decide) ?_
  obtain ⟨r3, g3, h⟩ := k_bind h
  refine k_callV (As := [.int x1, .int (-1)]) (rest := []) (st1 := [.int r3]) (ws2 := (Wd54 cI aR q_hasImage q_place q_rowAt q_rowEnd q_seed q_thrown q_s q_m q_kept q_sort q_size q_element)) hx hb hml hown hts hK hN hA hP hD hS hl (c_MD_wrongRow l D cI cM cS cJ aR s.heap.size x1 (-1) q_hasImage q_place q_rowAt q_rowEnd q_seed q_thrown q_kept q_sort g3) gX12_judge_X12_wrongRow rfl kdV_X12_wrongRow 0 12 rfl rfl rfl [0, 3, 4] ⟨rfl, rfl⟩ ⟨Nat.le_of_ble_eq_true rfl, Nat.le_of_ble_eq_true rfl⟩ ⟨Nat.zero_le _, Nat.zero_le _⟩ rfl rfl (by decide +kernel) rfl rfl rfl (Nat.le_of_ble_eq_true rfl) dX12_judge_3 rfl (fun H locs hP hD hS => ?_)
  refine lv_istore_n (lv' := [(2, .int r3), (0, .ref (aR 0)), (1, .int x1)]) hx hb dX12_judge_6 rfl hl (by decide) rfl (fun ls hl => ?_)
  refine lv_iload_n hx hb dX12_judge_7 rfl (lv_at hl 0 rfl) ?_
  refine lv_if_eq (tgt := 13) hx hb dX12_judge_8 (by decide) (fun c8 => ?_) (fun c8 => ?_)
  · have h := k_pos c8 h
    refine lv_aload_n hx hb dX12_judge_13 rfl (lv_at hl 1 rfl) ?_
    refine va_get (D := D) (ci := 12) (v := .ref (aR 1)) (C := RX12) (T := TX12) (N := 18) hx hb hts hiX12 hown hK hP 0 rfl rfl 0 (by decide) hf9 (fun _ z => z) rfl dX12_judge_14 ?_
    refine lv_aload_n hx hb dX12_judge_17 rfl (lv_at hl 1 rfl) ?_
    refine va_get (D := D) (ci := 12) (v := .ref (aR 2)) (C := RX12) (T := TX12) (N := 18) hx hb hts hiX12 hown hK hP 0 rfl rfl 1 (by decide) hf13 (fun _ z => z) rfl dX12_judge_18 ?_
    obtain ⟨r21, g21, h⟩ := k_bind h
    refine k_callS (As := [.ref (aR 1), .ref (aR 2)]) (rest := []) (st1 := []) (ws2 := (Wd54 cI aR q_hasImage q_place q_rowAt q_rowEnd q_seed q_thrown q_s r21 q_kept q_sort q_size q_element)) hx hb hml hown hts hK hN hA hP hD hS hl (c_MD_copies l D cI cM cS cJ (aR 1) (aR 2) H.size q_s q_m g21) gX12_judge_X12_copies rfl kdS_X12_copies [1, 2] ⟨rfl, rfl⟩ ⟨Nat.le_of_ble_eq_true rfl, Nat.le_of_ble_eq_true rfl⟩ ⟨Nat.zero_le _, Nat.zero_le _⟩ rfl rfl (by decide +kernel) rfl rfl rfl (Nat.le_of_ble_eq_true rfl) dX12_judge_21 rfl (fun H locs hP hD hS => ?_)
    refine lv_iconst (v := 0) hx hb dX12_judge_24 (by decide) ?_
    have B26 : ∀ (n26 : Nat) (y3 : Int32) (q_m : Nat → Int32) (H : Heap) (locs : List Loc) (ls : Array Slot), va_P D vwCl (Wd54 cI aR q_hasImage q_place q_rowAt q_rowEnd q_seed q_thrown q_s q_m q_kept q_sort q_size q_element) H → va_D A (Wd54 cI aR q_hasImage q_place q_rowAt q_rowEnd q_seed q_thrown q_s q_m q_kept q_sort q_size q_element) → va_S A s.heap H locs → lv_has ls 4 [(0, .ref (aR 0)), (1, .int x1), (3, .int y3)] → S_MD_judge_L26 x1 q_sort q_size q_element n26 y3 q_m = some o → W p l e rm_X12_judge s m ([.ref (aR 0), .int x1] : List Value).toArray below meth c H locs 0 0 Q (F0 m 26 ls []) := by
      intro n26
      induction n26 with
      | zero => intro y3 q_m H locs ls hP hD hS hl h; exact absurd h (by simp [S_MD_judge_L26])
      | succ n26 ih26 =>
        intro y3 q_m H locs ls hP hD hS hl h
        rw [S_MD_judge_L26] at h
        refine lv_iload_n hx hb dX12_judge_26 rfl (lv_at hl 2 rfl) ?_
        refine lv_aload_n hx hb dX12_judge_27 rfl (lv_at hl 0 rfl) ?_
        refine va_get (D := D) (ci := 12) (v := .ref (aR 11)) (C := RX12) (T := TX12) (N := 18) hx hb hts hiX12 hown hK hP 0 rfl rfl 15 (by decide) hf40 (fun _ z => z) rfl dX12_judge_28 ?_
        refine lv_iload_n hx hb dX12_judge_31 rfl (lv_at hl 1 rfl) ?_
        obtain ⟨g32, h⟩ := k_guard h
        refine va_iald hx hb hK hP 5 0 rfl rfl g32 dX12_judge_32 ?_
        refine lv_icmp_ge (tgt := 70) hx hb dX12_judge_33 (by decide) (fun c33 => ?_) (fun c33 => ?_)
        · have h := k_pos c33 h
          refine lv_bipush (v := (-4)) hx hb dX12_judge_70 (by decide) ?_
          cases h
          exact hret _ _ _ _ hP hS dX12_judge_72
        · have h := k_neg c33 h
          refine lv_aload_n hx hb dX12_judge_36 rfl (lv_at hl 0 rfl) ?_
          refine lv_iload_n hx hb dX12_judge_37 rfl (lv_at hl 1 rfl) ?_
          refine lv_iload_n hx hb dX12_judge_38 rfl (lv_at hl 2 rfl) ?_
          refine lv_aload_n hx hb dX12_judge_39 rfl (lv_at hl 0 rfl) ?_
          refine va_get (D := D) (ci := 12) (v := .ref (aR 2)) (C := RX12) (T := TX12) (N := 18) hx hb hts hiX12 hown hK hP 0 rfl rfl 1 (by decide) hf13 (fun _ z => z) rfl dX12_judge_40 ?_
          obtain ⟨r43, g43, h⟩ := k_bind h
          refine k_callS (As := [.ref (aR 2)]) (rest := [.int y3, .int x1, .ref (aR 0)]) (st1 := [.int r43, .int y3, .int x1, .ref (aR 0)]) (ws2 := (Wd54 cI aR q_hasImage q_place q_rowAt q_rowEnd q_seed q_thrown q_s q_m q_kept q_sort q_size q_element)) hx hb hml hown hts hK hN hA hP hD hS hl (c_MD_upright l D cI cM cS cJ (aR 2) H.size q_m g43) gX12_judge_X12_upright rfl kdS_X12_upright [2] ⟨rfl, rfl⟩ ⟨Nat.le_of_ble_eq_true rfl, Nat.le_of_ble_eq_true rfl⟩ ⟨Nat.zero_le _, Nat.zero_le _⟩ rfl rfl (by decide +kernel) rfl rfl rfl (Nat.le_of_ble_eq_true rfl) dX12_judge_43 rfl (fun H locs hP hD hS => ?_)
          obtain ⟨r46, g46, h⟩ := k_bind h
          refine k_callS (As := [.int r43]) (rest := [.int y3, .int x1, .ref (aR 0)]) (st1 := [.int r46, .int y3, .int x1, .ref (aR 0)]) (ws2 := (Wd54 cI aR q_hasImage q_place q_rowAt q_rowEnd q_seed q_thrown q_s q_m q_kept q_sort q_size q_element)) hx hb hml hown hts hK hN hA hP hD hS hl (c_MD_bits l D cI cM cS cJ H.size r43 g46) gX12_judge_X12_bits rfl kdS_X12_bits [] ⟨rfl, rfl⟩ ⟨Nat.le_of_ble_eq_true rfl, Nat.le_of_ble_eq_true rfl⟩ ⟨Nat.zero_le _, Nat.zero_le _⟩ rfl rfl (by decide +kernel) rfl rfl rfl (Nat.le_of_ble_eq_true rfl) dX12_judge_46 rfl (fun H locs hP hD hS => ?_)
          obtain ⟨r49, g49, h⟩ := k_bind h
          refine k_callV (As := [.int x1, .int y3, .int r46]) (rest := []) (st1 := [.int r49]) (ws2 := (Wd54 cI aR q_hasImage q_place q_rowAt q_rowEnd q_seed q_thrown q_s q_m q_kept q_sort q_size q_element)) hx hb hml hown hts hK hN hA hP hD hS hl (c_MD_isTold l D cI cM cS cJ aR H.size x1 y3 r46 q_hasImage q_place q_rowAt q_rowEnd q_seed q_thrown q_sort q_element g49) gX12_judge_X12_isTold rfl kdV_X12_isTold 0 12 rfl rfl rfl [0, 4, 6] ⟨rfl, rfl⟩ ⟨Nat.le_of_ble_eq_true rfl, Nat.le_of_ble_eq_true rfl⟩ ⟨Nat.zero_le _, Nat.zero_le _⟩ rfl rfl (by decide +kernel) rfl rfl rfl (Nat.le_of_ble_eq_true rfl) dX12_judge_49 rfl (fun H locs hP hD hS => ?_)
          refine lv_if_ne (tgt := 57) hx hb dX12_judge_52 (by decide) (fun c52 => ?_) (fun c52 => ?_)
          · have h := k_neg c52 h
            refine lv_aload_n hx hb dX12_judge_57 rfl (lv_at hl 0 rfl) ?_
            refine va_get (D := D) (ci := 12) (v := .ref (aR 2)) (C := RX12) (T := TX12) (N := 18) hx hb hts hiX12 hown hK hP 0 rfl rfl 1 (by decide) hf13 (fun _ z => z) rfl dX12_judge_58 ?_
            obtain ⟨r61, g61, h⟩ := k_bind h
            refine k_callS (As := [.ref (aR 2)]) (rest := []) (st1 := []) (ws2 := (Wd54 cI aR q_hasImage q_place q_rowAt q_rowEnd q_seed q_thrown q_s r61 q_kept q_sort q_size q_element)) hx hb hml hown hts hK hN hA hP hD hS hl (c_MD_day l D cI cM cS cJ (aR 2) H.size q_m g61) gX12_judge_X12_day rfl kdS_X12_day [2] ⟨rfl, rfl⟩ ⟨Nat.le_of_ble_eq_true rfl, Nat.le_of_ble_eq_true rfl⟩ ⟨Nat.zero_le _, Nat.zero_le _⟩ rfl rfl (by decide +kernel) rfl rfl rfl (Nat.le_of_ble_eq_true rfl) dX12_judge_61 rfl (fun H locs hP hD hS => ?_)
            refine lv_iinc (v := (y3 + 1)) (lv' := [(3, .int (y3 + 1)), (0, .ref (aR 0)), (1, .int x1)]) hx hb dX12_judge_64 hl (k := 2) rfl (by first | rfl | decide) (by decide) rfl (fun ls hl => ?_)
            refine lv_goto (tgt := 26) hx hb dX12_judge_67 (by decide) ?_
            exact ih26 (y3 + 1) r61 H locs ls hP hD hS (lv_sub hl [1, 2, 0] rfl) h
          · have h := k_pos c52 h
            refine lv_iload_n hx hb dX12_judge_55 rfl (lv_at hl 2 rfl) ?_
            cases h
            exact hret _ _ _ _ hP hS dX12_judge_56
    refine lv_istore_n (lv' := [(3, .int 0), (2, .int r3), (0, .ref (aR 0)), (1, .int x1)]) hx hb dX12_judge_25 rfl hl (by decide) rfl (fun ls hl => ?_)
    exact B26 lfu 0 r21 H locs ls hP hD hS (lv_sub hl [2, 3, 0] rfl) h
  · have h := k_neg c8 h
    refine lv_iload_n hx hb dX12_judge_11 rfl (lv_at hl 0 rfl) ?_
    cases h
    exact hret _ _ _ _ hP hS dX12_judge_12
abbrev Wd57 (aR : Nat → Nat) (q_hasImage : Int32) (q_place : Int32) (q_rowAt : Int32) (q_rowEnd : Int32) (q_seed : Int32) (q_thrown : Int32) : va_W := [((aR 0), .inr (12, [.ref (aR 1), .ref (aR 2), .ref (aR 3), .ref (aR 4), .int q_hasImage, .int q_place, .int q_rowAt, .int q_rowEnd, .ref (aR 5), .ref (aR 6), .int q_seed, .ref (aR 7), .ref (aR 8), .ref (aR 9), .ref (aR 10), .ref (aR 11), .ref (aR 12), .int q_thrown]))]
abbrev rm_X12_drawn : Room := { frames := 0, cells := 0, slots := 0, locals := 0 }
set_option maxHeartbeats 4000000 in
set_option maxRecDepth 100000 in
theorem c_MD_drawn (l : Launch) (D : va_G) (cI cM cS cJ : ClassId) (aR : Nat → Nat) (sz : Nat) (x1 : Int32) (q_hasImage : Int32) (q_place : Int32) (q_rowAt : Int32) (q_rowEnd : Int32) (q_seed : Int32) (q_thrown : Int32) {o : (Int32) × (Int32)} (hsem : S_MD_drawn x1 q_seed = some o) : kMet l yX12_drawn wsX12_drawn rm_X12_drawn [.ref (aR 0), .int x1] D (kT cI cM cS cJ) (Wd57 aR q_hasImage q_place q_rowAt q_rowEnd q_seed q_thrown) sz (some (.int o.1)) (Wd57 aR q_hasImage q_place q_rowAt q_rowEnd o.2 q_thrown) := by
  refine k_metI (by decide) rfl rfl (Nat.le_of_ble_eq_true rfl) ?_
  intro p e s m below meth c ls Q A hx hb hml hts hown hK hN hA hP hD hS hl hsz hnm hret
  have hown : s.vm.findClass RX12 = some m.cls := hown
  have hf229 := hts (.fieldLink RX12 229 "PlumbLineModel" "seed" "I") (List.mem_of_getElem? (i := 1) rfl)
  have hiX12 : ∀ w ∈ u_ws RX12 TX12 18, w ∈ wsX12_drawn := fun w h => List.mem_cons_of_mem _ (List.mem_append_right _ h)
  replace hl : lv_has ls 2 [(0, .ref (aR 0)), (1, .int x1)] := hl
  have h := hsem
  clear hsem
  rw [S_MD_drawn] at h
  refine lv_aload_n hx hb dX12_drawn_0 rfl (lv_at hl 0 rfl) ?_
  refine lv_aload_n hx hb dX12_drawn_1 rfl (lv_at hl 0 rfl) ?_
  refine va_get (D := D) (ci := 12) (v := .int q_seed) (C := RX12) (T := TX12) (N := 18) hx hb hts hiX12 hown hK hP 0 rfl rfl 10 (by decide) hf229 (fun _ z => z) rfl dX12_drawn_2 ?_
  refine lv_ldc (v := 1103515245) hx hb hown (hts (.constant RX12 232 1103515245) (List.mem_of_getElem? (i := 2) rfl)) dX12_drawn_5 ?_
  refine lv_imul hx hb dX12_drawn_7 ?_
  refine lv_sipush (v := 12345) hx hb dX12_drawn_8 (by decide) ?_
  refine lv_iadd hx hb dX12_drawn_11 ?_
  refine va_put (D := D) (ci := 12) (v := .int ((q_seed * 1103515245) + 12345)) (ty := .int) (C := RX12) (T := TX12) (N := 18) hx hb hts hiX12 tyX12 tyX12_ok nmX12 hown hK hP hD hS 0 rfl rfl 10 (by decide) hf229 (fun _ z => z) rfl (by decide +kernel) rfl rfl (Nat.le_of_ble_eq_true rfl) dX12_drawn_12 (fun H locs hP hD hS => ?_)
  replace hP : va_P D vwCl (Wd57 aR q_hasImage q_place q_rowAt q_rowEnd ((q_seed * 1103515245) + 12345) q_thrown) H := hP
  replace hD : va_D A (Wd57 aR q_hasImage q_place q_rowAt q_rowEnd ((q_seed * 1103515245) + 12345) q_thrown) := hD
  refine lv_aload_n hx hb dX12_drawn_15 rfl (lv_at hl 0 rfl) ?_
  refine va_get (D := D) (ci := 12) (v := .int ((q_seed * 1103515245) + 12345)) (C := RX12) (T := TX12) (N := 18) hx hb hts hiX12 hown hK hP 0 rfl rfl 10 (by decide) hf229 (fun _ z => z) rfl dX12_drawn_16 ?_
  refine lv_ldc (v := 2147483647) hx hb hown (hts (.constant RX12 233 2147483647) (List.mem_of_getElem? (i := 3) rfl)) dX12_drawn_19 ?_
  refine lv_iand hx hb dX12_drawn_21 ?_
  refine lv_ldc (v := 65536) hx hb hown (hts (.constant RX12 234 65536) (List.mem_of_getElem? (i := 4) rfl)) dX12_drawn_22 ?_
  refine lv_idiv hx hb dX12_drawn_24 (by decide) ?_
  refine lv_iload_n hx hb dX12_drawn_25 rfl (lv_at hl 1 rfl) ?_
  obtain ⟨g26, h⟩ := k_guard h
  refine lv_irem hx hb dX12_drawn_26 g26 ?_
  cases h
  exact hret _ _ _ _ hP hS dX12_drawn_27
theorem kdV_X12_drawn : yX12_drawn.cls = RX12 ∧ yX12_drawn.cls ≠ "java/lang/invoke/MethodHandle" ∧ yX12_drawn.cls ≠ "java/lang/invoke/VarHandle" ∧ (parseMethodDescriptor yX12_drawn.desc).map (fun d => d.parameters.length) = some 1 := by decide +kernel
abbrev rm_X12_years : Room := { frames := 5, cells := 0, slots := 0, locals := 112 }
set_option maxHeartbeats 4000000 in
set_option maxRecDepth 100000 in
theorem c_MD_years (l : Launch) (D : va_G) (cI cM cS cJ : ClassId) (aR : Nat → Nat) (sz : Nat) (x1 : Int32) (x2 : Int32) (x3 : Int32) (q_hasImage : Int32) (q_place : Int32) (q_rowAt : Int32) (q_rowEnd : Int32) (q_seed : Int32) (q_thrown : Int32) (q_s : Nat → Int32) (q_m : Nat → Int32) {o : (Int32) × (Int32) × (Nat → Int32)} (hsem : S_MD_years x1 x2 x3 q_seed q_s q_m = some o) : kMet l yX12_years wsX12_years rm_X12_years [.ref (aR 0), .int x1, .int x2, .int x3] D (kT cI cM cS cJ) (Wd49 cI aR q_hasImage q_place q_rowAt q_rowEnd q_seed q_thrown q_s q_m) sz (some (.int o.1)) (Wd49 cI aR q_hasImage q_place q_rowAt q_rowEnd o.2.1 q_thrown q_s o.2.2) := by
  refine k_metI (by decide) rfl rfl (Nat.le_of_ble_eq_true rfl) ?_
  intro p e s m below meth c ls Q A hx hb hml hts hown hK hN hA hP hD hS hl hsz hnm hret
  have hown : s.vm.findClass RX12 = some m.cls := hown
  have hf229 := hts (.fieldLink RX12 229 "PlumbLineModel" "seed" "I") (List.mem_of_getElem? (i := 1) rfl)
  have hf9 := hts (.fieldLink RX12 9 "PlumbLineModel" "s" "[I") (List.mem_of_getElem? (i := 2) rfl)
  have hf13 := hts (.fieldLink RX12 13 "PlumbLineModel" "m" "[I") (List.mem_of_getElem? (i := 3) rfl)
  have hiX12 : ∀ w ∈ u_ws RX12 TX12 18, w ∈ wsX12_years := fun w h => List.mem_cons_of_mem _ (List.mem_append_right _ h)
  replace hl : lv_has ls 7 [(0, .ref (aR 0)), (1, .int x1), (2, .int x2), (3, .int x3)] := hl
  have h := hsem
  clear hsem
  rw [S_MD_years] at h
  refine lv_iload_n hx hb dX12_years_0 rfl (lv_at hl 1 rfl) ?_
  refine lv_iconst (v := 1) hx hb dX12_years_1 (by decide) ?_
  refine lv_bipush (v := 20) hx hb dX12_years_2 (by decide) ?_
  refine k_callS (As := [.int x1, .int 1, .int 20]) (rest := []) (st1 := [.int (S_MD_isIn x1 1 20)]) (ws2 := (Wd49 cI aR q_hasImage q_place q_rowAt q_rowEnd q_seed q_thrown q_s q_m)) hx hb hml hown hts hK hN hA hP hD hS hl (c_MD_isIn l D cI cM cS cJ s.heap.size x1 1 20 rfl) gX12_years_X12_isIn rfl kdS_X12_isIn [] ⟨rfl, rfl⟩ ⟨Nat.le_of_ble_eq_true rfl, Nat.le_of_ble_eq_true rfl⟩ ⟨Nat.zero_le _, Nat.zero_le _⟩ rfl rfl (by decide +kernel) rfl rfl rfl (Nat.le_of_ble_eq_true rfl) dX12_years_4 rfl (fun H locs hP hD hS => ?_)
  refine lv_if_eq (tgt := 19) hx hb dX12_years_7 (by decide) (fun c7 => ?_) (fun c7 => ?_)
  · have h := k_pos c7 h
    refine lv_iconst (v := (-1)) hx hb dX12_years_19 (by decide) ?_
    cases h
    exact hret _ _ _ _ hP hS dX12_years_20
  · have h := k_neg c7 h
    refine lv_iload_n hx hb dX12_years_10 rfl (lv_at hl 3 rfl) ?_
    refine lv_iconst (v := 0) hx hb dX12_years_11 (by decide) ?_
    refine lv_iconst (v := 1) hx hb dX12_years_12 (by decide) ?_
    refine k_callS (As := [.int x3, .int 0, .int 1]) (rest := []) (st1 := [.int (S_MD_isIn x3 0 1)]) (ws2 := (Wd49 cI aR q_hasImage q_place q_rowAt q_rowEnd q_seed q_thrown q_s q_m)) hx hb hml hown hts hK hN hA hP hD hS hl (c_MD_isIn l D cI cM cS cJ H.size x3 0 1 rfl) gX12_years_X12_isIn rfl kdS_X12_isIn [] ⟨rfl, rfl⟩ ⟨Nat.le_of_ble_eq_true rfl, Nat.le_of_ble_eq_true rfl⟩ ⟨Nat.zero_le _, Nat.zero_le _⟩ rfl rfl (by decide +kernel) rfl rfl rfl (Nat.le_of_ble_eq_true rfl) dX12_years_13 rfl (fun H locs hP hD hS => ?_)
    refine lv_if_ne (tgt := 21) hx hb dX12_years_16 (by decide) (fun c16 => ?_) (fun c16 => ?_)
    · have h := k_neg c16 h
      refine lv_aload_n hx hb dX12_years_21 rfl (lv_at hl 0 rfl) ?_
      refine lv_iload_n hx hb dX12_years_22 rfl (lv_at hl 2 rfl) ?_
      refine va_put (D := D) (ci := 12) (v := .int x2) (ty := .int) (C := RX12) (T := TX12) (N := 18) hx hb hts hiX12 tyX12 tyX12_ok nmX12 hown hK hP hD hS 0 rfl rfl 10 (by decide) hf229 (fun _ z => z) rfl (by decide +kernel) rfl rfl (Nat.le_of_ble_eq_true rfl) dX12_years_23 (fun H locs hP hD hS => ?_)
      replace hP : va_P D vwCl (Wd49 cI aR q_hasImage q_place q_rowAt q_rowEnd x2 q_thrown q_s q_m) H := hP
      replace hD : va_D A (Wd49 cI aR q_hasImage q_place q_rowAt q_rowEnd x2 q_thrown q_s q_m) := hD
      refine lv_iconst (v := 0) hx hb dX12_years_26 (by decide) ?_
      refine lv_istore (lv' := [(4, .int 0), (0, .ref (aR 0)), (1, .int x1), (2, .int x2), (3, .int x3)]) hx hb dX12_years_27 hl (by decide) rfl (fun ls hl => ?_)
      refine lv_iconst (v := 0) hx hb dX12_years_29 (by decide) ?_
      have B32 : ∀ (n32 : Nat) (y4 : Int32) (y5 : Int32) (q_seed : Int32) (q_m : Nat → Int32) (H : Heap) (locs : List Loc) (ls : Array Slot), va_P D vwCl (Wd49 cI aR q_hasImage q_place q_rowAt q_rowEnd q_seed q_thrown q_s q_m) H → va_D A (Wd49 cI aR q_hasImage q_place q_rowAt q_rowEnd q_seed q_thrown q_s q_m) → va_S A s.heap H locs → lv_has ls 7 [(0, .ref (aR 0)), (1, .int x1), (3, .int x3), (4, .int y4), (5, .int y5)] → S_MD_years_L32 x1 x3 q_s n32 y4 y5 q_seed q_m = some o → W p l e rm_X12_years s m ([.ref (aR 0), .int x1, .int x2, .int x3] : List Value).toArray below meth c H locs 0 0 Q (F0 m 32 ls []) := by
        intro n32
        induction n32 with
        | zero => intro y4 y5 q_seed q_m H locs ls hP hD hS hl h; exact absurd h (by simp [S_MD_years_L32])
        | succ n32 ih32 =>
          intro y4 y5 q_seed q_m H locs ls hP hD hS hl h
          rw [S_MD_years_L32] at h
          refine lv_iload hx hb dX12_years_32 (lv_at hl 4 rfl) ?_
          refine lv_iload_n hx hb dX12_years_34 rfl (lv_at hl 1 rfl) ?_
          refine lv_icmp_ge (tgt := 139) hx hb dX12_years_35 (by decide) (fun c35 => ?_) (fun c35 => ?_)
          · have h := k_pos c35 h
            refine lv_iload hx hb dX12_years_139 (lv_at hl 3 rfl) ?_
            cases h
            exact hret _ _ _ _ hP hS dX12_years_141
          · have h := k_neg c35 h
            refine lv_aload_n hx hb dX12_years_38 rfl (lv_at hl 0 rfl) ?_
            refine va_get (D := D) (ci := 12) (v := .ref (aR 1)) (C := RX12) (T := TX12) (N := 18) hx hb hts hiX12 hown hK hP 0 rfl rfl 0 (by decide) hf9 (fun _ z => z) rfl dX12_years_39 ?_
            refine lv_aload_n hx hb dX12_years_42 rfl (lv_at hl 0 rfl) ?_
            refine va_get (D := D) (ci := 12) (v := .ref (aR 2)) (C := RX12) (T := TX12) (N := 18) hx hb hts hiX12 hown hK hP 0 rfl rfl 1 (by decide) hf13 (fun _ z => z) rfl dX12_years_43 ?_
            obtain ⟨r46, g46, h⟩ := k_bind h
            refine k_callS (As := [.ref (aR 1), .ref (aR 2)]) (rest := []) (st1 := []) (ws2 := (Wd49 cI aR q_hasImage q_place q_rowAt q_rowEnd q_seed q_thrown q_s r46)) hx hb hml hown hts hK hN hA hP hD hS hl (c_MD_copies l D cI cM cS cJ (aR 1) (aR 2) H.size q_s q_m g46) gX12_years_X12_copies rfl kdS_X12_copies [1, 2] ⟨rfl, rfl⟩ ⟨Nat.le_of_ble_eq_true rfl, Nat.le_of_ble_eq_true rfl⟩ ⟨Nat.zero_le _, Nat.zero_le _⟩ rfl rfl (by decide +kernel) rfl rfl rfl (Nat.le_of_ble_eq_true rfl) dX12_years_46 rfl (fun H locs hP hD hS => ?_)
            refine lv_iconst (v := 0) hx hb dX12_years_49 (by decide) ?_
            have B52 : ∀ (y4 : Int32) (y5 : Int32) (n52 : Nat) (y6 : Int32) (q_seed : Int32) (q_m : Nat → Int32) (H : Heap) (locs : List Loc) (ls : Array Slot), va_P D vwCl (Wd49 cI aR q_hasImage q_place q_rowAt q_rowEnd q_seed q_thrown q_s q_m) H → va_D A (Wd49 cI aR q_hasImage q_place q_rowAt q_rowEnd q_seed q_thrown q_s q_m) → va_S A s.heap H locs → lv_has ls 7 [(0, .ref (aR 0)), (1, .int x1), (3, .int x3), (4, .int y4), (5, .int y5), (6, .int y6)] → S_MD_years_L52 (S_MD_years_L32 x1 x3 q_s n32) x3 y4 y5 q_s n52 y6 q_seed q_m = some o → W p l e rm_X12_years s m ([.ref (aR 0), .int x1, .int x2, .int x3] : List Value).toArray below meth c H locs 0 0 Q (F0 m 52 ls []) := by
              intro y4 y5
              intro n52
              induction n52 with
              | zero => intro y6 q_seed q_m H locs ls hP hD hS hl h; exact absurd h (by simp [S_MD_years_L52])
              | succ n52 ih52 =>
                intro y6 q_seed q_m H locs ls hP hD hS hl h
                rw [S_MD_years_L52] at h
                refine lv_iload hx hb dX12_years_52 (lv_at hl 5 rfl) ?_
                refine lv_aload_n hx hb dX12_years_54 rfl (lv_at hl 0 rfl) ?_
                refine va_get (D := D) (ci := 12) (v := .ref (aR 1)) (C := RX12) (T := TX12) (N := 18) hx hb hts hiX12 hown hK hP 0 rfl rfl 0 (by decide) hf9 (fun _ z => z) rfl dX12_years_55 ?_
                refine lv_iconst (v := 0) hx hb dX12_years_58 (by decide) ?_
                refine va_iald hx hb hK hP 1 0 rfl rfl (by decide) dX12_years_59 ?_
                refine lv_icmp_ge (tgt := 89) hx hb dX12_years_60 (by decide) (fun c60 => ?_) (fun c60 => ?_)
                · have h := k_pos c60 h
                  refine lv_aload_n hx hb dX12_years_89 rfl (lv_at hl 0 rfl) ?_
                  refine va_get (D := D) (ci := 12) (v := .ref (aR 2)) (C := RX12) (T := TX12) (N := 18) hx hb hts hiX12 hown hK hP 0 rfl rfl 1 (by decide) hf13 (fun _ z => z) rfl dX12_years_90 ?_
                  refine lv_bipush (v := 12) hx hb dX12_years_93 (by decide) ?_
                  obtain ⟨r95, g95, h⟩ := k_bind h
                  refine k_callS (As := [.ref (aR 2), .int 12]) (rest := []) (st1 := []) (ws2 := (Wd49 cI aR q_hasImage q_place q_rowAt q_rowEnd q_seed q_thrown q_s r95)) hx hb hml hown hts hK hN hA hP hD hS hl (c_MD_daysOn l D cI cM cS cJ (aR 2) H.size 12 q_m g95) gX12_years_X12_daysOn rfl kdS_X12_daysOn [2] ⟨rfl, rfl⟩ ⟨Nat.le_of_ble_eq_true rfl, Nat.le_of_ble_eq_true rfl⟩ ⟨Nat.zero_le _, Nat.zero_le _⟩ rfl rfl (by decide +kernel) rfl rfl rfl (Nat.le_of_ble_eq_true rfl) dX12_years_95 rfl (fun H locs hP hD hS => ?_)
                  refine lv_iload hx hb dX12_years_98 (lv_at hl 3 rfl) ?_
                  refine lv_iload_n hx hb dX12_years_100 rfl (lv_at hl 2 rfl) ?_
                  refine lv_if_ne (tgt := 117) hx hb dX12_years_101 (by decide) (fun c101 => ?_) (fun c101 => ?_)
                  · have h := k_neg c101 h
                    refine lv_aload_n hx hb dX12_years_117 rfl (lv_at hl 0 rfl) ?_
                    refine va_get (D := D) (ci := 12) (v := .ref (aR 2)) (C := RX12) (T := TX12) (N := 18) hx hb hts hiX12 hown hK hP 0 rfl rfl 1 (by decide) hf13 (fun _ z => z) rfl dX12_years_118 ?_
                    refine lv_iconst (v := 4) hx hb dX12_years_121 (by decide) ?_
                    refine va_iald hx hb hK hP 2 0 rfl rfl (by decide) dX12_years_122 ?_
                    refine lv_aload_n hx hb dX12_years_123 rfl (lv_at hl 0 rfl) ?_
                    refine va_get (D := D) (ci := 12) (v := .ref (aR 1)) (C := RX12) (T := TX12) (N := 18) hx hb hts hiX12 hown hK hP 0 rfl rfl 0 (by decide) hf9 (fun _ z => z) rfl dX12_years_124 ?_
                    refine lv_iconst (v := 4) hx hb dX12_years_127 (by decide) ?_
                    refine va_iald hx hb hK hP 1 0 rfl rfl (by decide) dX12_years_128 ?_
                    refine lv_isub hx hb dX12_years_129 ?_
                    refine lv_iadd hx hb dX12_years_130 ?_
                    refine lv_istore (lv' := [(4, .int (y4 + ((r95 (4 : Int32).toNatClampNeg) - (q_s (4 : Int32).toNatClampNeg)))), (0, .ref (aR 0)), (1, .int x1), (3, .int x3), (5, .int y5), (6, .int y6)]) hx hb dX12_years_131 hl (by decide) rfl (fun ls hl => ?_)
                    refine lv_iinc (v := (y5 + 1)) (lv' := [(5, .int (y5 + 1)), (4, .int (y4 + ((r95 (4 : Int32).toNatClampNeg) - (q_s (4 : Int32).toNatClampNeg)))), (0, .ref (aR 0)), (1, .int x1), (3, .int x3), (6, .int y6)]) hx hb dX12_years_133 hl (k := 4) rfl (by first | rfl | decide) (by decide) rfl (fun ls hl => ?_)
                    refine lv_goto (tgt := 32) hx hb dX12_years_136 (by decide) ?_
                    exact ih32 (y4 + ((r95 (4 : Int32).toNatClampNeg) - (q_s (4 : Int32).toNatClampNeg))) (y5 + 1) q_seed r95 H locs ls hP hD hS (lv_sub hl [2, 3, 4, 1, 0] rfl) h
                  · have h := k_pos c101 h
                    refine lv_aload_n hx hb dX12_years_104 rfl (lv_at hl 0 rfl) ?_
                    refine va_get (D := D) (ci := 12) (v := .ref (aR 2)) (C := RX12) (T := TX12) (N := 18) hx hb hts hiX12 hown hK hP 0 rfl rfl 1 (by decide) hf13 (fun _ z => z) rfl dX12_years_105 ?_
                    obtain ⟨r108, g108, h⟩ := k_bind h
                    refine k_callS (As := [.ref (aR 2)]) (rest := [.int y4]) (st1 := [.int r108, .int y4]) (ws2 := (Wd49 cI aR q_hasImage q_place q_rowAt q_rowEnd q_seed q_thrown q_s r95)) hx hb hml hown hts hK hN hA hP hD hS hl (c_MD_upright l D cI cM cS cJ (aR 2) H.size r95 g108) gX12_years_X12_upright rfl kdS_X12_upright [2] ⟨rfl, rfl⟩ ⟨Nat.le_of_ble_eq_true rfl, Nat.le_of_ble_eq_true rfl⟩ ⟨Nat.zero_le _, Nat.zero_le _⟩ rfl rfl (by decide +kernel) rfl rfl rfl (Nat.le_of_ble_eq_true rfl) dX12_years_108 rfl (fun H locs hP hD hS => ?_)
                    obtain ⟨r111, g111, h⟩ := k_bind h
                    refine k_callS (As := [.int r108]) (rest := [.int y4]) (st1 := [.int r111, .int y4]) (ws2 := (Wd49 cI aR q_hasImage q_place q_rowAt q_rowEnd q_seed q_thrown q_s r95)) hx hb hml hown hts hK hN hA hP hD hS hl (c_MD_bits l D cI cM cS cJ H.size r108 g111) gX12_years_X12_bits rfl kdS_X12_bits [] ⟨rfl, rfl⟩ ⟨Nat.le_of_ble_eq_true rfl, Nat.le_of_ble_eq_true rfl⟩ ⟨Nat.zero_le _, Nat.zero_le _⟩ rfl rfl (by decide +kernel) rfl rfl rfl (Nat.le_of_ble_eq_true rfl) dX12_years_111 rfl (fun H locs hP hD hS => ?_)
                    refine lv_goto (tgt := 130) hx hb dX12_years_114 (by decide) ?_
                    refine lv_iadd hx hb dX12_years_130 ?_
                    refine lv_istore (lv' := [(4, .int (y4 + r111)), (0, .ref (aR 0)), (1, .int x1), (3, .int x3), (5, .int y5), (6, .int y6)]) hx hb dX12_years_131 hl (by decide) rfl (fun ls hl => ?_)
                    refine lv_iinc (v := (y5 + 1)) (lv' := [(5, .int (y5 + 1)), (4, .int (y4 + r111)), (0, .ref (aR 0)), (1, .int x1), (3, .int x3), (6, .int y6)]) hx hb dX12_years_133 hl (k := 4) rfl (by first | rfl | decide) (by decide) rfl (fun ls hl => ?_)
                    refine lv_goto (tgt := 32) hx hb dX12_years_136 (by decide) ?_
                    exact ih32 (y4 + r111) (y5 + 1) q_seed r95 H locs ls hP hD hS (lv_sub hl [2, 3, 4, 1, 0] rfl) h
                · have h := k_neg c60 h
                  refine lv_aload_n hx hb dX12_years_63 rfl (lv_at hl 0 rfl) ?_
                  refine va_get (D := D) (ci := 12) (v := .ref (aR 2)) (C := RX12) (T := TX12) (N := 18) hx hb hts hiX12 hown hK hP 0 rfl rfl 1 (by decide) hf13 (fun _ z => z) rfl dX12_years_64 ?_
                  refine lv_iload hx hb dX12_years_67 (lv_at hl 5 rfl) ?_
                  refine lv_iconst (v := 2) hx hb dX12_years_69 (by decide) ?_
                  refine k_callS (As := [.int y6, .int 2]) (rest := [.ref (aR 2)]) (st1 := [.int (S_MD_of y6 2), .ref (aR 2)]) (ws2 := (Wd49 cI aR q_hasImage q_place q_rowAt q_rowEnd q_seed q_thrown q_s q_m)) hx hb hml hown hts hK hN hA hP hD hS hl (c_MD_of l D cI cM cS cJ H.size y6 2 rfl) gX12_years_X12_of rfl kdS_X12_of [] ⟨rfl, rfl⟩ ⟨Nat.le_of_ble_eq_true rfl, Nat.le_of_ble_eq_true rfl⟩ ⟨Nat.zero_le _, Nat.zero_le _⟩ rfl rfl (by decide +kernel) rfl rfl rfl (Nat.le_of_ble_eq_true rfl) dX12_years_70 rfl (fun H locs hP hD hS => ?_)
                  refine lv_aload_n hx hb dX12_years_73 rfl (lv_at hl 0 rfl) ?_
                  refine lv_bipush (v := 91) hx hb dX12_years_74 (by decide) ?_
                  obtain ⟨r76, g76, h⟩ := k_bind h
                  refine k_callV (As := [.int 91]) (rest := [.int (S_MD_of y6 2), .ref (aR 2)]) (st1 := [.int r76.1, .int (S_MD_of y6 2), .ref (aR 2)]) (ws2 := (Wd49 cI aR q_hasImage q_place q_rowAt q_rowEnd r76.2 q_thrown q_s q_m)) hx hb hml hown hts hK hN hA hP hD hS hl (c_MD_drawn l D cI cM cS cJ aR H.size 91 q_hasImage q_place q_rowAt q_rowEnd q_seed q_thrown g76) gX12_years_X12_drawn rfl kdV_X12_drawn 0 12 rfl rfl rfl [0] ⟨rfl, rfl⟩ ⟨Nat.le_of_ble_eq_true rfl, Nat.le_of_ble_eq_true rfl⟩ ⟨Nat.zero_le _, Nat.zero_le _⟩ rfl rfl (by decide +kernel) rfl rfl rfl (Nat.le_of_ble_eq_true rfl) dX12_years_76 rfl (fun H locs hP hD hS => ?_)
                  refine lv_bipush (v := 45) hx hb dX12_years_79 (by decide) ?_
                  refine lv_isub hx hb dX12_years_81 ?_
                  obtain ⟨g82, h⟩ := k_guard h
                  refine va_iast hx hb hK hP hD hS 2 0 rfl rfl g82 dX12_years_82 (fun H locs hP hD hS => ?_)
                  replace hP : va_P D vwCl (Wd49 cI aR q_hasImage q_place q_rowAt q_rowEnd r76.2 q_thrown q_s (upd q_m (S_MD_of y6 2).toNatClampNeg (r76.1 - 45))) H := hP
                  replace hD : va_D A (Wd49 cI aR q_hasImage q_place q_rowAt q_rowEnd r76.2 q_thrown q_s (upd q_m (S_MD_of y6 2).toNatClampNeg (r76.1 - 45))) := hD
                  refine lv_iinc (v := (y6 + 1)) (lv' := [(6, .int (y6 + 1)), (0, .ref (aR 0)), (1, .int x1), (3, .int x3), (4, .int y4), (5, .int y5)]) hx hb dX12_years_83 hl (k := 5) rfl (by first | rfl | decide) (by decide) rfl (fun ls hl => ?_)
                  refine lv_goto (tgt := 52) hx hb dX12_years_86 (by decide) ?_
                  exact ih52 (y6 + 1) r76.2 (upd q_m (S_MD_of y6 2).toNatClampNeg (r76.1 - 45)) H locs ls hP hD hS (lv_sub hl [1, 2, 3, 4, 5, 0] rfl) h
            refine lv_istore (lv' := [(6, .int 0), (0, .ref (aR 0)), (1, .int x1), (3, .int x3), (4, .int y4), (5, .int y5)]) hx hb dX12_years_50 hl (by decide) rfl (fun ls hl => ?_)
            exact B52 y4 y5 lfu 0 q_seed r46 H locs ls hP hD hS (lv_sub hl [1, 2, 3, 4, 5, 0] rfl) h
      refine lv_istore (lv' := [(5, .int 0), (4, .int 0), (0, .ref (aR 0)), (1, .int x1), (2, .int x2), (3, .int x3)]) hx hb dX12_years_30 hl (by decide) rfl (fun ls hl => ?_)
      exact B32 lfu 0 0 x2 q_m H locs ls hP hD hS (lv_sub hl [2, 3, 5, 1, 0] rfl) h
    · have h := k_pos c16 h
      refine lv_iconst (v := (-1)) hx hb dX12_years_19 (by decide) ?_
      cases h
      exact hret _ _ _ _ hP hS dX12_years_20
abbrev Wd58 (cI : ClassId) (aR : Nat → Nat) (q_hasImage : Int32) (q_place : Int32) (q_rowAt : Int32) (q_rowEnd : Int32) (q_seed : Int32) (q_thrown : Int32) (q_s : Nat → Int32) (q_image : Nat → Int32) : va_W := [((aR 0), .inr (12, [.ref (aR 1), .ref (aR 2), .ref (aR 3), .ref (aR 4), .int q_hasImage, .int q_place, .int q_rowAt, .int q_rowEnd, .ref (aR 5), .ref (aR 6), .int q_seed, .ref (aR 7), .ref (aR 8), .ref (aR 9), .ref (aR 10), .ref (aR 11), .ref (aR 12), .int q_thrown])), ((aR 1), .inl (cI, 37, .inl q_s)), ((aR 3), .inl (cI, 37, .inl q_image))]
abbrev rm_X12_image : Room := { frames := 1, cells := 0, slots := 0, locals := 22 }
set_option maxHeartbeats 4000000 in
set_option maxRecDepth 100000 in
theorem c_MD_image (l : Launch) (D : va_G) (cI cM cS cJ : ClassId) (aR : Nat → Nat) (sz : Nat) (q_hasImage : Int32) (q_place : Int32) (q_rowAt : Int32) (q_rowEnd : Int32) (q_seed : Int32) (q_thrown : Int32) (q_s : Nat → Int32) (q_image : Nat → Int32) {o : (Int32) × (Int32) × (Nat → Int32)} (hsem : S_MD_image q_hasImage q_s q_image = some o) : kMet l yX12_image wsX12_image rm_X12_image [.ref (aR 0)] D (kT cI cM cS cJ) (Wd58 cI aR q_hasImage q_place q_rowAt q_rowEnd q_seed q_thrown q_s q_image) sz (some (.int o.1)) (Wd58 cI aR o.2.1 q_place q_rowAt q_rowEnd q_seed q_thrown q_s o.2.2) := by
  refine k_metI (by decide) rfl rfl (Nat.le_of_ble_eq_true rfl) ?_
  intro p e s m below meth c ls Q A hx hb hml hts hown hK hN hA hP hD hS hl hsz hnm hret
  have hown : s.vm.findClass RX12 = some m.cls := hown
  have hf9 := hts (.fieldLink RX12 9 "PlumbLineModel" "s" "[I") (List.mem_of_getElem? (i := 1) rfl)
  have hf16 := hts (.fieldLink RX12 16 "PlumbLineModel" "image" "[I") (List.mem_of_getElem? (i := 2) rfl)
  have hf238 := hts (.fieldLink RX12 238 "PlumbLineModel" "hasImage" "Z") (List.mem_of_getElem? (i := 3) rfl)
  have hiX12 : ∀ w ∈ u_ws RX12 TX12 18, w ∈ wsX12_image := fun w h => List.mem_cons_of_mem _ (List.mem_append_right _ h)
  replace hl : lv_has ls 1 [(0, .ref (aR 0))] := hl
  have h := hsem
  clear hsem
  rw [S_MD_image] at h
  refine lv_aload_n hx hb dX12_image_0 rfl (lv_at hl 0 rfl) ?_
  refine va_get (D := D) (ci := 12) (v := .ref (aR 1)) (C := RX12) (T := TX12) (N := 18) hx hb hts hiX12 hown hK hP 0 rfl rfl 0 (by decide) hf9 (fun _ z => z) rfl dX12_image_1 ?_
  refine lv_aload_n hx hb dX12_image_4 rfl (lv_at hl 0 rfl) ?_
  refine va_get (D := D) (ci := 12) (v := .ref (aR 3)) (C := RX12) (T := TX12) (N := 18) hx hb hts hiX12 hown hK hP 0 rfl rfl 2 (by decide) hf16 (fun _ z => z) rfl dX12_image_5 ?_
  obtain ⟨r8, g8, h⟩ := k_bind h
  refine k_callS (As := [.ref (aR 1), .ref (aR 3)]) (rest := []) (st1 := []) (ws2 := (Wd58 cI aR q_hasImage q_place q_rowAt q_rowEnd q_seed q_thrown q_s r8)) hx hb hml hown hts hK hN hA hP hD hS hl (c_MD_copies l D cI cM cS cJ (aR 1) (aR 3) s.heap.size q_s q_image g8) gX12_image_X12_copies rfl kdS_X12_copies [1, 2] ⟨rfl, rfl⟩ ⟨Nat.le_of_ble_eq_true rfl, Nat.le_of_ble_eq_true rfl⟩ ⟨Nat.zero_le _, Nat.zero_le _⟩ rfl rfl (by decide +kernel) rfl rfl rfl (Nat.le_of_ble_eq_true rfl) dX12_image_8 rfl (fun H locs hP hD hS => ?_)
  refine lv_aload_n hx hb dX12_image_11 rfl (lv_at hl 0 rfl) ?_
  refine lv_iconst (v := 1) hx hb dX12_image_12 (by decide) ?_
  refine va_put (D := D) (ci := 12) (v := .int 1) (ty := .boolean) (C := RX12) (T := TX12) (N := 18) hx hb hts hiX12 tyX12 tyX12_ok nmX12 hown hK hP hD hS 0 rfl rfl 4 (by decide) hf238 (fun _ z => z) rfl (by decide +kernel) rfl rfl (Nat.le_of_ble_eq_true rfl) dX12_image_13 (fun H locs hP hD hS => ?_)
  replace hP : va_P D vwCl (Wd58 cI aR 1 q_place q_rowAt q_rowEnd q_seed q_thrown q_s r8) H := hP
  replace hD : va_D A (Wd58 cI aR 1 q_place q_rowAt q_rowEnd q_seed q_thrown q_s r8) := hD
  refine lv_aload_n hx hb dX12_image_16 rfl (lv_at hl 0 rfl) ?_
  refine va_get (D := D) (ci := 12) (v := .ref (aR 1)) (C := RX12) (T := TX12) (N := 18) hx hb hts hiX12 hown hK hP 0 rfl rfl 0 (by decide) hf9 (fun _ z => z) rfl dX12_image_17 ?_
  refine lv_iconst (v := 1) hx hb dX12_image_20 (by decide) ?_
  refine va_iald hx hb hK hP 1 0 rfl rfl (by decide) dX12_image_21 ?_
  cases h
  exact hret _ _ _ _ hP hS dX12_image_22
abbrev rm_X12_restore : Room := { frames := 1, cells := 0, slots := 0, locals := 22 }
set_option maxHeartbeats 4000000 in
set_option maxRecDepth 100000 in
theorem c_MD_restore (l : Launch) (D : va_G) (cI cM cS cJ : ClassId) (aR : Nat → Nat) (sz : Nat) (q_hasImage : Int32) (q_place : Int32) (q_rowAt : Int32) (q_rowEnd : Int32) (q_seed : Int32) (q_thrown : Int32) (q_s : Nat → Int32) (q_image : Nat → Int32) {o : (Int32) × (Nat → Int32)} (hsem : S_MD_restore q_hasImage q_s q_image = some o) : kMet l yX12_restore wsX12_restore rm_X12_restore [.ref (aR 0)] D (kT cI cM cS cJ) (Wd58 cI aR q_hasImage q_place q_rowAt q_rowEnd q_seed q_thrown q_s q_image) sz (some (.int o.1)) (Wd58 cI aR q_hasImage q_place q_rowAt q_rowEnd q_seed q_thrown o.2 q_image) := by
  refine k_metI (by decide) rfl rfl (Nat.le_of_ble_eq_true rfl) ?_
  intro p e s m below meth c ls Q A hx hb hml hts hown hK hN hA hP hD hS hl hsz hnm hret
  have hown : s.vm.findClass RX12 = some m.cls := hown
  have hf238 := hts (.fieldLink RX12 238 "PlumbLineModel" "hasImage" "Z") (List.mem_of_getElem? (i := 1) rfl)
  have hf16 := hts (.fieldLink RX12 16 "PlumbLineModel" "image" "[I") (List.mem_of_getElem? (i := 2) rfl)
  have hf9 := hts (.fieldLink RX12 9 "PlumbLineModel" "s" "[I") (List.mem_of_getElem? (i := 3) rfl)
  have hiX12 : ∀ w ∈ u_ws RX12 TX12 18, w ∈ wsX12_restore := fun w h => List.mem_cons_of_mem _ (List.mem_append_right _ h)
  replace hl : lv_has ls 1 [(0, .ref (aR 0))] := hl
  have h := hsem
  clear hsem
  rw [S_MD_restore] at h
  refine lv_aload_n hx hb dX12_restore_0 rfl (lv_at hl 0 rfl) ?_
  refine va_get (D := D) (ci := 12) (v := .int q_hasImage) (C := RX12) (T := TX12) (N := 18) hx hb hts hiX12 hown hK hP 0 rfl rfl 4 (by decide) hf238 (fun _ z => z) rfl dX12_restore_1 ?_
  refine lv_if_ne (tgt := 10) hx hb dX12_restore_4 (by decide) (fun c4 => ?_) (fun c4 => ?_)
  · have h := k_neg c4 h
    refine lv_aload_n hx hb dX12_restore_10 rfl (lv_at hl 0 rfl) ?_
    refine va_get (D := D) (ci := 12) (v := .ref (aR 3)) (C := RX12) (T := TX12) (N := 18) hx hb hts hiX12 hown hK hP 0 rfl rfl 2 (by decide) hf16 (fun _ z => z) rfl dX12_restore_11 ?_
    refine lv_aload_n hx hb dX12_restore_14 rfl (lv_at hl 0 rfl) ?_
    refine va_get (D := D) (ci := 12) (v := .ref (aR 1)) (C := RX12) (T := TX12) (N := 18) hx hb hts hiX12 hown hK hP 0 rfl rfl 0 (by decide) hf9 (fun _ z => z) rfl dX12_restore_15 ?_
    obtain ⟨r18, g18, h⟩ := k_bind h
    refine k_callS (As := [.ref (aR 3), .ref (aR 1)]) (rest := []) (st1 := []) (ws2 := (Wd58 cI aR q_hasImage q_place q_rowAt q_rowEnd q_seed q_thrown r18 q_image)) hx hb hml hown hts hK hN hA hP hD hS hl (c_MD_copies l D cI cM cS cJ (aR 3) (aR 1) s.heap.size q_image q_s g18) gX12_restore_X12_copies rfl kdS_X12_copies [2, 1] ⟨rfl, rfl⟩ ⟨Nat.le_of_ble_eq_true rfl, Nat.le_of_ble_eq_true rfl⟩ ⟨Nat.zero_le _, Nat.zero_le _⟩ rfl rfl (by decide +kernel) rfl rfl rfl (Nat.le_of_ble_eq_true rfl) dX12_restore_18 rfl (fun H locs hP hD hS => ?_)
    refine lv_aload_n hx hb dX12_restore_21 rfl (lv_at hl 0 rfl) ?_
    refine va_get (D := D) (ci := 12) (v := .ref (aR 1)) (C := RX12) (T := TX12) (N := 18) hx hb hts hiX12 hown hK hP 0 rfl rfl 0 (by decide) hf9 (fun _ z => z) rfl dX12_restore_22 ?_
    refine lv_iconst (v := 1) hx hb dX12_restore_25 (by decide) ?_
    refine va_iald hx hb hK hP 1 0 rfl rfl (by decide) dX12_restore_26 ?_
    cases h
    exact hret _ _ _ _ hP hS dX12_restore_27
  · have h := k_pos c4 h
    refine lv_bipush (v := (-3)) hx hb dX12_restore_7 (by decide) ?_
    cases h
    exact hret _ _ _ _ hP hS dX12_restore_9
abbrev rm_X12_count : Room := { frames := 3, cells := 0, slots := 0, locals := 65 }
set_option maxHeartbeats 4000000 in
set_option maxRecDepth 100000 in
theorem c_MD_count (l : Launch) (D : va_G) (cI cM cS cJ : ClassId) (aR : Nat → Nat) (sz : Nat) (x1 : Int32) (q_hasImage : Int32) (q_place : Int32) (q_rowAt : Int32) (q_rowEnd : Int32) (q_seed : Int32) (q_thrown : Int32) (q_s : Nat → Int32) {o : (Int32)} (hsem : S_MD_count x1 q_s = some o) : kMet l yX12_count wsX12_count rm_X12_count [.ref (aR 0), .int x1] D (kT cI cM cS cJ) (Wd40 cI aR q_hasImage q_place q_rowAt q_rowEnd q_seed q_thrown q_s) sz (some (.int o)) (Wd40 cI aR q_hasImage q_place q_rowAt q_rowEnd q_seed q_thrown q_s) := by
  refine k_metI (by decide) rfl rfl (Nat.le_of_ble_eq_true rfl) ?_
  intro p e s m below meth c ls Q A hx hb hml hts hown hK hN hA hP hD hS hl hsz hnm hret
  have hown : s.vm.findClass RX12 = some m.cls := hown
  have hf9 := hts (.fieldLink RX12 9 "PlumbLineModel" "s" "[I") (List.mem_of_getElem? (i := 1) rfl)
  have hiX12 : ∀ w ∈ u_ws RX12 TX12 18, w ∈ wsX12_count := fun w h => List.mem_cons_of_mem _ (List.mem_append_right _ h)
  replace hl : lv_has ls 4 [(0, .ref (aR 0)), (1, .int x1)] := hl
  have h := hsem
  clear hsem
  rw [S_MD_count] at h
  refine lv_iload_n hx hb dX12_count_0 rfl (lv_at hl 1 rfl) ?_
  refine lv_iconst (v := 0) hx hb dX12_count_1 (by decide) ?_
  refine lv_iconst (v := 4) hx hb dX12_count_2 (by decide) ?_
  refine k_callS (As := [.int x1, .int 0, .int 4]) (rest := []) (st1 := [.int (S_MD_isIn x1 0 4)]) (ws2 := (Wd40 cI aR q_hasImage q_place q_rowAt q_rowEnd q_seed q_thrown q_s)) hx hb hml hown hts hK hN hA hP hD hS hl (c_MD_isIn l D cI cM cS cJ s.heap.size x1 0 4 rfl) gX12_count_X12_isIn rfl kdS_X12_isIn [] ⟨rfl, rfl⟩ ⟨Nat.le_of_ble_eq_true rfl, Nat.le_of_ble_eq_true rfl⟩ ⟨Nat.zero_le _, Nat.zero_le _⟩ rfl rfl (by decide +kernel) rfl rfl rfl (Nat.le_of_ble_eq_true rfl) dX12_count_3 rfl (fun H locs hP hD hS => ?_)
  refine lv_if_eq (tgt := 16) hx hb dX12_count_6 (by decide) (fun c6 => ?_) (fun c6 => ?_)
  · have h := k_pos c6 h
    refine lv_iload_n hx hb dX12_count_16 rfl (lv_at hl 1 rfl) ?_
    refine lv_iconst (v := 5) hx hb dX12_count_17 (by decide) ?_
    refine lv_icmp_ne (tgt := 29) hx hb dX12_count_18 (by decide) (fun c18 => ?_) (fun c18 => ?_)
    · have h := k_neg c18 h
      refine lv_iload_n hx hb dX12_count_29 rfl (lv_at hl 1 rfl) ?_
      refine lv_bipush (v := 6) hx hb dX12_count_30 (by decide) ?_
      refine lv_icmp_eq (tgt := 37) hx hb dX12_count_32 (by decide) (fun c32 => ?_) (fun c32 => ?_)
      · have h := k_pos c32 h
        refine lv_iconst (v := 0) hx hb dX12_count_37 (by decide) ?_
        refine lv_istore_n (lv' := [(2, .int 0), (0, .ref (aR 0)), (1, .int x1)]) hx hb dX12_count_38 rfl hl (by decide) rfl (fun ls hl => ?_)
        refine lv_iconst (v := 0) hx hb dX12_count_39 (by decide) ?_
        have B41 : ∀ (n41 : Nat) (y2 : Int32) (y3 : Int32) (H : Heap) (locs : List Loc) (ls : Array Slot), va_P D vwCl (Wd40 cI aR q_hasImage q_place q_rowAt q_rowEnd q_seed q_thrown q_s) H → va_D A (Wd40 cI aR q_hasImage q_place q_rowAt q_rowEnd q_seed q_thrown q_s) → va_S A s.heap H locs → lv_has ls 4 [(0, .ref (aR 0)), (2, .int y2), (3, .int y3)] → S_MD_count_L41 q_s n41 y2 y3 = some o → W p l e rm_X12_count s m ([.ref (aR 0), .int x1] : List Value).toArray below meth c H locs 0 0 Q (F0 m 41 ls []) := by
          intro n41
          induction n41 with
          | zero => intro y2 y3 H locs ls hP hD hS hl h; exact absurd h (by simp [S_MD_count_L41])
          | succ n41 ih41 =>
            intro y2 y3 H locs ls hP hD hS hl h
            rw [S_MD_count_L41] at h
            refine lv_iload_n hx hb dX12_count_41 rfl (lv_at hl 2 rfl) ?_
            refine lv_aload_n hx hb dX12_count_42 rfl (lv_at hl 0 rfl) ?_
            refine va_get (D := D) (ci := 12) (v := .ref (aR 1)) (C := RX12) (T := TX12) (N := 18) hx hb hts hiX12 hown hK hP 0 rfl rfl 0 (by decide) hf9 (fun _ z => z) rfl dX12_count_43 ?_
            refine lv_iconst (v := 0) hx hb dX12_count_46 (by decide) ?_
            refine va_iald hx hb hK hP 1 0 rfl rfl (by decide) dX12_count_47 ?_
            refine lv_icmp_ge (tgt := 72) hx hb dX12_count_48 (by decide) (fun c48 => ?_) (fun c48 => ?_)
            · have h := k_pos c48 h
              refine lv_iload_n hx hb dX12_count_72 rfl (lv_at hl 1 rfl) ?_
              cases h
              exact hret _ _ _ _ hP hS dX12_count_73
            · have h := k_neg c48 h
              refine lv_iload_n hx hb dX12_count_51 rfl (lv_at hl 1 rfl) ?_
              refine lv_aload_n hx hb dX12_count_52 rfl (lv_at hl 0 rfl) ?_
              refine va_get (D := D) (ci := 12) (v := .ref (aR 1)) (C := RX12) (T := TX12) (N := 18) hx hb hts hiX12 hown hK hP 0 rfl rfl 0 (by decide) hf9 (fun _ z => z) rfl dX12_count_53 ?_
              refine lv_iload_n hx hb dX12_count_56 rfl (lv_at hl 2 rfl) ?_
              refine lv_iconst (v := 3) hx hb dX12_count_57 (by decide) ?_
              refine k_callS (As := [.int y3, .int 3]) (rest := [.ref (aR 1), .int y2]) (st1 := [.int (S_MD_of y3 3), .ref (aR 1), .int y2]) (ws2 := (Wd40 cI aR q_hasImage q_place q_rowAt q_rowEnd q_seed q_thrown q_s)) hx hb hml hown hts hK hN hA hP hD hS hl (c_MD_of l D cI cM cS cJ H.size y3 3 rfl) gX12_count_X12_of rfl kdS_X12_of [] ⟨rfl, rfl⟩ ⟨Nat.le_of_ble_eq_true rfl, Nat.le_of_ble_eq_true rfl⟩ ⟨Nat.zero_le _, Nat.zero_le _⟩ rfl rfl (by decide +kernel) rfl rfl rfl (Nat.le_of_ble_eq_true rfl) dX12_count_58 rfl (fun H locs hP hD hS => ?_)
              obtain ⟨g61, h⟩ := k_guard h
              refine va_iald hx hb hK hP 1 0 rfl rfl g61 dX12_count_61 ?_
              refine lv_iload_n hx hb dX12_count_62 rfl (lv_at hl 2 rfl) ?_
              refine lv_ishl hx hb dX12_count_63 ?_
              refine lv_ior hx hb dX12_count_64 ?_
              refine lv_istore_n (lv' := [(2, .int (y2 ||| ((q_s (S_MD_of y3 3).toNatClampNeg) <<< (y3 &&& 31)))), (0, .ref (aR 0)), (3, .int y3)]) hx hb dX12_count_65 rfl hl (by decide) rfl (fun ls hl => ?_)
              refine lv_iinc (v := (y3 + 1)) (lv' := [(3, .int (y3 + 1)), (2, .int (y2 ||| ((q_s (S_MD_of y3 3).toNatClampNeg) <<< (y3 &&& 31)))), (0, .ref (aR 0))]) hx hb dX12_count_66 hl (k := 2) rfl (by first | rfl | decide) (by decide) rfl (fun ls hl => ?_)
              refine lv_goto (tgt := 41) hx hb dX12_count_69 (by decide) ?_
              exact ih41 (y2 ||| ((q_s (S_MD_of y3 3).toNatClampNeg) <<< (y3 &&& 31))) (y3 + 1) H locs ls hP hD hS (lv_sub hl [2, 1, 0] rfl) h
        refine lv_istore_n (lv' := [(3, .int 0), (2, .int 0), (0, .ref (aR 0)), (1, .int x1)]) hx hb dX12_count_40 rfl hl (by decide) rfl (fun ls hl => ?_)
        exact B41 lfu 0 0 H locs ls hP hD hS (lv_sub hl [2, 1, 0] rfl) h
      · have h := k_neg c32 h
        refine lv_iconst (v := (-1)) hx hb dX12_count_35 (by decide) ?_
        cases h
        exact hret _ _ _ _ hP hS dX12_count_36
    · have h := k_pos c18 h
      refine lv_aload_n hx hb dX12_count_21 rfl (lv_at hl 0 rfl) ?_
      refine va_get (D := D) (ci := 12) (v := .ref (aR 1)) (C := RX12) (T := TX12) (N := 18) hx hb hts hiX12 hown hK hP 0 rfl rfl 0 (by decide) hf9 (fun _ z => z) rfl dX12_count_22 ?_
      obtain ⟨r25, g25, h⟩ := k_bind h
      refine k_callS (As := [.ref (aR 1)]) (rest := []) (st1 := [.int r25]) (ws2 := (Wd40 cI aR q_hasImage q_place q_rowAt q_rowEnd q_seed q_thrown q_s)) hx hb hml hown hts hK hN hA hP hD hS hl (c_MD_upright l D cI cM cS cJ (aR 1) H.size q_s g25) gX12_count_X12_upright rfl kdS_X12_upright [1] ⟨rfl, rfl⟩ ⟨Nat.le_of_ble_eq_true rfl, Nat.le_of_ble_eq_true rfl⟩ ⟨Nat.zero_le _, Nat.zero_le _⟩ rfl rfl (by decide +kernel) rfl rfl rfl (Nat.le_of_ble_eq_true rfl) dX12_count_25 rfl (fun H locs hP hD hS => ?_)
      cases h
      exact hret _ _ _ _ hP hS dX12_count_28
  · have h := k_neg c6 h
    refine lv_aload_n hx hb dX12_count_9 rfl (lv_at hl 0 rfl) ?_
    refine va_get (D := D) (ci := 12) (v := .ref (aR 1)) (C := RX12) (T := TX12) (N := 18) hx hb hts hiX12 hown hK hP 0 rfl rfl 0 (by decide) hf9 (fun _ z => z) rfl dX12_count_10 ?_
    refine lv_iload_n hx hb dX12_count_13 rfl (lv_at hl 1 rfl) ?_
    obtain ⟨g14, h⟩ := k_guard h
    refine va_iald hx hb hK hP 1 0 rfl rfl g14 dX12_count_14 ?_
    cases h
    exact hret _ _ _ _ hP hS dX12_count_15
abbrev rm_X12_thrown : Room := { frames := 0, cells := 0, slots := 0, locals := 0 }
set_option maxHeartbeats 4000000 in
set_option maxRecDepth 100000 in
theorem c_MD_thrown (l : Launch) (D : va_G) (cI cM cS cJ : ClassId) (aR : Nat → Nat) (sz : Nat) (q_hasImage : Int32) (q_place : Int32) (q_rowAt : Int32) (q_rowEnd : Int32) (q_seed : Int32) (q_thrown : Int32) {o : (Int32)} (hsem : S_MD_thrown q_thrown = o) : kMet l yX12_thrown wsX12_thrown rm_X12_thrown [.ref (aR 0)] D (kT cI cM cS cJ) (Wd57 aR q_hasImage q_place q_rowAt q_rowEnd q_seed q_thrown) sz (some (.int o)) (Wd57 aR q_hasImage q_place q_rowAt q_rowEnd q_seed q_thrown) := by
  refine k_metI (by decide) rfl rfl (Nat.le_of_ble_eq_true rfl) ?_
  intro p e s m below meth c ls Q A hx hb hml hts hown hK hN hA hP hD hS hl hsz hnm hret
  have hown : s.vm.findClass RX12 = some m.cls := hown
  have hf242 := hts (.fieldLink RX12 242 "PlumbLineModel" "thrown" "I") (List.mem_of_getElem? (i := 1) rfl)
  have hiX12 : ∀ w ∈ u_ws RX12 TX12 18, w ∈ wsX12_thrown := fun w h => List.mem_cons_of_mem _ (List.mem_append_right _ h)
  replace hl : lv_has ls 1 [(0, .ref (aR 0))] := hl
  have h := hsem
  clear hsem
  rw [S_MD_thrown] at h
  refine lv_aload_n hx hb dX12_thrown_0 rfl (lv_at hl 0 rfl) ?_
  refine va_get (D := D) (ci := 12) (v := .int q_thrown) (C := RX12) (T := TX12) (N := 18) hx hb hts hiX12 hown hK hP 0 rfl rfl 17 (by decide) hf242 (fun _ z => z) rfl dX12_thrown_1 ?_
  cases h
  exact hret _ _ _ _ hP hS dX12_thrown_4
abbrev Wd59 (cI : ClassId) (aR : Nat → Nat) (q_hasImage : Int32) (q_place : Int32) (q_rowAt : Int32) (q_rowEnd : Int32) (q_seed : Int32) (q_thrown : Int32) (q_kept : Nat → Int32) (q_keptKind : Nat → Int32) (q_keptFigure : Nat → Int32) : va_W := [((aR 0), .inr (12, [.ref (aR 1), .ref (aR 2), .ref (aR 3), .ref (aR 4), .int q_hasImage, .int q_place, .int q_rowAt, .int q_rowEnd, .ref (aR 5), .ref (aR 6), .int q_seed, .ref (aR 7), .ref (aR 8), .ref (aR 9), .ref (aR 10), .ref (aR 11), .ref (aR 12), .int q_thrown])), ((aR 7), .inl (cI, 8, .inl q_kept)), ((aR 8), .inl (cI, 8, .inl q_keptKind)), ((aR 9), .inl (cI, 8, .inl q_keptFigure))]
abbrev rm_X12_keep : Room := { frames := 2, cells := 0, slots := 0, locals := 42 }
set_option maxHeartbeats 4000000 in
set_option maxRecDepth 100000 in
theorem c_MD_keep (l : Launch) (D : va_G) (cI cM cS cJ : ClassId) (aR : Nat → Nat) (sz : Nat) (x1 : Int32) (x2 : Int32) (x3 : Int32) (x4 : Int32) (q_hasImage : Int32) (q_place : Int32) (q_rowAt : Int32) (q_rowEnd : Int32) (q_seed : Int32) (q_thrown : Int32) (q_kept : Nat → Int32) (q_keptKind : Nat → Int32) (q_keptFigure : Nat → Int32) {o : (Int32) × (Nat → Int32) × (Nat → Int32) × (Nat → Int32)} (hsem : S_MD_keep x1 x2 x3 x4 q_kept q_keptKind q_keptFigure = some o) : kMet l yX12_keep wsX12_keep rm_X12_keep [.ref (aR 0), .int x1, .int x2, .int x3, .int x4] D (kT cI cM cS cJ) (Wd59 cI aR q_hasImage q_place q_rowAt q_rowEnd q_seed q_thrown q_kept q_keptKind q_keptFigure) sz (some (.int o.1)) (Wd59 cI aR q_hasImage q_place q_rowAt q_rowEnd q_seed q_thrown o.2.1 o.2.2.1 o.2.2.2) := by
  refine k_metI (by decide) rfl rfl (Nat.le_of_ble_eq_true rfl) ?_
  intro p e s m below meth c ls Q A hx hb hml hts hown hK hN hA hP hD hS hl hsz hnm hret
  have hown : s.vm.findClass RX12 = some m.cls := hown
  have hf28 := hts (.fieldLink RX12 28 "PlumbLineModel" "kept" "[I") (List.mem_of_getElem? (i := 1) rfl)
  have hf31 := hts (.fieldLink RX12 31 "PlumbLineModel" "keptKind" "[I") (List.mem_of_getElem? (i := 2) rfl)
  have hf34 := hts (.fieldLink RX12 34 "PlumbLineModel" "keptFigure" "[I") (List.mem_of_getElem? (i := 3) rfl)
  have hiX12 : ∀ w ∈ u_ws RX12 TX12 18, w ∈ wsX12_keep := fun w h => List.mem_cons_of_mem _ (List.mem_append_right _ h)
  replace hl : lv_has ls 5 [(0, .ref (aR 0)), (1, .int x1), (2, .int x2), (3, .int x3), (4, .int x4)] := hl
  have h := hsem
  clear hsem
  rw [S_MD_keep] at h
  refine lv_iload_n hx hb dX12_keep_0 rfl (lv_at hl 1 rfl) ?_
  obtain ⟨r1, g1, h⟩ := k_bind h
  refine k_callS (As := [.int x1]) (rest := []) (st1 := [.int r1]) (ws2 := (Wd59 cI aR q_hasImage q_place q_rowAt q_rowEnd q_seed q_thrown q_kept q_keptKind q_keptFigure)) hx hb hml hown hts hK hN hA hP hD hS hl (c_MD_isShelf l D cI cM cS cJ s.heap.size x1 g1) gX12_keep_X12_isShelf rfl kdS_X12_isShelf [] ⟨rfl, rfl⟩ ⟨Nat.le_of_ble_eq_true rfl, Nat.le_of_ble_eq_true rfl⟩ ⟨Nat.zero_le _, Nat.zero_le _⟩ rfl rfl (by decide +kernel) rfl rfl rfl (Nat.le_of_ble_eq_true rfl) dX12_keep_1 rfl (fun H locs hP hD hS => ?_)
  refine lv_if_eq (tgt := 42) hx hb dX12_keep_4 (by decide) (fun c4 => ?_) (fun c4 => ?_)
  · have h := k_pos c4 h
    refine lv_iconst (v := (-1)) hx hb dX12_keep_42 (by decide) ?_
    cases h
    exact hret _ _ _ _ hP hS dX12_keep_43
  · have h := k_neg c4 h
    refine lv_iload_n hx hb dX12_keep_7 rfl (lv_at hl 2 rfl) ?_
    refine lv_iconst (v := 0) hx hb dX12_keep_8 (by decide) ?_
    refine lv_iconst (v := 1) hx hb dX12_keep_9 (by decide) ?_
    refine k_callS (As := [.int x2, .int 0, .int 1]) (rest := []) (st1 := [.int (S_MD_isIn x2 0 1)]) (ws2 := (Wd59 cI aR q_hasImage q_place q_rowAt q_rowEnd q_seed q_thrown q_kept q_keptKind q_keptFigure)) hx hb hml hown hts hK hN hA hP hD hS hl (c_MD_isIn l D cI cM cS cJ H.size x2 0 1 rfl) gX12_keep_X12_isIn rfl kdS_X12_isIn [] ⟨rfl, rfl⟩ ⟨Nat.le_of_ble_eq_true rfl, Nat.le_of_ble_eq_true rfl⟩ ⟨Nat.zero_le _, Nat.zero_le _⟩ rfl rfl (by decide +kernel) rfl rfl rfl (Nat.le_of_ble_eq_true rfl) dX12_keep_10 rfl (fun H locs hP hD hS => ?_)
    refine lv_if_eq (tgt := 42) hx hb dX12_keep_13 (by decide) (fun c13 => ?_) (fun c13 => ?_)
    · have h := k_pos c13 h
      refine lv_iconst (v := (-1)) hx hb dX12_keep_42 (by decide) ?_
      cases h
      exact hret _ _ _ _ hP hS dX12_keep_43
    · have h := k_neg c13 h
      refine lv_iload_n hx hb dX12_keep_16 rfl (lv_at hl 2 rfl) ?_
      refine lv_iconst (v := 1) hx hb dX12_keep_17 (by decide) ?_
      have B44 : ∀ (q_kept : Nat → Int32) (q_keptKind : Nat → Int32) (q_keptFigure : Nat → Int32) (H : Heap) (locs : List Loc) (ls : Array Slot), va_P D vwCl (Wd59 cI aR q_hasImage q_place q_rowAt q_rowEnd q_seed q_thrown q_kept q_keptKind q_keptFigure) H → va_D A (Wd59 cI aR q_hasImage q_place q_rowAt q_rowEnd q_seed q_thrown q_kept q_keptKind q_keptFigure) → va_S A s.heap H locs → lv_has ls 5 [(0, .ref (aR 0)), (1, .int x1), (2, .int x2), (3, .int x3), (4, .int x4)] → S_MD_keep_J44 x1 x2 x3 x4 q_kept q_keptKind q_keptFigure = some o → W p l e rm_X12_keep s m ([.ref (aR 0), .int x1, .int x2, .int x3, .int x4] : List Value).toArray below meth c H locs 0 0 Q (F0 m 44 ls []) := by
        intro q_kept q_keptKind q_keptFigure H locs ls hP hD hS hl h
        rw [S_MD_keep_J44] at h
        refine lv_aload_n hx hb dX12_keep_44 rfl (lv_at hl 0 rfl) ?_
        refine va_get (D := D) (ci := 12) (v := .ref (aR 7)) (C := RX12) (T := TX12) (N := 18) hx hb hts hiX12 hown hK hP 0 rfl rfl 11 (by decide) hf28 (fun _ z => z) rfl dX12_keep_45 ?_
        refine lv_iload_n hx hb dX12_keep_48 rfl (lv_at hl 1 rfl) ?_
        refine lv_iload_n hx hb dX12_keep_49 rfl (lv_at hl 2 rfl) ?_
        obtain ⟨g50, h⟩ := k_guard h
        refine va_iast hx hb hK hP hD hS 1 0 rfl rfl g50 dX12_keep_50 (fun H locs hP hD hS => ?_)
        replace hP : va_P D vwCl (Wd59 cI aR q_hasImage q_place q_rowAt q_rowEnd q_seed q_thrown (upd q_kept x1.toNatClampNeg x2) q_keptKind q_keptFigure) H := hP
        replace hD : va_D A (Wd59 cI aR q_hasImage q_place q_rowAt q_rowEnd q_seed q_thrown (upd q_kept x1.toNatClampNeg x2) q_keptKind q_keptFigure) := hD
        refine lv_aload_n hx hb dX12_keep_51 rfl (lv_at hl 0 rfl) ?_
        refine va_get (D := D) (ci := 12) (v := .ref (aR 8)) (C := RX12) (T := TX12) (N := 18) hx hb hts hiX12 hown hK hP 0 rfl rfl 12 (by decide) hf31 (fun _ z => z) rfl dX12_keep_52 ?_
        refine lv_iload_n hx hb dX12_keep_55 rfl (lv_at hl 1 rfl) ?_
        refine lv_iload_n hx hb dX12_keep_56 rfl (lv_at hl 3 rfl) ?_
        refine va_iast hx hb hK hP hD hS 2 0 rfl rfl g50 dX12_keep_57 (fun H locs hP hD hS => ?_)
        replace hP : va_P D vwCl (Wd59 cI aR q_hasImage q_place q_rowAt q_rowEnd q_seed q_thrown (upd q_kept x1.toNatClampNeg x2) (upd q_keptKind x1.toNatClampNeg x3) q_keptFigure) H := hP
        replace hD : va_D A (Wd59 cI aR q_hasImage q_place q_rowAt q_rowEnd q_seed q_thrown (upd q_kept x1.toNatClampNeg x2) (upd q_keptKind x1.toNatClampNeg x3) q_keptFigure) := hD
        refine lv_aload_n hx hb dX12_keep_58 rfl (lv_at hl 0 rfl) ?_
        refine va_get (D := D) (ci := 12) (v := .ref (aR 9)) (C := RX12) (T := TX12) (N := 18) hx hb hts hiX12 hown hK hP 0 rfl rfl 13 (by decide) hf34 (fun _ z => z) rfl dX12_keep_59 ?_
        refine lv_iload_n hx hb dX12_keep_62 rfl (lv_at hl 1 rfl) ?_
        refine lv_iload hx hb dX12_keep_63 (lv_at hl 4 rfl) ?_
        refine va_iast hx hb hK hP hD hS 3 0 rfl rfl g50 dX12_keep_65 (fun H locs hP hD hS => ?_)
        replace hP : va_P D vwCl (Wd59 cI aR q_hasImage q_place q_rowAt q_rowEnd q_seed q_thrown (upd q_kept x1.toNatClampNeg x2) (upd q_keptKind x1.toNatClampNeg x3) (upd q_keptFigure x1.toNatClampNeg x4)) H := hP
        replace hD : va_D A (Wd59 cI aR q_hasImage q_place q_rowAt q_rowEnd q_seed q_thrown (upd q_kept x1.toNatClampNeg x2) (upd q_keptKind x1.toNatClampNeg x3) (upd q_keptFigure x1.toNatClampNeg x4)) := hD
        refine lv_iconst (v := 0) hx hb dX12_keep_66 (by decide) ?_
        cases h
        exact hret _ _ _ _ hP hS dX12_keep_67
      refine lv_icmp_ne (tgt := 44) hx hb dX12_keep_18 (by decide) (fun c18 => ?_) (fun c18 => ?_)
      · have h := k_neg c18 h
        exact B44 q_kept q_keptKind q_keptFigure H locs ls hP hD hS hl h
      · have h := k_pos c18 h
        refine lv_iload_n hx hb dX12_keep_21 rfl (lv_at hl 3 rfl) ?_
        refine lv_iconst (v := 0) hx hb dX12_keep_22 (by decide) ?_
        refine lv_bipush (v := 7) hx hb dX12_keep_23 (by decide) ?_
        refine k_callS (As := [.int x3, .int 0, .int 7]) (rest := []) (st1 := [.int (S_MD_isIn x3 0 7)]) (ws2 := (Wd59 cI aR q_hasImage q_place q_rowAt q_rowEnd q_seed q_thrown q_kept q_keptKind q_keptFigure)) hx hb hml hown hts hK hN hA hP hD hS hl (c_MD_isIn l D cI cM cS cJ H.size x3 0 7 rfl) gX12_keep_X12_isIn rfl kdS_X12_isIn [] ⟨rfl, rfl⟩ ⟨Nat.le_of_ble_eq_true rfl, Nat.le_of_ble_eq_true rfl⟩ ⟨Nat.zero_le _, Nat.zero_le _⟩ rfl rfl (by decide +kernel) rfl rfl rfl (Nat.le_of_ble_eq_true rfl) dX12_keep_25 rfl (fun H locs hP hD hS => ?_)
        refine lv_if_eq (tgt := 42) hx hb dX12_keep_28 (by decide) (fun c28 => ?_) (fun c28 => ?_)
        · have h := k_pos c28 h
          refine lv_iconst (v := (-1)) hx hb dX12_keep_42 (by decide) ?_
          cases h
          exact hret _ _ _ _ hP hS dX12_keep_43
        · have h := k_neg c28 h
          refine lv_iload hx hb dX12_keep_31 (lv_at hl 4 rfl) ?_
          refine lv_iconst (v := 0) hx hb dX12_keep_33 (by decide) ?_
          refine lv_bipush (v := 9) hx hb dX12_keep_34 (by decide) ?_
          refine k_callS (As := [.int x4, .int 0, .int 9]) (rest := []) (st1 := [.int (S_MD_isIn x4 0 9)]) (ws2 := (Wd59 cI aR q_hasImage q_place q_rowAt q_rowEnd q_seed q_thrown q_kept q_keptKind q_keptFigure)) hx hb hml hown hts hK hN hA hP hD hS hl (c_MD_isIn l D cI cM cS cJ H.size x4 0 9 rfl) gX12_keep_X12_isIn rfl kdS_X12_isIn [] ⟨rfl, rfl⟩ ⟨Nat.le_of_ble_eq_true rfl, Nat.le_of_ble_eq_true rfl⟩ ⟨Nat.zero_le _, Nat.zero_le _⟩ rfl rfl (by decide +kernel) rfl rfl rfl (Nat.le_of_ble_eq_true rfl) dX12_keep_36 rfl (fun H locs hP hD hS => ?_)
          refine lv_if_ne (tgt := 44) hx hb dX12_keep_39 (by decide) (fun c39 => ?_) (fun c39 => ?_)
          · have h := k_neg c39 h
            exact B44 q_kept q_keptKind q_keptFigure H locs ls hP hD hS hl h
          · have h := k_pos c39 h
            refine lv_iconst (v := (-1)) hx hb dX12_keep_42 (by decide) ?_
            cases h
            exact hret _ _ _ _ hP hS dX12_keep_43
abbrev Wd60 (cI : ClassId) (aR : Nat → Nat) (q_hasImage : Int32) (q_place : Int32) (q_rowAt : Int32) (q_rowEnd : Int32) (q_seed : Int32) (q_thrown : Int32) (q_kept : Nat → Int32) (q_sort : Nat → Int32) (q_size : Nat → Int32) (q_element : Nat → Int32) : va_W := [((aR 0), .inr (12, [.ref (aR 1), .ref (aR 2), .ref (aR 3), .ref (aR 4), .int q_hasImage, .int q_place, .int q_rowAt, .int q_rowEnd, .ref (aR 5), .ref (aR 6), .int q_seed, .ref (aR 7), .ref (aR 8), .ref (aR 9), .ref (aR 10), .ref (aR 11), .ref (aR 12), .int q_thrown])), ((aR 7), .inl (cI, 8, .inl q_kept)), ((aR 10), .inl (cI, 8, .inl q_sort)), ((aR 11), .inl (cI, 8, .inl q_size)), ((aR 12), .inl (cI, 800, .inl q_element))]
abbrev rm_X12_row : Room := { frames := 2, cells := 0, slots := 0, locals := 42 }
set_option maxHeartbeats 4000000 in
set_option maxRecDepth 100000 in
theorem c_MD_row (l : Launch) (D : va_G) (cI cM cS cJ : ClassId) (aR : Nat → Nat) (sz : Nat) (x1 : Int32) (x2 : Int32) (x3 : Int32) (q_hasImage : Int32) (q_place : Int32) (q_rowAt : Int32) (q_rowEnd : Int32) (q_seed : Int32) (q_thrown : Int32) (q_kept : Nat → Int32) (q_sort : Nat → Int32) (q_size : Nat → Int32) (q_element : Nat → Int32) {o : (Int32) × (Nat → Int32) × (Nat → Int32) × (Nat → Int32) × (Nat → Int32)} (hsem : S_MD_row x1 x2 x3 q_kept q_sort q_size q_element = some o) : kMet l yX12_row wsX12_row rm_X12_row [.ref (aR 0), .int x1, .int x2, .int x3] D (kT cI cM cS cJ) (Wd60 cI aR q_hasImage q_place q_rowAt q_rowEnd q_seed q_thrown q_kept q_sort q_size q_element) sz (some (.int o.1)) (Wd60 cI aR q_hasImage q_place q_rowAt q_rowEnd q_seed q_thrown o.2.1 o.2.2.1 o.2.2.2.1 o.2.2.2.2) := by
  refine k_metI (by decide) rfl rfl (Nat.le_of_ble_eq_true rfl) ?_
  intro p e s m below meth c ls Q A hx hb hml hts hown hK hN hA hP hD hS hl hsz hnm hret
  have hown : s.vm.findClass RX12 = some m.cls := hown
  have hf28 := hts (.fieldLink RX12 28 "PlumbLineModel" "kept" "[I") (List.mem_of_getElem? (i := 1) rfl)
  have hf37 := hts (.fieldLink RX12 37 "PlumbLineModel" "sort" "[I") (List.mem_of_getElem? (i := 2) rfl)
  have hf40 := hts (.fieldLink RX12 40 "PlumbLineModel" "size" "[I") (List.mem_of_getElem? (i := 3) rfl)
  have hf43 := hts (.fieldLink RX12 43 "PlumbLineModel" "element" "[I") (List.mem_of_getElem? (i := 4) rfl)
  have hiX12 : ∀ w ∈ u_ws RX12 TX12 18, w ∈ wsX12_row := fun w h => List.mem_cons_of_mem _ (List.mem_append_right _ h)
  replace hl : lv_has ls 5 [(0, .ref (aR 0)), (1, .int x1), (2, .int x2), (3, .int x3)] := hl
  have h := hsem
  clear hsem
  rw [S_MD_row] at h
  refine lv_iload_n hx hb dX12_row_0 rfl (lv_at hl 1 rfl) ?_
  obtain ⟨r1, g1, h⟩ := k_bind h
  refine k_callS (As := [.int x1]) (rest := []) (st1 := [.int r1]) (ws2 := (Wd60 cI aR q_hasImage q_place q_rowAt q_rowEnd q_seed q_thrown q_kept q_sort q_size q_element)) hx hb hml hown hts hK hN hA hP hD hS hl (c_MD_isShelf l D cI cM cS cJ s.heap.size x1 g1) gX12_row_X12_isShelf rfl kdS_X12_isShelf [] ⟨rfl, rfl⟩ ⟨Nat.le_of_ble_eq_true rfl, Nat.le_of_ble_eq_true rfl⟩ ⟨Nat.zero_le _, Nat.zero_le _⟩ rfl rfl (by decide +kernel) rfl rfl rfl (Nat.le_of_ble_eq_true rfl) dX12_row_1 rfl (fun H locs hP hD hS => ?_)
  refine lv_if_eq (tgt := 22) hx hb dX12_row_4 (by decide) (fun c4 => ?_) (fun c4 => ?_)
  · have h := k_pos c4 h
    refine lv_iconst (v := (-1)) hx hb dX12_row_22 (by decide) ?_
    cases h
    exact hret _ _ _ _ hP hS dX12_row_23
  · have h := k_neg c4 h
    refine lv_iload_n hx hb dX12_row_7 rfl (lv_at hl 2 rfl) ?_
    refine lv_iconst (v := 0) hx hb dX12_row_8 (by decide) ?_
    refine lv_iconst (v := 2) hx hb dX12_row_9 (by decide) ?_
    refine k_callS (As := [.int x2, .int 0, .int 2]) (rest := []) (st1 := [.int (S_MD_isIn x2 0 2)]) (ws2 := (Wd60 cI aR q_hasImage q_place q_rowAt q_rowEnd q_seed q_thrown q_kept q_sort q_size q_element)) hx hb hml hown hts hK hN hA hP hD hS hl (c_MD_isIn l D cI cM cS cJ H.size x2 0 2 rfl) gX12_row_X12_isIn rfl kdS_X12_isIn [] ⟨rfl, rfl⟩ ⟨Nat.le_of_ble_eq_true rfl, Nat.le_of_ble_eq_true rfl⟩ ⟨Nat.zero_le _, Nat.zero_le _⟩ rfl rfl (by decide +kernel) rfl rfl rfl (Nat.le_of_ble_eq_true rfl) dX12_row_10 rfl (fun H locs hP hD hS => ?_)
    refine lv_if_eq (tgt := 22) hx hb dX12_row_13 (by decide) (fun c13 => ?_) (fun c13 => ?_)
    · have h := k_pos c13 h
      refine lv_iconst (v := (-1)) hx hb dX12_row_22 (by decide) ?_
      cases h
      exact hret _ _ _ _ hP hS dX12_row_23
    · have h := k_neg c13 h
      refine lv_iload_n hx hb dX12_row_16 rfl (lv_at hl 3 rfl) ?_
      refine lv_bipush (v := 100) hx hb dX12_row_17 (by decide) ?_
      refine lv_icmp_le (tgt := 24) hx hb dX12_row_19 (by decide) (fun c19 => ?_) (fun c19 => ?_)
      · have h := k_pos c19 h
        refine lv_iload_n hx hb dX12_row_24 rfl (lv_at hl 3 rfl) ?_
        refine lv_if_ge (tgt := 31) hx hb dX12_row_25 (by decide) (fun c25 => ?_) (fun c25 => ?_)
        · have h := k_pos c25 h
          refine lv_aload_n hx hb dX12_row_31 rfl (lv_at hl 0 rfl) ?_
          refine va_get (D := D) (ci := 12) (v := .ref (aR 7)) (C := RX12) (T := TX12) (N := 18) hx hb hts hiX12 hown hK hP 0 rfl rfl 11 (by decide) hf28 (fun _ z => z) rfl dX12_row_32 ?_
          refine lv_iload_n hx hb dX12_row_35 rfl (lv_at hl 1 rfl) ?_
          refine lv_iconst (v := 2) hx hb dX12_row_36 (by decide) ?_
          obtain ⟨g37, h⟩ := k_guard h
          refine va_iast hx hb hK hP hD hS 1 0 rfl rfl g37 dX12_row_37 (fun H locs hP hD hS => ?_)
          replace hP : va_P D vwCl (Wd60 cI aR q_hasImage q_place q_rowAt q_rowEnd q_seed q_thrown (upd q_kept x1.toNatClampNeg 2) q_sort q_size q_element) H := hP
          replace hD : va_D A (Wd60 cI aR q_hasImage q_place q_rowAt q_rowEnd q_seed q_thrown (upd q_kept x1.toNatClampNeg 2) q_sort q_size q_element) := hD
          refine lv_aload_n hx hb dX12_row_38 rfl (lv_at hl 0 rfl) ?_
          refine va_get (D := D) (ci := 12) (v := .ref (aR 10)) (C := RX12) (T := TX12) (N := 18) hx hb hts hiX12 hown hK hP 0 rfl rfl 14 (by decide) hf37 (fun _ z => z) rfl dX12_row_39 ?_
          refine lv_iload_n hx hb dX12_row_42 rfl (lv_at hl 1 rfl) ?_
          refine lv_iload_n hx hb dX12_row_43 rfl (lv_at hl 2 rfl) ?_
          refine va_iast hx hb hK hP hD hS 2 0 rfl rfl g37 dX12_row_44 (fun H locs hP hD hS => ?_)
          replace hP : va_P D vwCl (Wd60 cI aR q_hasImage q_place q_rowAt q_rowEnd q_seed q_thrown (upd q_kept x1.toNatClampNeg 2) (upd q_sort x1.toNatClampNeg x2) q_size q_element) H := hP
          replace hD : va_D A (Wd60 cI aR q_hasImage q_place q_rowAt q_rowEnd q_seed q_thrown (upd q_kept x1.toNatClampNeg 2) (upd q_sort x1.toNatClampNeg x2) q_size q_element) := hD
          refine lv_aload_n hx hb dX12_row_45 rfl (lv_at hl 0 rfl) ?_
          refine va_get (D := D) (ci := 12) (v := .ref (aR 11)) (C := RX12) (T := TX12) (N := 18) hx hb hts hiX12 hown hK hP 0 rfl rfl 15 (by decide) hf40 (fun _ z => z) rfl dX12_row_46 ?_
          refine lv_iload_n hx hb dX12_row_49 rfl (lv_at hl 1 rfl) ?_
          refine lv_iload_n hx hb dX12_row_50 rfl (lv_at hl 3 rfl) ?_
          refine va_iast hx hb hK hP hD hS 3 0 rfl rfl g37 dX12_row_51 (fun H locs hP hD hS => ?_)
          replace hP : va_P D vwCl (Wd60 cI aR q_hasImage q_place q_rowAt q_rowEnd q_seed q_thrown (upd q_kept x1.toNatClampNeg 2) (upd q_sort x1.toNatClampNeg x2) (upd q_size x1.toNatClampNeg x3) q_element) H := hP
          replace hD : va_D A (Wd60 cI aR q_hasImage q_place q_rowAt q_rowEnd q_seed q_thrown (upd q_kept x1.toNatClampNeg 2) (upd q_sort x1.toNatClampNeg x2) (upd q_size x1.toNatClampNeg x3) q_element) := hD
          refine lv_iconst (v := 0) hx hb dX12_row_52 (by decide) ?_
          have B55 : ∀ (q_kept : Nat → Int32) (q_sort : Nat → Int32) (q_size : Nat → Int32) (n55 : Nat) (y4 : Int32) (q_element : Nat → Int32) (H : Heap) (locs : List Loc) (ls : Array Slot), va_P D vwCl (Wd60 cI aR q_hasImage q_place q_rowAt q_rowEnd q_seed q_thrown q_kept q_sort q_size q_element) H → va_D A (Wd60 cI aR q_hasImage q_place q_rowAt q_rowEnd q_seed q_thrown q_kept q_sort q_size q_element) → va_S A s.heap H locs → lv_has ls 5 [(0, .ref (aR 0)), (1, .int x1), (4, .int y4)] → S_MD_row_L55 x1 q_kept q_sort q_size n55 y4 q_element = some o → W p l e rm_X12_row s m ([.ref (aR 0), .int x1, .int x2, .int x3] : List Value).toArray below meth c H locs 0 0 Q (F0 m 55 ls []) := by
            intro q_kept q_sort q_size
            intro n55
            induction n55 with
            | zero => intro y4 q_element H locs ls hP hD hS hl h; exact absurd h (by simp [S_MD_row_L55])
            | succ n55 ih55 =>
              intro y4 q_element H locs ls hP hD hS hl h
              rw [S_MD_row_L55] at h
              refine lv_iload hx hb dX12_row_55 (lv_at hl 2 rfl) ?_
              refine lv_bipush (v := 100) hx hb dX12_row_57 (by decide) ?_
              refine lv_icmp_ge (tgt := 81) hx hb dX12_row_59 (by decide) (fun c59 => ?_) (fun c59 => ?_)
              · have h := k_pos c59 h
                refine lv_iconst (v := 0) hx hb dX12_row_81 (by decide) ?_
                cases h
                exact hret _ _ _ _ hP hS dX12_row_82
              · have h := k_neg c59 h
                refine lv_aload_n hx hb dX12_row_62 rfl (lv_at hl 0 rfl) ?_
                refine va_get (D := D) (ci := 12) (v := .ref (aR 12)) (C := RX12) (T := TX12) (N := 18) hx hb hts hiX12 hown hK hP 0 rfl rfl 16 (by decide) hf43 (fun _ z => z) rfl dX12_row_63 ?_
                refine lv_bipush (v := 100) hx hb dX12_row_66 (by decide) ?_
                refine lv_iload_n hx hb dX12_row_68 rfl (lv_at hl 1 rfl) ?_
                refine lv_imul hx hb dX12_row_69 ?_
                refine lv_iload hx hb dX12_row_70 (lv_at hl 2 rfl) ?_
                refine lv_iadd hx hb dX12_row_72 ?_
                refine lv_iconst (v := 0) hx hb dX12_row_73 (by decide) ?_
                obtain ⟨g74, h⟩ := k_guard h
                refine va_iast hx hb hK hP hD hS 4 0 rfl rfl g74 dX12_row_74 (fun H locs hP hD hS => ?_)
                replace hP : va_P D vwCl (Wd60 cI aR q_hasImage q_place q_rowAt q_rowEnd q_seed q_thrown q_kept q_sort q_size (upd q_element (((100 : Int32) * x1) + y4).toNatClampNeg 0)) H := hP
                replace hD : va_D A (Wd60 cI aR q_hasImage q_place q_rowAt q_rowEnd q_seed q_thrown q_kept q_sort q_size (upd q_element (((100 : Int32) * x1) + y4).toNatClampNeg 0)) := hD
                refine lv_iinc (v := (y4 + 1)) (lv' := [(4, .int (y4 + 1)), (0, .ref (aR 0)), (1, .int x1)]) hx hb dX12_row_75 hl (k := 2) rfl (by first | rfl | decide) (by decide) rfl (fun ls hl => ?_)
                refine lv_goto (tgt := 55) hx hb dX12_row_78 (by decide) ?_
                exact ih55 (y4 + 1) (upd q_element (((100 : Int32) * x1) + y4).toNatClampNeg 0) H locs ls hP hD hS (lv_sub hl [1, 2, 0] rfl) h
          refine lv_istore (lv' := [(4, .int 0), (0, .ref (aR 0)), (1, .int x1), (2, .int x2), (3, .int x3)]) hx hb dX12_row_53 hl (by decide) rfl (fun ls hl => ?_)
          exact B55 (upd q_kept x1.toNatClampNeg 2) (upd q_sort x1.toNatClampNeg x2) (upd q_size x1.toNatClampNeg x3) lfu 0 q_element H locs ls hP hD hS (lv_sub hl [1, 2, 0] rfl) h
        · have h := k_neg c25 h
          refine lv_bipush (v := (-14)) hx hb dX12_row_28 (by decide) ?_
          cases h
          exact hret _ _ _ _ hP hS dX12_row_30
      · have h := k_neg c19 h
        refine lv_iconst (v := (-1)) hx hb dX12_row_22 (by decide) ?_
        cases h
        exact hret _ _ _ _ hP hS dX12_row_23
abbrev rm_X12_put : Room := { frames := 3, cells := 0, slots := 0, locals := 64 }
set_option maxHeartbeats 4000000 in
set_option maxRecDepth 100000 in
theorem c_MD_put (l : Launch) (D : va_G) (cI cM cS cJ : ClassId) (aR : Nat → Nat) (sz : Nat) (x1 : Int32) (x2 : Int32) (x3 : Int32) (q_hasImage : Int32) (q_place : Int32) (q_rowAt : Int32) (q_rowEnd : Int32) (q_seed : Int32) (q_thrown : Int32) (q_kept : Nat → Int32) (q_sort : Nat → Int32) (q_size : Nat → Int32) (q_element : Nat → Int32) {o : (Int32) × (Nat → Int32)} (hsem : S_MD_put x1 x2 x3 q_kept q_sort q_size q_element = some o) : kMet l yX12_put wsX12_put rm_X12_put [.ref (aR 0), .int x1, .int x2, .int x3] D (kT cI cM cS cJ) (Wd60 cI aR q_hasImage q_place q_rowAt q_rowEnd q_seed q_thrown q_kept q_sort q_size q_element) sz (some (.int o.1)) (Wd60 cI aR q_hasImage q_place q_rowAt q_rowEnd q_seed q_thrown q_kept q_sort q_size o.2) := by
  refine k_metI (by decide) rfl rfl (Nat.le_of_ble_eq_true rfl) ?_
  intro p e s m below meth c ls Q A hx hb hml hts hown hK hN hA hP hD hS hl hsz hnm hret
  have hown : s.vm.findClass RX12 = some m.cls := hown
  have hf40 := hts (.fieldLink RX12 40 "PlumbLineModel" "size" "[I") (List.mem_of_getElem? (i := 1) rfl)
  have hf43 := hts (.fieldLink RX12 43 "PlumbLineModel" "element" "[I") (List.mem_of_getElem? (i := 2) rfl)
  have hf37 := hts (.fieldLink RX12 37 "PlumbLineModel" "sort" "[I") (List.mem_of_getElem? (i := 3) rfl)
  have hiX12 : ∀ w ∈ u_ws RX12 TX12 18, w ∈ wsX12_put := fun w h => List.mem_cons_of_mem _ (List.mem_append_right _ h)
  replace hl : lv_has ls 5 [(0, .ref (aR 0)), (1, .int x1), (2, .int x2), (3, .int x3)] := hl
  have h := hsem
  clear hsem
  rw [S_MD_put] at h
  refine lv_aload_n hx hb dX12_put_0 rfl (lv_at hl 0 rfl) ?_
  refine lv_iload_n hx hb dX12_put_1 rfl (lv_at hl 1 rfl) ?_
  refine lv_iconst (v := (-1)) hx hb dX12_put_2 (by decide) ?_
  obtain ⟨r3, g3, h⟩ := k_bind h
  refine k_callV (As := [.int x1, .int (-1)]) (rest := []) (st1 := [.int r3]) (ws2 := (Wd60 cI aR q_hasImage q_place q_rowAt q_rowEnd q_seed q_thrown q_kept q_sort q_size q_element)) hx hb hml hown hts hK hN hA hP hD hS hl (c_MD_wrongRow l D cI cM cS cJ aR s.heap.size x1 (-1) q_hasImage q_place q_rowAt q_rowEnd q_seed q_thrown q_kept q_sort g3) gX12_put_X12_wrongRow rfl kdV_X12_wrongRow 0 12 rfl rfl rfl [0, 1, 2] ⟨rfl, rfl⟩ ⟨Nat.le_of_ble_eq_true rfl, Nat.le_of_ble_eq_true rfl⟩ ⟨Nat.zero_le _, Nat.zero_le _⟩ rfl rfl (by decide +kernel) rfl rfl rfl (Nat.le_of_ble_eq_true rfl) dX12_put_3 rfl (fun H locs hP hD hS => ?_)
  refine lv_istore (lv' := [(4, .int r3), (0, .ref (aR 0)), (1, .int x1), (2, .int x2), (3, .int x3)]) hx hb dX12_put_6 hl (by decide) rfl (fun ls hl => ?_)
  refine lv_iload hx hb dX12_put_8 (lv_at hl 0 rfl) ?_
  refine lv_if_eq (tgt := 16) hx hb dX12_put_10 (by decide) (fun c10 => ?_) (fun c10 => ?_)
  · have h := k_pos c10 h
    refine lv_iload_n hx hb dX12_put_16 rfl (lv_at hl 3 rfl) ?_
    refine lv_iconst (v := 0) hx hb dX12_put_17 (by decide) ?_
    refine lv_aload_n hx hb dX12_put_18 rfl (lv_at hl 1 rfl) ?_
    refine va_get (D := D) (ci := 12) (v := .ref (aR 11)) (C := RX12) (T := TX12) (N := 18) hx hb hts hiX12 hown hK hP 0 rfl rfl 15 (by decide) hf40 (fun _ z => z) rfl dX12_put_19 ?_
    refine lv_iload_n hx hb dX12_put_22 rfl (lv_at hl 2 rfl) ?_
    obtain ⟨g23, h⟩ := k_guard h
    refine va_iald hx hb hK hP 3 0 rfl rfl g23 dX12_put_23 ?_
    refine lv_iconst (v := 1) hx hb dX12_put_24 (by decide) ?_
    refine lv_isub hx hb dX12_put_25 ?_
    refine k_callS (As := [.int x2, .int 0, .int ((q_size x1.toNatClampNeg) - 1)]) (rest := []) (st1 := [.int (S_MD_isIn x2 0 ((q_size x1.toNatClampNeg) - 1))]) (ws2 := (Wd60 cI aR q_hasImage q_place q_rowAt q_rowEnd q_seed q_thrown q_kept q_sort q_size q_element)) hx hb hml hown hts hK hN hA hP hD hS hl (c_MD_isIn l D cI cM cS cJ H.size x2 0 ((q_size x1.toNatClampNeg) - 1) rfl) gX12_put_X12_isIn rfl kdS_X12_isIn [] ⟨rfl, rfl⟩ ⟨Nat.le_of_ble_eq_true rfl, Nat.le_of_ble_eq_true rfl⟩ ⟨Nat.zero_le _, Nat.zero_le _⟩ rfl rfl (by decide +kernel) rfl rfl rfl (Nat.le_of_ble_eq_true rfl) dX12_put_26 rfl (fun H locs hP hD hS => ?_)
    refine lv_if_ne (tgt := 35) hx hb dX12_put_29 (by decide) (fun c29 => ?_) (fun c29 => ?_)
    · have h := k_neg c29 h
      refine lv_aload_n hx hb dX12_put_35 rfl (lv_at hl 1 rfl) ?_
      refine va_get (D := D) (ci := 12) (v := .ref (aR 12)) (C := RX12) (T := TX12) (N := 18) hx hb hts hiX12 hown hK hP 0 rfl rfl 16 (by decide) hf43 (fun _ z => z) rfl dX12_put_36 ?_
      refine lv_bipush (v := 100) hx hb dX12_put_39 (by decide) ?_
      refine lv_iload_n hx hb dX12_put_41 rfl (lv_at hl 2 rfl) ?_
      refine lv_imul hx hb dX12_put_42 ?_
      refine lv_iload_n hx hb dX12_put_43 rfl (lv_at hl 3 rfl) ?_
      refine lv_iadd hx hb dX12_put_44 ?_
      refine lv_aload_n hx hb dX12_put_45 rfl (lv_at hl 1 rfl) ?_
      refine va_get (D := D) (ci := 12) (v := .ref (aR 10)) (C := RX12) (T := TX12) (N := 18) hx hb hts hiX12 hown hK hP 0 rfl rfl 14 (by decide) hf37 (fun _ z => z) rfl dX12_put_46 ?_
      refine lv_iload_n hx hb dX12_put_49 rfl (lv_at hl 2 rfl) ?_
      refine va_iald hx hb hK hP 2 0 rfl rfl g23 dX12_put_50 ?_
      refine lv_if_ne (tgt := 59) hx hb dX12_put_51 (by decide) (fun c51 => ?_) (fun c51 => ?_)
      · have h := k_neg c51 h
        refine lv_aload_n hx hb dX12_put_59 rfl (lv_at hl 1 rfl) ?_
        refine va_get (D := D) (ci := 12) (v := .ref (aR 10)) (C := RX12) (T := TX12) (N := 18) hx hb hts hiX12 hown hK hP 0 rfl rfl 14 (by decide) hf37 (fun _ z => z) rfl dX12_put_60 ?_
        refine lv_iload_n hx hb dX12_put_63 rfl (lv_at hl 2 rfl) ?_
        refine va_iald hx hb hK hP 2 0 rfl rfl g23 dX12_put_64 ?_
        refine lv_iconst (v := 1) hx hb dX12_put_65 (by decide) ?_
        refine lv_icmp_ne (tgt := 74) hx hb dX12_put_66 (by decide) (fun c66 => ?_) (fun c66 => ?_)
        · have h := k_neg c66 h
          refine lv_iload_n hx hb dX12_put_74 rfl (lv_at hl 4 rfl) ?_
          obtain ⟨g75, h⟩ := k_guard h
          refine va_iast hx hb hK hP hD hS 4 0 rfl rfl g75 dX12_put_75 (fun H locs hP hD hS => ?_)
          replace hP : va_P D vwCl (Wd60 cI aR q_hasImage q_place q_rowAt q_rowEnd q_seed q_thrown q_kept q_sort q_size (upd q_element (((100 : Int32) * x1) + x2).toNatClampNeg x3)) H := hP
          replace hD : va_D A (Wd60 cI aR q_hasImage q_place q_rowAt q_rowEnd q_seed q_thrown q_kept q_sort q_size (upd q_element (((100 : Int32) * x1) + x2).toNatClampNeg x3)) := hD
          refine lv_iconst (v := 0) hx hb dX12_put_76 (by decide) ?_
          cases h
          exact hret _ _ _ _ hP hS dX12_put_77
        · have h := k_pos c66 h
          refine lv_iload_n hx hb dX12_put_69 rfl (lv_at hl 4 rfl) ?_
          refine lv_i2s (v := (x3 : Int32).toInt16.toInt32) hx hb dX12_put_70 rfl ?_
          refine lv_goto (tgt := 75) hx hb dX12_put_71 (by decide) ?_
          obtain ⟨g75, h⟩ := k_guard h
          refine va_iast hx hb hK hP hD hS 4 0 rfl rfl g75 dX12_put_75 (fun H locs hP hD hS => ?_)
          replace hP : va_P D vwCl (Wd60 cI aR q_hasImage q_place q_rowAt q_rowEnd q_seed q_thrown q_kept q_sort q_size (upd q_element (((100 : Int32) * x1) + x2).toNatClampNeg (x3 : Int32).toInt16.toInt32)) H := hP
          replace hD : va_D A (Wd60 cI aR q_hasImage q_place q_rowAt q_rowEnd q_seed q_thrown q_kept q_sort q_size (upd q_element (((100 : Int32) * x1) + x2).toNatClampNeg (x3 : Int32).toInt16.toInt32)) := hD
          refine lv_iconst (v := 0) hx hb dX12_put_76 (by decide) ?_
          cases h
          exact hret _ _ _ _ hP hS dX12_put_77
      · have h := k_pos c51 h
        refine lv_iload_n hx hb dX12_put_54 rfl (lv_at hl 4 rfl) ?_
        refine lv_i2b (v := (x3 : Int32).toInt8.toInt32) hx hb dX12_put_55 rfl ?_
        refine lv_goto (tgt := 75) hx hb dX12_put_56 (by decide) ?_
        obtain ⟨g75, h⟩ := k_guard h
        refine va_iast hx hb hK hP hD hS 4 0 rfl rfl g75 dX12_put_75 (fun H locs hP hD hS => ?_)
        replace hP : va_P D vwCl (Wd60 cI aR q_hasImage q_place q_rowAt q_rowEnd q_seed q_thrown q_kept q_sort q_size (upd q_element (((100 : Int32) * x1) + x2).toNatClampNeg (x3 : Int32).toInt8.toInt32)) H := hP
        replace hD : va_D A (Wd60 cI aR q_hasImage q_place q_rowAt q_rowEnd q_seed q_thrown q_kept q_sort q_size (upd q_element (((100 : Int32) * x1) + x2).toNatClampNeg (x3 : Int32).toInt8.toInt32)) := hD
        refine lv_iconst (v := 0) hx hb dX12_put_76 (by decide) ?_
        cases h
        exact hret _ _ _ _ hP hS dX12_put_77
    · have h := k_pos c29 h
      refine lv_bipush (v := (-13)) hx hb dX12_put_32 (by decide) ?_
      cases h
      exact hret _ _ _ _ hP hS dX12_put_34
  · have h := k_neg c10 h
    refine lv_iload hx hb dX12_put_13 (lv_at hl 0 rfl) ?_
    cases h
    exact hret _ _ _ _ hP hS dX12_put_15
abbrev Wd61 (cI : ClassId) (aR : Nat → Nat) (q_hasImage : Int32) (q_place : Int32) (q_rowAt : Int32) (q_rowEnd : Int32) (q_seed : Int32) (q_thrown : Int32) (q_kept : Nat → Int32) (q_size : Nat → Int32) (q_element : Nat → Int32) : va_W := [((aR 0), .inr (12, [.ref (aR 1), .ref (aR 2), .ref (aR 3), .ref (aR 4), .int q_hasImage, .int q_place, .int q_rowAt, .int q_rowEnd, .ref (aR 5), .ref (aR 6), .int q_seed, .ref (aR 7), .ref (aR 8), .ref (aR 9), .ref (aR 10), .ref (aR 11), .ref (aR 12), .int q_thrown])), ((aR 7), .inl (cI, 8, .inl q_kept)), ((aR 11), .inl (cI, 8, .inl q_size)), ((aR 12), .inl (cI, 800, .inl q_element))]
abbrev rm_X12_element : Room := { frames := 2, cells := 0, slots := 0, locals := 42 }
set_option maxHeartbeats 4000000 in
set_option maxRecDepth 100000 in
theorem c_MD_element (l : Launch) (D : va_G) (cI cM cS cJ : ClassId) (aR : Nat → Nat) (sz : Nat) (x1 : Int32) (x2 : Int32) (q_hasImage : Int32) (q_place : Int32) (q_rowAt : Int32) (q_rowEnd : Int32) (q_seed : Int32) (q_thrown : Int32) (q_kept : Nat → Int32) (q_size : Nat → Int32) (q_element : Nat → Int32) {o : (Int64) × (Int32)} (hsem : S_MD_element x1 x2 q_thrown q_kept q_size q_element = some o) : kMet l yX12_element wsX12_element rm_X12_element [.ref (aR 0), .int x1, .int x2] D (kT cI cM cS cJ) (Wd61 cI aR q_hasImage q_place q_rowAt q_rowEnd q_seed q_thrown q_kept q_size q_element) sz (some (.long o.1)) (Wd61 cI aR q_hasImage q_place q_rowAt q_rowEnd q_seed o.2 q_kept q_size q_element) := by
  refine k_metJ (by decide) rfl rfl (Nat.le_of_ble_eq_true rfl) ?_
  intro p e s m below meth c ls Q A hx hb hml hts hown hK hN hA hP hD hS hl hsz hnm hret
  have hown : s.vm.findClass RX12 = some m.cls := hown
  have hf28 := hts (.fieldLink RX12 28 "PlumbLineModel" "kept" "[I") (List.mem_of_getElem? (i := 1) rfl)
  have hf242 := hts (.fieldLink RX12 242 "PlumbLineModel" "thrown" "I") (List.mem_of_getElem? (i := 3) rfl)
  have hf43 := hts (.fieldLink RX12 43 "PlumbLineModel" "element" "[I") (List.mem_of_getElem? (i := 4) rfl)
  have hf40 := hts (.fieldLink RX12 40 "PlumbLineModel" "size" "[I") (List.mem_of_getElem? (i := 2) rfl)
  have hiX12 : ∀ w ∈ u_ws RX12 TX12 18, w ∈ wsX12_element := fun w h => List.mem_cons_of_mem _ (List.mem_append_right _ h)
  replace hl : lv_has ls 3 [(0, .ref (aR 0)), (1, .int x1), (2, .int x2)] := hl
  have h := hsem
  clear hsem
  rw [S_MD_element] at h
  refine lv_aload_n hx hb dX12_element_0 rfl (lv_at hl 0 rfl) ?_
  refine lv_iload_n hx hb dX12_element_1 rfl (lv_at hl 1 rfl) ?_
  obtain ⟨r2, g2, h⟩ := k_bind h
  refine k_callS (As := [.int x1]) (rest := [.ref (aR 0)]) (st1 := [.int r2, .ref (aR 0)]) (ws2 := (Wd61 cI aR q_hasImage q_place q_rowAt q_rowEnd q_seed q_thrown q_kept q_size q_element)) hx hb hml hown hts hK hN hA hP hD hS hl (c_MD_isShelf l D cI cM cS cJ s.heap.size x1 g2) gX12_element_X12_isShelf rfl kdS_X12_isShelf [] ⟨rfl, rfl⟩ ⟨Nat.le_of_ble_eq_true rfl, Nat.le_of_ble_eq_true rfl⟩ ⟨Nat.zero_le _, Nat.zero_le _⟩ rfl rfl (by decide +kernel) rfl rfl rfl (Nat.le_of_ble_eq_true rfl) dX12_element_2 rfl (fun H locs hP hD hS => ?_)
  have B43 : ∀ (v1 : Int32) (q_thrown : Int32) (H : Heap) (locs : List Loc) (ls : Array Slot), va_P D vwCl (Wd61 cI aR q_hasImage q_place q_rowAt q_rowEnd q_seed q_thrown q_kept q_size q_element) H → va_D A (Wd61 cI aR q_hasImage q_place q_rowAt q_rowEnd q_seed q_thrown q_kept q_size q_element) → va_S A s.heap H locs → lv_has ls 3 [(0, .ref (aR 0)), (1, .int x1), (2, .int x2)] → S_MD_element_J43 x1 x2 v1 q_element = some o → W p l e rm_X12_element s m ([.ref (aR 0), .int x1, .int x2] : List Value).toArray below meth c H locs 0 0 Q (F0 m 43 ls [.int v1, .ref (aR 0)]) := by
    intro v1 q_thrown H locs ls hP hD hS hl h
    rw [S_MD_element_J43] at h
    refine va_put (D := D) (ci := 12) (v := .int v1) (ty := .int) (C := RX12) (T := TX12) (N := 18) hx hb hts hiX12 tyX12 tyX12_ok nmX12 hown hK hP hD hS 0 rfl rfl 17 (by decide) hf242 (fun _ z => z) rfl (by decide +kernel) rfl rfl (Nat.le_of_ble_eq_true rfl) dX12_element_43 (fun H locs hP hD hS => ?_)
    replace hP : va_P D vwCl (Wd61 cI aR q_hasImage q_place q_rowAt q_rowEnd q_seed v1 q_kept q_size q_element) H := hP
    replace hD : va_D A (Wd61 cI aR q_hasImage q_place q_rowAt q_rowEnd q_seed v1 q_kept q_size q_element) := hD
    refine lv_aload_n hx hb dX12_element_46 rfl (lv_at hl 0 rfl) ?_
    refine va_get (D := D) (ci := 12) (v := .int v1) (C := RX12) (T := TX12) (N := 18) hx hb hts hiX12 hown hK hP 0 rfl rfl 17 (by decide) hf242 (fun _ z => z) rfl dX12_element_47 ?_
    refine lv_if_ne (tgt := 68) hx hb dX12_element_50 (by decide) (fun c50 => ?_) (fun c50 => ?_)
    · have h := k_neg c50 h
      refine lv_lconst (v := 0) hx hb dX12_element_68 (by decide) ?_
      cases h
      exact hret _ _ _ _ hP hS dX12_element_69
    · have h := k_pos c50 h
      refine lv_aload_n hx hb dX12_element_53 rfl (lv_at hl 0 rfl) ?_
      refine va_get (D := D) (ci := 12) (v := .ref (aR 12)) (C := RX12) (T := TX12) (N := 18) hx hb hts hiX12 hown hK hP 0 rfl rfl 16 (by decide) hf43 (fun _ z => z) rfl dX12_element_54 ?_
      refine lv_bipush (v := 100) hx hb dX12_element_57 (by decide) ?_
      refine lv_iload_n hx hb dX12_element_59 rfl (lv_at hl 1 rfl) ?_
      refine lv_imul hx hb dX12_element_60 ?_
      refine lv_iload_n hx hb dX12_element_61 rfl (lv_at hl 2 rfl) ?_
      refine lv_iadd hx hb dX12_element_62 ?_
      obtain ⟨g63, h⟩ := k_guard h
      refine va_iald hx hb hK hP 3 0 rfl rfl g63 dX12_element_63 ?_
      refine lv_i2l (v := ((q_element (((100 : Int32) * x1) + x2).toNatClampNeg) : Int32).toInt64) hx hb dX12_element_64 rfl ?_
      refine lv_goto (tgt := 69) hx hb dX12_element_65 (by decide) ?_
      cases h
      exact hret _ _ _ _ hP hS dX12_element_69
  refine lv_if_ne (tgt := 12) hx hb dX12_element_5 (by decide) (fun c5 => ?_) (fun c5 => ?_)
  · have h := k_neg c5 h
    refine lv_aload_n hx hb dX12_element_12 rfl (lv_at hl 0 rfl) ?_
    refine va_get (D := D) (ci := 12) (v := .ref (aR 7)) (C := RX12) (T := TX12) (N := 18) hx hb hts hiX12 hown hK hP 0 rfl rfl 11 (by decide) hf28 (fun _ z => z) rfl dX12_element_13 ?_
    refine lv_iload_n hx hb dX12_element_16 rfl (lv_at hl 1 rfl) ?_
    obtain ⟨g17, h⟩ := k_guard h
    refine va_iald hx hb hK hP 1 0 rfl rfl g17 dX12_element_17 ?_
    refine lv_iconst (v := 2) hx hb dX12_element_18 (by decide) ?_
    have B38 : ∀ (q_thrown : Int32) (H : Heap) (locs : List Loc) (ls : Array Slot), va_P D vwCl (Wd61 cI aR q_hasImage q_place q_rowAt q_rowEnd q_seed q_thrown q_kept q_size q_element) H → va_D A (Wd61 cI aR q_hasImage q_place q_rowAt q_rowEnd q_seed q_thrown q_kept q_size q_element) → va_S A s.heap H locs → lv_has ls 3 [(0, .ref (aR 0)), (1, .int x1), (2, .int x2)] → S_MD_element_J38 x1 x2 q_element = some o → W p l e rm_X12_element s m ([.ref (aR 0), .int x1, .int x2] : List Value).toArray below meth c H locs 0 0 Q (F0 m 38 ls [.ref (aR 0)]) := by
      intro q_thrown H locs ls hP hD hS hl h
      rw [S_MD_element_J38] at h
      refine lv_iconst (v := 2) hx hb dX12_element_38 (by decide) ?_
      refine lv_goto (tgt := 43) hx hb dX12_element_39 (by decide) ?_
      exact B43 2 q_thrown H locs ls hP hD hS hl h
    refine lv_icmp_ne (tgt := 38) hx hb dX12_element_19 (by decide) (fun c19 => ?_) (fun c19 => ?_)
    · have h := k_neg c19 h
      exact B38 q_thrown H locs ls hP hD hS hl h
    · have h := k_pos c19 h
      refine lv_iload_n hx hb dX12_element_22 rfl (lv_at hl 2 rfl) ?_
      refine lv_iconst (v := 0) hx hb dX12_element_23 (by decide) ?_
      refine lv_aload_n hx hb dX12_element_24 rfl (lv_at hl 0 rfl) ?_
      refine va_get (D := D) (ci := 12) (v := .ref (aR 11)) (C := RX12) (T := TX12) (N := 18) hx hb hts hiX12 hown hK hP 0 rfl rfl 15 (by decide) hf40 (fun _ z => z) rfl dX12_element_25 ?_
      refine lv_iload_n hx hb dX12_element_28 rfl (lv_at hl 1 rfl) ?_
      refine va_iald hx hb hK hP 2 0 rfl rfl g17 dX12_element_29 ?_
      refine lv_iconst (v := 1) hx hb dX12_element_30 (by decide) ?_
      refine lv_isub hx hb dX12_element_31 ?_
      refine k_callS (As := [.int x2, .int 0, .int ((q_size x1.toNatClampNeg) - 1)]) (rest := [.ref (aR 0)]) (st1 := [.int (S_MD_isIn x2 0 ((q_size x1.toNatClampNeg) - 1)), .ref (aR 0)]) (ws2 := (Wd61 cI aR q_hasImage q_place q_rowAt q_rowEnd q_seed q_thrown q_kept q_size q_element)) hx hb hml hown hts hK hN hA hP hD hS hl (c_MD_isIn l D cI cM cS cJ H.size x2 0 ((q_size x1.toNatClampNeg) - 1) rfl) gX12_element_X12_isIn rfl kdS_X12_isIn [] ⟨rfl, rfl⟩ ⟨Nat.le_of_ble_eq_true rfl, Nat.le_of_ble_eq_true rfl⟩ ⟨Nat.zero_le _, Nat.zero_le _⟩ rfl rfl (by decide +kernel) rfl rfl rfl (Nat.le_of_ble_eq_true rfl) dX12_element_32 rfl (fun H locs hP hD hS => ?_)
      refine lv_if_ne (tgt := 42) hx hb dX12_element_35 (by decide) (fun c35 => ?_) (fun c35 => ?_)
      · have h := k_neg c35 h
        refine lv_iconst (v := 0) hx hb dX12_element_42 (by decide) ?_
        exact B43 0 q_thrown H locs ls hP hD hS hl h
      · have h := k_pos c35 h
        exact B38 q_thrown H locs ls hP hD hS hl h
  · have h := k_pos c5 h
    refine lv_iconst (v := 1) hx hb dX12_element_8 (by decide) ?_
    refine lv_goto (tgt := 43) hx hb dX12_element_9 (by decide) ?_
    exact B43 1 q_thrown H locs ls hP hD hS hl h
abbrev rm_X12_copy : Room := { frames := 2, cells := 0, slots := 0, locals := 42 }
set_option maxHeartbeats 4000000 in
set_option maxRecDepth 100000 in
theorem c_MD_copy (l : Launch) (D : va_G) (cI cM cS cJ : ClassId) (aR : Nat → Nat) (sz : Nat) (x1 : Int32) (x2 : Int32) (x3 : Int32) (x4 : Int32) (x5 : Int32) (q_hasImage : Int32) (q_place : Int32) (q_rowAt : Int32) (q_rowEnd : Int32) (q_seed : Int32) (q_thrown : Int32) (q_kept : Nat → Int32) (q_sort : Nat → Int32) (q_size : Nat → Int32) (q_element : Nat → Int32) {o : (Int32) × (Nat → Int32)} (hsem : S_MD_copy x1 x2 x3 x4 x5 q_kept q_sort q_size q_element = some o) : kMet l yX12_copy wsX12_copy rm_X12_copy [.ref (aR 0), .int x1, .int x2, .int x3, .int x4, .int x5] D (kT cI cM cS cJ) (Wd60 cI aR q_hasImage q_place q_rowAt q_rowEnd q_seed q_thrown q_kept q_sort q_size q_element) sz (some (.int o.1)) (Wd60 cI aR q_hasImage q_place q_rowAt q_rowEnd q_seed q_thrown q_kept q_sort q_size o.2) := by
  refine k_metI (by decide) rfl rfl (Nat.le_of_ble_eq_true rfl) ?_
  intro p e s m below meth c ls Q A hx hb hml hts hown hK hN hA hP hD hS hl hsz hnm hret
  have hown : s.vm.findClass RX12 = some m.cls := hown
  have hf28 := hts (.fieldLink RX12 28 "PlumbLineModel" "kept" "[I") (List.mem_of_getElem? (i := 1) rfl)
  have hf37 := hts (.fieldLink RX12 37 "PlumbLineModel" "sort" "[I") (List.mem_of_getElem? (i := 2) rfl)
  have hf40 := hts (.fieldLink RX12 40 "PlumbLineModel" "size" "[I") (List.mem_of_getElem? (i := 3) rfl)
  have hf43 := hts (.fieldLink RX12 43 "PlumbLineModel" "element" "[I") (List.mem_of_getElem? (i := 4) rfl)
  have hiX12 : ∀ w ∈ u_ws RX12 TX12 18, w ∈ wsX12_copy := fun w h => List.mem_cons_of_mem _ (List.mem_append_right _ h)
  replace hl : lv_has ls 8 [(0, .ref (aR 0)), (1, .int x1), (2, .int x2), (3, .int x3), (4, .int x4), (5, .int x5)] := hl
  have h := hsem
  clear hsem
  rw [S_MD_copy] at h
  refine lv_iload_n hx hb dX12_copy_0 rfl (lv_at hl 1 rfl) ?_
  obtain ⟨r1, g1, h⟩ := k_bind h
  refine k_callS (As := [.int x1]) (rest := []) (st1 := [.int r1]) (ws2 := (Wd60 cI aR q_hasImage q_place q_rowAt q_rowEnd q_seed q_thrown q_kept q_sort q_size q_element)) hx hb hml hown hts hK hN hA hP hD hS hl (c_MD_isShelf l D cI cM cS cJ s.heap.size x1 g1) gX12_copy_X12_isShelf rfl kdS_X12_isShelf [] ⟨rfl, rfl⟩ ⟨Nat.le_of_ble_eq_true rfl, Nat.le_of_ble_eq_true rfl⟩ ⟨Nat.zero_le _, Nat.zero_le _⟩ rfl rfl (by decide +kernel) rfl rfl rfl (Nat.le_of_ble_eq_true rfl) dX12_copy_1 rfl (fun H locs hP hD hS => ?_)
  refine lv_if_eq (tgt := 14) hx hb dX12_copy_4 (by decide) (fun c4 => ?_) (fun c4 => ?_)
  · have h := k_pos c4 h
    refine lv_iconst (v := (-1)) hx hb dX12_copy_14 (by decide) ?_
    cases h
    exact hret _ _ _ _ hP hS dX12_copy_15
  · have h := k_neg c4 h
    refine lv_iload_n hx hb dX12_copy_7 rfl (lv_at hl 3 rfl) ?_
    obtain ⟨r8, g8, h⟩ := k_bind h
    refine k_callS (As := [.int x3]) (rest := []) (st1 := [.int r8]) (ws2 := (Wd60 cI aR q_hasImage q_place q_rowAt q_rowEnd q_seed q_thrown q_kept q_sort q_size q_element)) hx hb hml hown hts hK hN hA hP hD hS hl (c_MD_isShelf l D cI cM cS cJ H.size x3 g8) gX12_copy_X12_isShelf rfl kdS_X12_isShelf [] ⟨rfl, rfl⟩ ⟨Nat.le_of_ble_eq_true rfl, Nat.le_of_ble_eq_true rfl⟩ ⟨Nat.zero_le _, Nat.zero_le _⟩ rfl rfl (by decide +kernel) rfl rfl rfl (Nat.le_of_ble_eq_true rfl) dX12_copy_8 rfl (fun H locs hP hD hS => ?_)
    refine lv_if_ne (tgt := 16) hx hb dX12_copy_11 (by decide) (fun c11 => ?_) (fun c11 => ?_)
    · have h := k_neg c11 h
      refine lv_aload_n hx hb dX12_copy_16 rfl (lv_at hl 0 rfl) ?_
      refine va_get (D := D) (ci := 12) (v := .ref (aR 7)) (C := RX12) (T := TX12) (N := 18) hx hb hts hiX12 hown hK hP 0 rfl rfl 11 (by decide) hf28 (fun _ z => z) rfl dX12_copy_17 ?_
      refine lv_iload_n hx hb dX12_copy_20 rfl (lv_at hl 1 rfl) ?_
      obtain ⟨g21, h⟩ := k_guard h
      refine va_iald hx hb hK hP 1 0 rfl rfl g21 dX12_copy_21 ?_
      refine lv_if_eq (tgt := 34) hx hb dX12_copy_22 (by decide) (fun c22 => ?_) (fun c22 => ?_)
      · have h := k_pos c22 h
        refine lv_bipush (v := (-11)) hx hb dX12_copy_34 (by decide) ?_
        cases h
        exact hret _ _ _ _ hP hS dX12_copy_36
      · have h := k_neg c22 h
        refine lv_aload_n hx hb dX12_copy_25 rfl (lv_at hl 0 rfl) ?_
        refine va_get (D := D) (ci := 12) (v := .ref (aR 7)) (C := RX12) (T := TX12) (N := 18) hx hb hts hiX12 hown hK hP 0 rfl rfl 11 (by decide) hf28 (fun _ z => z) rfl dX12_copy_26 ?_
        refine lv_iload_n hx hb dX12_copy_29 rfl (lv_at hl 3 rfl) ?_
        obtain ⟨g30, h⟩ := k_guard h
        refine va_iald hx hb hK hP 1 0 rfl rfl g30 dX12_copy_30 ?_
        refine lv_if_ne (tgt := 37) hx hb dX12_copy_31 (by decide) (fun c31 => ?_) (fun c31 => ?_)
        · have h := k_neg c31 h
          refine lv_aload_n hx hb dX12_copy_37 rfl (lv_at hl 0 rfl) ?_
          refine va_get (D := D) (ci := 12) (v := .ref (aR 7)) (C := RX12) (T := TX12) (N := 18) hx hb hts hiX12 hown hK hP 0 rfl rfl 11 (by decide) hf28 (fun _ z => z) rfl dX12_copy_38 ?_
          refine lv_iload_n hx hb dX12_copy_41 rfl (lv_at hl 1 rfl) ?_
          refine va_iald hx hb hK hP 1 0 rfl rfl g21 dX12_copy_42 ?_
          refine lv_iconst (v := 2) hx hb dX12_copy_43 (by decide) ?_
          refine lv_icmp_ne (tgt := 72) hx hb dX12_copy_44 (by decide) (fun c44 => ?_) (fun c44 => ?_)
          · have h := k_neg c44 h
            refine lv_bipush (v := (-12)) hx hb dX12_copy_72 (by decide) ?_
            cases h
            exact hret _ _ _ _ hP hS dX12_copy_74
          · have h := k_pos c44 h
            refine lv_aload_n hx hb dX12_copy_47 rfl (lv_at hl 0 rfl) ?_
            refine va_get (D := D) (ci := 12) (v := .ref (aR 7)) (C := RX12) (T := TX12) (N := 18) hx hb hts hiX12 hown hK hP 0 rfl rfl 11 (by decide) hf28 (fun _ z => z) rfl dX12_copy_48 ?_
            refine lv_iload_n hx hb dX12_copy_51 rfl (lv_at hl 3 rfl) ?_
            refine va_iald hx hb hK hP 1 0 rfl rfl g30 dX12_copy_52 ?_
            refine lv_iconst (v := 2) hx hb dX12_copy_53 (by decide) ?_
            refine lv_icmp_ne (tgt := 72) hx hb dX12_copy_54 (by decide) (fun c54 => ?_) (fun c54 => ?_)
            · have h := k_neg c54 h
              refine lv_bipush (v := (-12)) hx hb dX12_copy_72 (by decide) ?_
              cases h
              exact hret _ _ _ _ hP hS dX12_copy_74
            · have h := k_pos c54 h
              refine lv_aload_n hx hb dX12_copy_57 rfl (lv_at hl 0 rfl) ?_
              refine va_get (D := D) (ci := 12) (v := .ref (aR 10)) (C := RX12) (T := TX12) (N := 18) hx hb hts hiX12 hown hK hP 0 rfl rfl 14 (by decide) hf37 (fun _ z => z) rfl dX12_copy_58 ?_
              refine lv_iload_n hx hb dX12_copy_61 rfl (lv_at hl 1 rfl) ?_
              refine va_iald hx hb hK hP 2 0 rfl rfl g21 dX12_copy_62 ?_
              refine lv_aload_n hx hb dX12_copy_63 rfl (lv_at hl 0 rfl) ?_
              refine va_get (D := D) (ci := 12) (v := .ref (aR 10)) (C := RX12) (T := TX12) (N := 18) hx hb hts hiX12 hown hK hP 0 rfl rfl 14 (by decide) hf37 (fun _ z => z) rfl dX12_copy_64 ?_
              refine lv_iload_n hx hb dX12_copy_67 rfl (lv_at hl 3 rfl) ?_
              refine va_iald hx hb hK hP 2 0 rfl rfl g30 dX12_copy_68 ?_
              refine lv_icmp_eq (tgt := 75) hx hb dX12_copy_69 (by decide) (fun c69 => ?_) (fun c69 => ?_)
              · have h := k_pos c69 h
                refine lv_iload hx hb dX12_copy_75 (lv_at hl 5 rfl) ?_
                refine lv_if_lt (tgt := 116) hx hb dX12_copy_77 (by decide) (fun c77 => ?_) (fun c77 => ?_)
                · have h := k_pos c77 h
                  refine lv_bipush (v := (-13)) hx hb dX12_copy_116 (by decide) ?_
                  cases h
                  exact hret _ _ _ _ hP hS dX12_copy_118
                · have h := k_neg c77 h
                  refine lv_iload_n hx hb dX12_copy_80 rfl (lv_at hl 2 rfl) ?_
                  refine lv_if_lt (tgt := 116) hx hb dX12_copy_81 (by decide) (fun c81 => ?_) (fun c81 => ?_)
                  · have h := k_pos c81 h
                    refine lv_bipush (v := (-13)) hx hb dX12_copy_116 (by decide) ?_
                    cases h
                    exact hret _ _ _ _ hP hS dX12_copy_118
                  · have h := k_neg c81 h
                    refine lv_iload hx hb dX12_copy_84 (lv_at hl 4 rfl) ?_
                    refine lv_if_lt (tgt := 116) hx hb dX12_copy_86 (by decide) (fun c86 => ?_) (fun c86 => ?_)
                    · have h := k_pos c86 h
                      refine lv_bipush (v := (-13)) hx hb dX12_copy_116 (by decide) ?_
                      cases h
                      exact hret _ _ _ _ hP hS dX12_copy_118
                    · have h := k_neg c86 h
                      refine lv_iload hx hb dX12_copy_89 (lv_at hl 5 rfl) ?_
                      refine lv_aload_n hx hb dX12_copy_91 rfl (lv_at hl 0 rfl) ?_
                      refine va_get (D := D) (ci := 12) (v := .ref (aR 11)) (C := RX12) (T := TX12) (N := 18) hx hb hts hiX12 hown hK hP 0 rfl rfl 15 (by decide) hf40 (fun _ z => z) rfl dX12_copy_92 ?_
                      refine lv_iload_n hx hb dX12_copy_95 rfl (lv_at hl 1 rfl) ?_
                      refine va_iald hx hb hK hP 3 0 rfl rfl g21 dX12_copy_96 ?_
                      refine lv_iload_n hx hb dX12_copy_97 rfl (lv_at hl 2 rfl) ?_
                      refine lv_isub hx hb dX12_copy_98 ?_
                      refine lv_icmp_gt (tgt := 116) hx hb dX12_copy_99 (by decide) (fun c99 => ?_) (fun c99 => ?_)
                      · have h := k_pos c99 h
                        refine lv_bipush (v := (-13)) hx hb dX12_copy_116 (by decide) ?_
                        cases h
                        exact hret _ _ _ _ hP hS dX12_copy_118
                      · have h := k_neg c99 h
                        refine lv_iload hx hb dX12_copy_102 (lv_at hl 5 rfl) ?_
                        refine lv_aload_n hx hb dX12_copy_104 rfl (lv_at hl 0 rfl) ?_
                        refine va_get (D := D) (ci := 12) (v := .ref (aR 11)) (C := RX12) (T := TX12) (N := 18) hx hb hts hiX12 hown hK hP 0 rfl rfl 15 (by decide) hf40 (fun _ z => z) rfl dX12_copy_105 ?_
                        refine lv_iload_n hx hb dX12_copy_108 rfl (lv_at hl 3 rfl) ?_
                        refine va_iald hx hb hK hP 3 0 rfl rfl g30 dX12_copy_109 ?_
                        refine lv_iload hx hb dX12_copy_110 (lv_at hl 4 rfl) ?_
                        refine lv_isub hx hb dX12_copy_112 ?_
                        refine lv_icmp_le (tgt := 119) hx hb dX12_copy_113 (by decide) (fun c113 => ?_) (fun c113 => ?_)
                        · have h := k_pos c113 h
                          refine lv_iconst (v := 0) hx hb dX12_copy_119 (by decide) ?_
                          have B122 : ∀ (n122 : Nat) (y6 : Int32) (q_element : Nat → Int32) (H : Heap) (locs : List Loc) (ls : Array Slot), va_P D vwCl (Wd60 cI aR q_hasImage q_place q_rowAt q_rowEnd q_seed q_thrown q_kept q_sort q_size q_element) H → va_D A (Wd60 cI aR q_hasImage q_place q_rowAt q_rowEnd q_seed q_thrown q_kept q_sort q_size q_element) → va_S A s.heap H locs → lv_has ls 8 [(0, .ref (aR 0)), (1, .int x1), (2, .int x2), (3, .int x3), (4, .int x4), (5, .int x5), (6, .int y6)] → S_MD_copy_L122 x1 x2 x3 x4 x5 n122 y6 q_element = some o → W p l e rm_X12_copy s m ([.ref (aR 0), .int x1, .int x2, .int x3, .int x4, .int x5] : List Value).toArray below meth c H locs 0 0 Q (F0 m 122 ls []) := by
                            intro n122
                            induction n122 with
                            | zero => intro y6 q_element H locs ls hP hD hS hl h; exact absurd h (by simp [S_MD_copy_L122])
                            | succ n122 ih122 =>
                              intro y6 q_element H locs ls hP hD hS hl h
                              rw [S_MD_copy_L122] at h
                              refine lv_iload hx hb dX12_copy_122 (lv_at hl 6 rfl) ?_
                              refine lv_iload hx hb dX12_copy_124 (lv_at hl 5 rfl) ?_
                              refine lv_icmp_ge (tgt := 184) hx hb dX12_copy_126 (by decide) (fun c126 => ?_) (fun c126 => ?_)
                              · have h := k_pos c126 h
                                refine lv_iload hx hb dX12_copy_184 (lv_at hl 5 rfl) ?_
                                cases h
                                exact hret _ _ _ _ hP hS dX12_copy_186
                              · have h := k_neg c126 h
                                refine lv_iload_n hx hb dX12_copy_129 rfl (lv_at hl 2 rfl) ?_
                                refine lv_iload hx hb dX12_copy_130 (lv_at hl 4 rfl) ?_
                                have B147 : ∀ (y6 : Int32) (v0 : Int32) (q_element : Nat → Int32) (H : Heap) (locs : List Loc) (ls : Array Slot), va_P D vwCl (Wd60 cI aR q_hasImage q_place q_rowAt q_rowEnd q_seed q_thrown q_kept q_sort q_size q_element) H → va_D A (Wd60 cI aR q_hasImage q_place q_rowAt q_rowEnd q_seed q_thrown q_kept q_sort q_size q_element) → va_S A s.heap H locs → lv_has ls 8 [(0, .ref (aR 0)), (1, .int x1), (2, .int x2), (3, .int x3), (4, .int x4), (5, .int x5), (6, .int y6)] → S_MD_copy_J147 (S_MD_copy_L122 x1 x2 x3 x4 x5 n122) x1 x2 x3 x4 y6 v0 q_element = some o → W p l e rm_X12_copy s m ([.ref (aR 0), .int x1, .int x2, .int x3, .int x4, .int x5] : List Value).toArray below meth c H locs 0 0 Q (F0 m 147 ls [.int v0]) := by
                                  intro y6 v0 q_element H locs ls hP hD hS hl h
                                  rw [S_MD_copy_J147] at h
                                  refine lv_istore (lv' := [(7, .int v0), (0, .ref (aR 0)), (1, .int x1), (2, .int x2), (3, .int x3), (4, .int x4), (5, .int x5), (6, .int y6)]) hx hb dX12_copy_147 hl (by decide) rfl (fun ls hl => ?_)
                                  refine lv_aload_n hx hb dX12_copy_149 rfl (lv_at hl 1 rfl) ?_
                                  refine va_get (D := D) (ci := 12) (v := .ref (aR 12)) (C := RX12) (T := TX12) (N := 18) hx hb hts hiX12 hown hK hP 0 rfl rfl 16 (by decide) hf43 (fun _ z => z) rfl dX12_copy_150 ?_
                                  refine lv_bipush (v := 100) hx hb dX12_copy_153 (by decide) ?_
                                  refine lv_iload_n hx hb dX12_copy_155 rfl (lv_at hl 4 rfl) ?_
                                  refine lv_imul hx hb dX12_copy_156 ?_
                                  refine lv_iload hx hb dX12_copy_157 (lv_at hl 5 rfl) ?_
                                  refine lv_iadd hx hb dX12_copy_159 ?_
                                  refine lv_iload hx hb dX12_copy_160 (lv_at hl 0 rfl) ?_
                                  refine lv_iadd hx hb dX12_copy_162 ?_
                                  refine lv_aload_n hx hb dX12_copy_163 rfl (lv_at hl 1 rfl) ?_
                                  refine va_get (D := D) (ci := 12) (v := .ref (aR 12)) (C := RX12) (T := TX12) (N := 18) hx hb hts hiX12 hown hK hP 0 rfl rfl 16 (by decide) hf43 (fun _ z => z) rfl dX12_copy_164 ?_
                                  refine lv_bipush (v := 100) hx hb dX12_copy_167 (by decide) ?_
                                  refine lv_iload_n hx hb dX12_copy_169 rfl (lv_at hl 2 rfl) ?_
                                  refine lv_imul hx hb dX12_copy_170 ?_
                                  refine lv_iload_n hx hb dX12_copy_171 rfl (lv_at hl 3 rfl) ?_
                                  refine lv_iadd hx hb dX12_copy_172 ?_
                                  refine lv_iload hx hb dX12_copy_173 (lv_at hl 0 rfl) ?_
                                  refine lv_iadd hx hb dX12_copy_175 ?_
                                  obtain ⟨g176, h⟩ := k_guard h
                                  refine va_iald hx hb hK hP 4 0 rfl rfl g176 dX12_copy_176 ?_
                                  obtain ⟨g177, h⟩ := k_guard h
                                  refine va_iast hx hb hK hP hD hS 4 0 rfl rfl g177 dX12_copy_177 (fun H locs hP hD hS => ?_)
                                  replace hP : va_P D vwCl (Wd60 cI aR q_hasImage q_place q_rowAt q_rowEnd q_seed q_thrown q_kept q_sort q_size (upd q_element ((((100 : Int32) * x3) + x4) + v0).toNatClampNeg (q_element ((((100 : Int32) * x1) + x2) + v0).toNatClampNeg))) H := hP
                                  replace hD : va_D A (Wd60 cI aR q_hasImage q_place q_rowAt q_rowEnd q_seed q_thrown q_kept q_sort q_size (upd q_element ((((100 : Int32) * x3) + x4) + v0).toNatClampNeg (q_element ((((100 : Int32) * x1) + x2) + v0).toNatClampNeg))) := hD
                                  refine lv_iinc (v := (y6 + 1)) (lv' := [(6, .int (y6 + 1)), (7, .int v0), (0, .ref (aR 0)), (1, .int x1), (2, .int x2), (3, .int x3), (4, .int x4), (5, .int x5)]) hx hb dX12_copy_178 hl (k := 7) rfl (by first | rfl | decide) (by decide) rfl (fun ls hl => ?_)
                                  refine lv_goto (tgt := 122) hx hb dX12_copy_181 (by decide) ?_
                                  exact ih122 (y6 + 1) (upd q_element ((((100 : Int32) * x3) + x4) + v0).toNatClampNeg (q_element ((((100 : Int32) * x1) + x2) + v0).toNatClampNeg)) H locs ls hP hD hS (lv_sub hl [2, 3, 4, 5, 6, 7, 0] rfl) h
                                refine lv_icmp_le (tgt := 140) hx hb dX12_copy_132 (by decide) (fun c132 => ?_) (fun c132 => ?_)
                                · have h := k_pos c132 h
                                  refine lv_iload hx hb dX12_copy_140 (lv_at hl 5 rfl) ?_
                                  refine lv_iconst (v := 1) hx hb dX12_copy_142 (by decide) ?_
                                  refine lv_isub hx hb dX12_copy_143 ?_
                                  refine lv_iload hx hb dX12_copy_144 (lv_at hl 6 rfl) ?_
                                  refine lv_isub hx hb dX12_copy_146 ?_
                                  exact B147 y6 ((x5 - 1) - y6) q_element H locs ls hP hD hS hl h
                                · have h := k_neg c132 h
                                  refine lv_iload hx hb dX12_copy_135 (lv_at hl 6 rfl) ?_
                                  refine lv_goto (tgt := 147) hx hb dX12_copy_137 (by decide) ?_
                                  exact B147 y6 y6 q_element H locs ls hP hD hS hl h
                          refine lv_istore (lv' := [(6, .int 0), (0, .ref (aR 0)), (1, .int x1), (2, .int x2), (3, .int x3), (4, .int x4), (5, .int x5)]) hx hb dX12_copy_120 hl (by decide) rfl (fun ls hl => ?_)
                          exact B122 lfu 0 q_element H locs ls hP hD hS (lv_sub hl [1, 2, 3, 4, 5, 6, 0] rfl) h
                        · have h := k_neg c113 h
                          refine lv_bipush (v := (-13)) hx hb dX12_copy_116 (by decide) ?_
                          cases h
                          exact hret _ _ _ _ hP hS dX12_copy_118
              · have h := k_neg c69 h
                refine lv_bipush (v := (-12)) hx hb dX12_copy_72 (by decide) ?_
                cases h
                exact hret _ _ _ _ hP hS dX12_copy_74
        · have h := k_pos c31 h
          refine lv_bipush (v := (-11)) hx hb dX12_copy_34 (by decide) ?_
          cases h
          exact hret _ _ _ _ hP hS dX12_copy_36
    · have h := k_pos c11 h
      refine lv_iconst (v := (-1)) hx hb dX12_copy_14 (by decide) ?_
      cases h
      exact hret _ _ _ _ hP hS dX12_copy_15
abbrev rm_X12_costBy : Room := { frames := 0, cells := 0, slots := 0, locals := 0 }
set_option maxHeartbeats 4000000 in
set_option maxRecDepth 100000 in
theorem c_MD_costBy (l : Launch) (D : va_G) (cI cM cS cJ : ClassId) (sz : Nat) (x0 : Int32) (x1 : Int32) {o : (Int32)} (hsem : S_MD_costBy x0 x1 = o) : kMet l yX12_costBy wsX12_costBy rm_X12_costBy [.int x0, .int x1] D (kT cI cM cS cJ) (Wd0) sz (some (.int o)) (Wd0) := by
  refine k_metI (by decide) rfl rfl (Nat.le_of_ble_eq_true rfl) ?_
  intro p e s m below meth c ls Q A hx hb hml hts hown hK hN hA hP hD hS hl hsz hnm hret
  have hown : s.vm.findClass RX12 = some m.cls := hown
  replace hl : lv_has ls 2 [(0, .int x0), (1, .int x1)] := hl
  have h := hsem
  clear hsem
  rw [S_MD_costBy] at h
  refine lv_iload_n hx hb dX12_costBy_0 rfl (lv_at hl 0 rfl) ?_
  by_cases s1_1 : x0 = 1
  · refine k_tblI (tgt := 44) (v := 1) hx hb dX12_costBy_1 s1_1 (by decide) (by decide) rfl (by decide) ?_
    have h := k_pos s1_1 h
    refine lv_iconst (v := 3) hx hb dX12_costBy_44 (by decide) ?_
    refine lv_iload_n hx hb dX12_costBy_45 rfl (lv_at hl 1 rfl) ?_
    refine lv_iadd hx hb dX12_costBy_46 ?_
    cases h
    exact hret _ _ _ _ hP hS dX12_costBy_47
  · have h := k_neg s1_1 h
    by_cases s1_2 : x0 = 2
    · refine k_tblI (tgt := 48) (v := 2) hx hb dX12_costBy_1 s1_2 (by decide) (by decide) rfl (by decide) ?_
      have h := k_pos s1_2 h
      refine lv_iconst (v := 1) hx hb dX12_costBy_48 (by decide) ?_
      cases h
      exact hret _ _ _ _ hP hS dX12_costBy_49
    · have h := k_neg s1_2 h
      by_cases s1_3 : x0 = 3
      · refine k_tblI (tgt := 50) (v := 3) hx hb dX12_costBy_1 s1_3 (by decide) (by decide) rfl (by decide) ?_
        have h := k_pos s1_3 h
        refine lv_iconst (v := 2) hx hb dX12_costBy_50 (by decide) ?_
        cases h
        exact hret _ _ _ _ hP hS dX12_costBy_51
      · have h := k_neg s1_3 h
        by_cases s1_4 : x0 = 4
        · refine k_tblI (tgt := 52) (v := 4) hx hb dX12_costBy_1 s1_4 (by decide) (by decide) rfl (by decide) ?_
          have h := k_pos s1_4 h
          refine lv_iconst (v := 2) hx hb dX12_costBy_52 (by decide) ?_
          refine lv_iconst (v := 3) hx hb dX12_costBy_53 (by decide) ?_
          refine lv_iload_n hx hb dX12_costBy_54 rfl (lv_at hl 1 rfl) ?_
          refine lv_iadd hx hb dX12_costBy_55 ?_
          refine lv_imul hx hb dX12_costBy_56 ?_
          cases h
          exact hret _ _ _ _ hP hS dX12_costBy_57
        · have h := k_neg s1_4 h
          by_cases s1_5 : x0 = 5
          · refine k_tblI (tgt := 58) (v := 5) hx hb dX12_costBy_1 s1_5 (by decide) (by decide) rfl (by decide) ?_
            have h := k_pos s1_5 h
            refine lv_iconst (v := 0) hx hb dX12_costBy_58 (by decide) ?_
            cases h
            exact hret _ _ _ _ hP hS dX12_costBy_59
          · have h := k_neg s1_5 h
            by_cases s1_6 : x0 = 6
            · refine k_tblI (tgt := 52) (v := 6) hx hb dX12_costBy_1 s1_6 (by decide) (by decide) rfl (by decide) ?_
              have h := k_pos s1_6 h
              refine lv_iconst (v := 2) hx hb dX12_costBy_52 (by decide) ?_
              refine lv_iconst (v := 3) hx hb dX12_costBy_53 (by decide) ?_
              refine lv_iload_n hx hb dX12_costBy_54 rfl (lv_at hl 1 rfl) ?_
              refine lv_iadd hx hb dX12_costBy_55 ?_
              refine lv_imul hx hb dX12_costBy_56 ?_
              cases h
              exact hret _ _ _ _ hP hS dX12_costBy_57
            · have h := k_neg s1_6 h
              by_cases s1_7 : x0 = 7
              · refine k_tblI (tgt := 60) (v := 7) hx hb dX12_costBy_1 s1_7 (by decide) (by decide) rfl (by decide) ?_
                have h := k_pos s1_7 h
                refine lv_bipush (v := 6) hx hb dX12_costBy_60 (by decide) ?_
                cases h
                exact hret _ _ _ _ hP hS dX12_costBy_62
              · have h := k_neg s1_7 h
                refine lv_tableOut (tgt := 63) hx hb dX12_costBy_1 (k_out [1, 2, 3, 4, 5, 6, 7] (by decide) (List.forall_mem_cons.mpr ⟨s1_1, (List.forall_mem_cons.mpr ⟨s1_2, (List.forall_mem_cons.mpr ⟨s1_3, (List.forall_mem_cons.mpr ⟨s1_4, (List.forall_mem_cons.mpr ⟨s1_5, (List.forall_mem_cons.mpr ⟨s1_6, (List.forall_mem_cons.mpr ⟨s1_7, (fun _ z => absurd z List.not_mem_nil)⟩)⟩)⟩)⟩)⟩)⟩)⟩)) (by decide) ?_
                refine lv_iconst (v := 3) hx hb dX12_costBy_63 (by decide) ?_
                cases h
                exact hret _ _ _ _ hP hS dX12_costBy_64
theorem kdS_X12_costBy : yX12_costBy.cls ≠ "java/lang/invoke/MethodHandle" ∧ yX12_costBy.cls ≠ "java/lang/invoke/VarHandle" ∧ (parseMethodDescriptor yX12_costBy.desc).map (fun d => d.parameters.length) = some 2 := by decide +kernel
abbrev rm_X12_cost : Room := { frames := 3, cells := 0, slots := 0, locals := 63 }
set_option maxHeartbeats 4000000 in
set_option maxRecDepth 100000 in
theorem c_MD_cost (l : Launch) (D : va_G) (cI cM cS cJ : ClassId) (aR : Nat → Nat) (sz : Nat) (x1 : Int32) (q_hasImage : Int32) (q_place : Int32) (q_rowAt : Int32) (q_rowEnd : Int32) (q_seed : Int32) (q_thrown : Int32) (q_kept : Nat → Int32) (q_keptKind : Nat → Int32) (q_keptFigure : Nat → Int32) {o : (Int32)} (hsem : S_MD_cost x1 q_kept q_keptKind q_keptFigure = some o) : kMet l yX12_cost wsX12_cost rm_X12_cost [.ref (aR 0), .int x1] D (kT cI cM cS cJ) (Wd59 cI aR q_hasImage q_place q_rowAt q_rowEnd q_seed q_thrown q_kept q_keptKind q_keptFigure) sz (some (.int o)) (Wd59 cI aR q_hasImage q_place q_rowAt q_rowEnd q_seed q_thrown q_kept q_keptKind q_keptFigure) := by
  refine k_metI (by decide) rfl rfl (Nat.le_of_ble_eq_true rfl) ?_
  intro p e s m below meth c ls Q A hx hb hml hts hown hK hN hA hP hD hS hl hsz hnm hret
  have hown : s.vm.findClass RX12 = some m.cls := hown
  have hf31 := hts (.fieldLink RX12 31 "PlumbLineModel" "keptKind" "[I") (List.mem_of_getElem? (i := 1) rfl)
  have hf34 := hts (.fieldLink RX12 34 "PlumbLineModel" "keptFigure" "[I") (List.mem_of_getElem? (i := 2) rfl)
  have hiX12 : ∀ w ∈ u_ws RX12 TX12 18, w ∈ wsX12_cost := fun w h => List.mem_cons_of_mem _ (List.mem_append_right _ h)
  replace hl : lv_has ls 3 [(0, .ref (aR 0)), (1, .int x1)] := hl
  have h := hsem
  clear hsem
  rw [S_MD_cost] at h
  refine lv_aload_n hx hb dX12_cost_0 rfl (lv_at hl 0 rfl) ?_
  refine lv_iload_n hx hb dX12_cost_1 rfl (lv_at hl 1 rfl) ?_
  obtain ⟨r2, g2, h⟩ := k_bind h
  refine k_callV (As := [.int x1]) (rest := []) (st1 := [.int r2]) (ws2 := (Wd59 cI aR q_hasImage q_place q_rowAt q_rowEnd q_seed q_thrown q_kept q_keptKind q_keptFigure)) hx hb hml hown hts hK hN hA hP hD hS hl (c_MD_wrongKept l D cI cM cS cJ aR s.heap.size x1 q_hasImage q_place q_rowAt q_rowEnd q_seed q_thrown q_kept g2) gX12_cost_X12_wrongKept rfl kdV_X12_wrongKept 0 12 rfl rfl rfl [0, 1] ⟨rfl, rfl⟩ ⟨Nat.le_of_ble_eq_true rfl, Nat.le_of_ble_eq_true rfl⟩ ⟨Nat.zero_le _, Nat.zero_le _⟩ rfl rfl (by decide +kernel) rfl rfl rfl (Nat.le_of_ble_eq_true rfl) dX12_cost_2 rfl (fun H locs hP hD hS => ?_)
  refine lv_istore_n (lv' := [(2, .int r2), (0, .ref (aR 0)), (1, .int x1)]) hx hb dX12_cost_5 rfl hl (by decide) rfl (fun ls hl => ?_)
  refine lv_iload_n hx hb dX12_cost_6 rfl (lv_at hl 0 rfl) ?_
  refine lv_if_eq (tgt := 14) hx hb dX12_cost_7 (by decide) (fun c7 => ?_) (fun c7 => ?_)
  · have h := k_pos c7 h
    refine lv_aload_n hx hb dX12_cost_14 rfl (lv_at hl 1 rfl) ?_
    refine va_get (D := D) (ci := 12) (v := .ref (aR 8)) (C := RX12) (T := TX12) (N := 18) hx hb hts hiX12 hown hK hP 0 rfl rfl 12 (by decide) hf31 (fun _ z => z) rfl dX12_cost_15 ?_
    refine lv_iload_n hx hb dX12_cost_18 rfl (lv_at hl 2 rfl) ?_
    obtain ⟨g19, h⟩ := k_guard h
    refine va_iald hx hb hK hP 2 0 rfl rfl g19 dX12_cost_19 ?_
    refine lv_aload_n hx hb dX12_cost_20 rfl (lv_at hl 1 rfl) ?_
    refine va_get (D := D) (ci := 12) (v := .ref (aR 9)) (C := RX12) (T := TX12) (N := 18) hx hb hts hiX12 hown hK hP 0 rfl rfl 13 (by decide) hf34 (fun _ z => z) rfl dX12_cost_21 ?_
    refine lv_iload_n hx hb dX12_cost_24 rfl (lv_at hl 2 rfl) ?_
    refine va_iald hx hb hK hP 3 0 rfl rfl g19 dX12_cost_25 ?_
    refine k_callS (As := [.int (q_keptKind x1.toNatClampNeg), .int (q_keptFigure x1.toNatClampNeg)]) (rest := []) (st1 := [.int (S_MD_costBy (q_keptKind x1.toNatClampNeg) (q_keptFigure x1.toNatClampNeg))]) (ws2 := (Wd59 cI aR q_hasImage q_place q_rowAt q_rowEnd q_seed q_thrown q_kept q_keptKind q_keptFigure)) hx hb hml hown hts hK hN hA hP hD hS hl (c_MD_costBy l D cI cM cS cJ H.size (q_keptKind x1.toNatClampNeg) (q_keptFigure x1.toNatClampNeg) rfl) gX12_cost_X12_costBy rfl kdS_X12_costBy [] ⟨rfl, rfl⟩ ⟨Nat.le_of_ble_eq_true rfl, Nat.le_of_ble_eq_true rfl⟩ ⟨Nat.zero_le _, Nat.zero_le _⟩ rfl rfl (by decide +kernel) rfl rfl rfl (Nat.le_of_ble_eq_true rfl) dX12_cost_26 rfl (fun H locs hP hD hS => ?_)
    cases h
    exact hret _ _ _ _ hP hS dX12_cost_29
  · have h := k_neg c7 h
    refine lv_iload_n hx hb dX12_cost_10 rfl (lv_at hl 0 rfl) ?_
    refine lv_goto (tgt := 29) hx hb dX12_cost_11 (by decide) ?_
    cases h
    exact hret _ _ _ _ hP hS dX12_cost_29
