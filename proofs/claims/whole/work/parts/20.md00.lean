abbrev rm_X12_isIn : Room := { frames := 0, cells := 0, slots := 0, locals := 0 }
set_option maxHeartbeats 4000000 in
set_option maxRecDepth 100000 in
theorem c_MD_isIn (l : Launch) (D : va_G) (cI cM cS cJ : ClassId) (sz : Nat) (x0 : Int32) (x1 : Int32) (x2 : Int32) {o : (Int32)} (hsem : S_MD_isIn x0 x1 x2 = o) : kMet l yX12_isIn wsX12_isIn rm_X12_isIn [.int x0, .int x1, .int x2] D (kT cI cM cS cJ) (Wd0) sz (some (.int o)) (Wd0) := by
  refine k_metZ (by decide) rfl rfl (Nat.le_of_ble_eq_true rfl) ?_
  intro p e s m below meth c ls Q A hx hb hml hts hown hK hN hA hP hD hS hl hsz hnm hret
  have hown : s.vm.findClass RX12 = some m.cls := hown
  replace hl : lv_has ls 3 [(0, .int x0), (1, .int x1), (2, .int x2)] := hl
  have h := hsem
  clear hsem
  rw [S_MD_isIn] at h
  refine lv_iload_n hx hb dX12_isIn_0 rfl (lv_at hl 0 rfl) ?_
  refine lv_iload_n hx hb dX12_isIn_1 rfl (lv_at hl 1 rfl) ?_
  refine lv_icmp_lt (tgt := 14) hx hb dX12_isIn_2 (by decide) (fun c2 => ?_) (fun c2 => ?_)
  · have h := k_pos c2 h
    refine lv_iconst (v := 0) hx hb dX12_isIn_14 (by decide) ?_
    subst h
    exact hret _ _ _ _ rfl hP hS dX12_isIn_15
  · have h := k_neg c2 h
    refine lv_iload_n hx hb dX12_isIn_5 rfl (lv_at hl 0 rfl) ?_
    refine lv_iload_n hx hb dX12_isIn_6 rfl (lv_at hl 2 rfl) ?_
    refine lv_icmp_gt (tgt := 14) hx hb dX12_isIn_7 (by decide) (fun c7 => ?_) (fun c7 => ?_)
    · have h := k_pos c7 h
      refine lv_iconst (v := 0) hx hb dX12_isIn_14 (by decide) ?_
      subst h
      exact hret _ _ _ _ rfl hP hS dX12_isIn_15
    · have h := k_neg c7 h
      refine lv_iconst (v := 1) hx hb dX12_isIn_10 (by decide) ?_
      refine lv_goto (tgt := 15) hx hb dX12_isIn_11 (by decide) ?_
      subst h
      exact hret _ _ _ _ rfl hP hS dX12_isIn_15
abbrev rm_X12_sized : Room := { frames := 0, cells := 0, slots := 0, locals := 0 }
set_option maxHeartbeats 4000000 in
set_option maxRecDepth 100000 in
theorem c_MD_sized (l : Launch) (D : va_G) (cI cM cS cJ : ClassId) (sz : Nat) (x0 : Int32) {o : (Int32)} (hsem : S_MD_sized x0 = o) : kMet l yX12_sized wsX12_sized rm_X12_sized [.int x0] D (kT cI cM cS cJ) (Wd0) sz (some (.int o)) (Wd0) := by
  refine k_metI (by decide) rfl rfl (Nat.le_of_ble_eq_true rfl) ?_
  intro p e s m below meth c ls Q A hx hb hml hts hown hK hN hA hP hD hS hl hsz hnm hret
  have hown : s.vm.findClass RX12 = some m.cls := hown
  replace hl : lv_has ls 1 [(0, .int x0)] := hl
  have h := hsem
  clear hsem
  rw [S_MD_sized] at h
  refine lv_iload_n hx hb dX12_sized_0 rfl (lv_at hl 0 rfl) ?_
  refine lv_if_ge (tgt := 9) hx hb dX12_sized_1 (by decide) (fun c1 => ?_) (fun c1 => ?_)
  · have h := k_pos c1 h
    refine lv_iload_n hx hb dX12_sized_9 rfl (lv_at hl 0 rfl) ?_
    subst h
    exact hret _ _ _ _ hP hS dX12_sized_10
  · have h := k_neg c1 h
    refine lv_iload_n hx hb dX12_sized_4 rfl (lv_at hl 0 rfl) ?_
    refine lv_ineg hx hb dX12_sized_5 ?_
    refine lv_goto (tgt := 10) hx hb dX12_sized_6 (by decide) ?_
    subst h
    exact hret _ _ _ _ hP hS dX12_sized_10
abbrev rm_X12_signOf : Room := { frames := 0, cells := 0, slots := 0, locals := 0 }
set_option maxHeartbeats 4000000 in
set_option maxRecDepth 100000 in
theorem c_MD_signOf (l : Launch) (D : va_G) (cI cM cS cJ : ClassId) (sz : Nat) (x0 : Int32) {o : (Int32)} (hsem : S_MD_signOf x0 = o) : kMet l yX12_signOf wsX12_signOf rm_X12_signOf [.int x0] D (kT cI cM cS cJ) (Wd0) sz (some (.int o)) (Wd0) := by
  refine k_metI (by decide) rfl rfl (Nat.le_of_ble_eq_true rfl) ?_
  intro p e s m below meth c ls Q A hx hb hml hts hown hK hN hA hP hD hS hl hsz hnm hret
  have hown : s.vm.findClass RX12 = some m.cls := hown
  replace hl : lv_has ls 1 [(0, .int x0)] := hl
  have h := hsem
  clear hsem
  rw [S_MD_signOf] at h
  refine lv_iload_n hx hb dX12_signOf_0 rfl (lv_at hl 0 rfl) ?_
  refine lv_if_le (tgt := 8) hx hb dX12_signOf_1 (by decide) (fun c1 => ?_) (fun c1 => ?_)
  · have h := k_pos c1 h
    refine lv_iload_n hx hb dX12_signOf_8 rfl (lv_at hl 0 rfl) ?_
    refine lv_if_ge (tgt := 16) hx hb dX12_signOf_9 (by decide) (fun c9 => ?_) (fun c9 => ?_)
    · have h := k_pos c9 h
      refine lv_iconst (v := 0) hx hb dX12_signOf_16 (by decide) ?_
      subst h
      exact hret _ _ _ _ hP hS dX12_signOf_17
    · have h := k_neg c9 h
      refine lv_iconst (v := (-1)) hx hb dX12_signOf_12 (by decide) ?_
      refine lv_goto (tgt := 17) hx hb dX12_signOf_13 (by decide) ?_
      subst h
      exact hret _ _ _ _ hP hS dX12_signOf_17
  · have h := k_neg c1 h
    refine lv_iconst (v := 1) hx hb dX12_signOf_4 (by decide) ?_
    refine lv_goto (tgt := 17) hx hb dX12_signOf_5 (by decide) ?_
    subst h
    exact hret _ _ _ _ hP hS dX12_signOf_17
abbrev rm_X12_least : Room := { frames := 0, cells := 0, slots := 0, locals := 0 }
set_option maxHeartbeats 4000000 in
set_option maxRecDepth 100000 in
theorem c_MD_least (l : Launch) (D : va_G) (cI cM cS cJ : ClassId) (sz : Nat) (x0 : Int32) (x1 : Int32) {o : (Int32)} (hsem : S_MD_least x0 x1 = o) : kMet l yX12_least wsX12_least rm_X12_least [.int x0, .int x1] D (kT cI cM cS cJ) (Wd0) sz (some (.int o)) (Wd0) := by
  refine k_metI (by decide) rfl rfl (Nat.le_of_ble_eq_true rfl) ?_
  intro p e s m below meth c ls Q A hx hb hml hts hown hK hN hA hP hD hS hl hsz hnm hret
  have hown : s.vm.findClass RX12 = some m.cls := hown
  replace hl : lv_has ls 2 [(0, .int x0), (1, .int x1)] := hl
  have h := hsem
  clear hsem
  rw [S_MD_least] at h
  refine lv_iload_n hx hb dX12_least_0 rfl (lv_at hl 0 rfl) ?_
  refine lv_iload_n hx hb dX12_least_1 rfl (lv_at hl 1 rfl) ?_
  refine lv_icmp_ge (tgt := 9) hx hb dX12_least_2 (by decide) (fun c2 => ?_) (fun c2 => ?_)
  · have h := k_pos c2 h
    refine lv_iload_n hx hb dX12_least_9 rfl (lv_at hl 1 rfl) ?_
    subst h
    exact hret _ _ _ _ hP hS dX12_least_10
  · have h := k_neg c2 h
    refine lv_iload_n hx hb dX12_least_5 rfl (lv_at hl 0 rfl) ?_
    refine lv_goto (tgt := 10) hx hb dX12_least_6 (by decide) ?_
    subst h
    exact hret _ _ _ _ hP hS dX12_least_10
abbrev rm_X12_held : Room := { frames := 0, cells := 0, slots := 0, locals := 0 }
set_option maxHeartbeats 4000000 in
set_option maxRecDepth 100000 in
theorem c_MD_held (l : Launch) (D : va_G) (cI cM cS cJ : ClassId) (sz : Nat) (x0 : Int32) {o : (Int32)} (hsem : S_MD_held x0 = o) : kMet l yX12_held wsX12_held rm_X12_held [.int x0] D (kT cI cM cS cJ) (Wd0) sz (some (.int o)) (Wd0) := by
  refine k_metI (by decide) rfl rfl (Nat.le_of_ble_eq_true rfl) ?_
  intro p e s m below meth c ls Q A hx hb hml hts hown hK hN hA hP hD hS hl hsz hnm hret
  have hown : s.vm.findClass RX12 = some m.cls := hown
  replace hl : lv_has ls 1 [(0, .int x0)] := hl
  have h := hsem
  clear hsem
  rw [S_MD_held] at h
  refine lv_iload_n hx hb dX12_held_0 rfl (lv_at hl 0 rfl) ?_
  refine lv_bipush (v := (-45)) hx hb dX12_held_1 (by decide) ?_
  refine lv_icmp_ge (tgt := 11) hx hb dX12_held_3 (by decide) (fun c3 => ?_) (fun c3 => ?_)
  · have h := k_pos c3 h
    refine lv_iload_n hx hb dX12_held_11 rfl (lv_at hl 0 rfl) ?_
    refine lv_bipush (v := 45) hx hb dX12_held_12 (by decide) ?_
    refine lv_icmp_le (tgt := 22) hx hb dX12_held_14 (by decide) (fun c14 => ?_) (fun c14 => ?_)
    · have h := k_pos c14 h
      refine lv_iload_n hx hb dX12_held_22 rfl (lv_at hl 0 rfl) ?_
      subst h
      exact hret _ _ _ _ hP hS dX12_held_23
    · have h := k_neg c14 h
      refine lv_bipush (v := 45) hx hb dX12_held_17 (by decide) ?_
      refine lv_goto (tgt := 23) hx hb dX12_held_19 (by decide) ?_
      subst h
      exact hret _ _ _ _ hP hS dX12_held_23
  · have h := k_neg c3 h
    refine lv_bipush (v := (-45)) hx hb dX12_held_6 (by decide) ?_
    refine lv_goto (tgt := 23) hx hb dX12_held_8 (by decide) ?_
    subst h
    exact hret _ _ _ _ hP hS dX12_held_23
abbrev Wd39 (cI : ClassId) (a0 : Nat) (a1 : Nat) (r0_a : Nat → Int32) (r1_a : Nat → Int32) : va_W := [(a0, .inl (cI, 37, .inl r0_a)), (a1, .inl (cI, 37, .inl r1_a))]
abbrev rm_X12_copies : Room := { frames := 0, cells := 0, slots := 0, locals := 0 }
set_option maxHeartbeats 4000000 in
set_option maxRecDepth 100000 in
theorem c_MD_copies (l : Launch) (D : va_G) (cI cM cS cJ : ClassId) (a0 : Nat) (a1 : Nat) (sz : Nat) (r0_a : Nat → Int32) (r1_a : Nat → Int32) {o : (Nat → Int32)} (hsem : S_MD_copies r0_a r1_a = some o) : kMet l yX12_copies wsX12_copies rm_X12_copies [.ref a0, .ref a1] D (kT cI cM cS cJ) (Wd39 cI a0 a1 r0_a r1_a) sz none (Wd39 cI a0 a1 r0_a o) := by
  refine k_metV (by decide) rfl rfl (Nat.le_of_ble_eq_true rfl) ?_
  intro p e s m below meth c ls Q A hx hb hml hts hown hK hN hA hP hD hS hl hsz hnm hret
  have hown : s.vm.findClass RX12 = some m.cls := hown
  replace hl : lv_has ls 3 [(0, .ref a0), (1, .ref a1)] := hl
  have h := hsem
  clear hsem
  rw [S_MD_copies] at h
  refine lv_iconst (v := 0) hx hb dX12_copies_0 (by decide) ?_
  have B2 : ∀ (n2 : Nat) (y2 : Int32) (r1_a : Nat → Int32) (H : Heap) (locs : List Loc) (ls : Array Slot), va_P D vwCl (Wd39 cI a0 a1 r0_a r1_a) H → va_D A (Wd39 cI a0 a1 r0_a r1_a) → va_S A s.heap H locs → lv_has ls 3 [(0, .ref a0), (1, .ref a1), (2, .int y2)] → S_MD_copies_L2 r0_a n2 y2 r1_a = some o → W p l e rm_X12_copies s m ([.ref a0, .ref a1] : List Value).toArray below meth c H locs 0 0 Q (F0 m 2 ls []) := by
    intro n2
    induction n2 with
    | zero => intro y2 r1_a H locs ls hP hD hS hl h; exact absurd h (by simp [S_MD_copies_L2])
    | succ n2 ih2 =>
      intro y2 r1_a H locs ls hP hD hS hl h
      rw [S_MD_copies_L2] at h
      refine lv_iload_n hx hb dX12_copies_2 rfl (lv_at hl 2 rfl) ?_
      refine lv_bipush (v := 37) hx hb dX12_copies_3 (by decide) ?_
      refine lv_icmp_ge (tgt := 20) hx hb dX12_copies_5 (by decide) (fun c5 => ?_) (fun c5 => ?_)
      · have h := k_pos c5 h
        have h := Option.some.inj h; subst h
        exact hret _ _ _ _ hP hS dX12_copies_20
      · have h := k_neg c5 h
        refine lv_aload_n hx hb dX12_copies_8 rfl (lv_at hl 1 rfl) ?_
        refine lv_iload_n hx hb dX12_copies_9 rfl (lv_at hl 2 rfl) ?_
        refine lv_aload_n hx hb dX12_copies_10 rfl (lv_at hl 0 rfl) ?_
        refine lv_iload_n hx hb dX12_copies_11 rfl (lv_at hl 2 rfl) ?_
        obtain ⟨g12, h⟩ := k_guard h
        refine va_iald hx hb hK hP 0 0 rfl rfl g12 dX12_copies_12 ?_
        refine va_iast hx hb hK hP hD hS 1 0 rfl rfl g12 dX12_copies_13 (fun H locs hP hD hS => ?_)
        replace hP : va_P D vwCl (Wd39 cI a0 a1 r0_a (upd r1_a y2.toNatClampNeg (r0_a y2.toNatClampNeg))) H := hP
        replace hD : va_D A (Wd39 cI a0 a1 r0_a (upd r1_a y2.toNatClampNeg (r0_a y2.toNatClampNeg))) := hD
        refine lv_iinc (v := (y2 + 1)) (lv' := [(2, .int (y2 + 1)), (0, .ref a0), (1, .ref a1)]) hx hb dX12_copies_14 hl (k := 2) rfl (by first | rfl | decide) (by decide) rfl (fun ls hl => ?_)
        refine lv_goto (tgt := 2) hx hb dX12_copies_17 (by decide) ?_
        exact ih2 (y2 + 1) (upd r1_a y2.toNatClampNeg (r0_a y2.toNatClampNeg)) H locs ls hP hD hS (lv_sub hl [1, 2, 0] rfl) h
  refine lv_istore_n (lv' := [(2, .int 0), (0, .ref a0), (1, .ref a1)]) hx hb dX12_copies_1 rfl hl (by decide) rfl (fun ls hl => ?_)
  exact B2 lfu 0 r1_a s.heap [] ls hP hD hS (lv_sub hl [1, 2, 0] rfl) h
