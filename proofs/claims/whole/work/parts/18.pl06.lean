theorem kdV_X9_sets : yX9_sets.cls = RX9 ∧ yX9_sets.cls ≠ "java/lang/invoke/MethodHandle" ∧ yX9_sets.cls ≠ "java/lang/invoke/VarHandle" ∧ (parseMethodDescriptor yX9_sets.desc).map (fun d => d.parameters.length) = some 2 := by decide +kernel
abbrev rm_X11_put : Room := { frames := 3, cells := 0, slots := 0, locals := 63 }
set_option maxHeartbeats 4000000 in
set_option maxRecDepth 100000 in
theorem c_PL_put (l : Launch) (D : va_G) (cI cM cS cJ : ClassId) (aV : Nat → Nat) (aN : Nat → Nat) (aS : Nat → Nat) (aT : Nat → Nat) (aW : Nat → Nat) (aK : Nat → Nat) (aH : Nat → Nat → Nat) (dn : Nat) (sz : Nat) (x1 : Int32) (x2 : Int32) (x3 : Int32) (v_hasImage : Int32) (d_kind : Int32) (d_figure : Int32) (d_sort : Int32) (d_size : Int32) (d_held : Int32) (d_el : Nat → Int32) (hdn : ¬ (x1 < 0 ∨ 8 ≤ x1.toNatClampNeg) → x1.toNatClampNeg = dn) {o : (Int32) × (Nat → Int32)} (hsem : S_PL_put x1 x2 x3 d_sort d_size d_held d_el = some o) : kMet l yX11_put wsX11_put rm_X11_put [.ref (aV 0), .int x1, .int x2, .int x3] D (kT cI cM cS cJ) (Wd37 cI cS aV aN aS aT aW aK aH dn v_hasImage d_kind d_figure d_sort d_size d_held d_el) sz (some (.int o.1)) (Wd37 cI cS aV aN aS aT aW aK aH dn v_hasImage d_kind d_figure d_sort d_size d_held o.2) := by
  refine k_metI (by decide) rfl rfl (Nat.le_of_ble_eq_true rfl) ?_
  intro p e s m below meth c ls Q A hx hb hml hts hown hK hN hA hP hD hS hl hsz hnm hret
  have hown : s.vm.findClass RX11 = some m.cls := hown
  have hf59 := hts (.fieldLink RX11 59 "PlumbLine" "shelves" "[LPlumbLine$Shelf;") (List.mem_of_getElem? (i := 1) rfl)
  have hiX11 : ∀ w ∈ u_ws RX11 TX11 6, w ∈ wsX11_put := fun w h => List.mem_cons_of_mem _ (List.mem_append_left _ (List.mem_append_right _ h))
  replace hl : lv_has ls 5 [(0, .ref (aV 0)), (1, .int x1), (2, .int x2), (3, .int x3)] := hl
  have h := hsem
  clear hsem
  rw [S_PL_put] at h
  refine lv_aload_n hx hb dX11_put_0 rfl (lv_at hl 0 rfl) ?_
  refine lv_iload_n hx hb dX11_put_1 rfl (lv_at hl 1 rfl) ?_
  obtain ⟨r2, g2, h⟩ := k_bind h
  refine k_callV (As := [.int x1]) (rest := []) (st1 := [.int r2]) (ws2 := (Wd37 cI cS aV aN aS aT aW aK aH dn v_hasImage d_kind d_figure d_sort d_size d_held d_el)) hx hb hml hown hts hK hN hA hP hD hS hl (c_PL_refusalOfRow l D cI cM cS cJ aV aN aS aT aW aK aH dn s.heap.size x1 v_hasImage d_kind d_figure d_sort d_size d_held hdn g2) gX11_put_X11_refusalOfRow rfl kdV_X11_refusalOfRow 0 11 rfl rfl rfl [0, 1, 2] ⟨rfl, rfl⟩ ⟨Nat.le_of_ble_eq_true rfl, Nat.le_of_ble_eq_true rfl⟩ ⟨Nat.zero_le _, Nat.zero_le _⟩ rfl rfl (by decide +kernel) (k_rp rfl (by decide +kernel)) rfl rfl (Nat.le_of_ble_eq_true rfl) dX11_put_2 rfl (fun H locs hP hD hS => ?_)
  refine lv_istore (lv' := [(4, .int r2), (0, .ref (aV 0)), (1, .int x1), (2, .int x2), (3, .int x3)]) hx hb dX11_put_5 hl (by decide) rfl (fun ls hl => ?_)
  refine lv_iload hx hb dX11_put_7 (lv_at hl 0 rfl) ?_
  refine lv_if_eq (tgt := 15) hx hb dX11_put_9 (by decide) (fun c9 => ?_) (fun c9 => ?_)
  · have h := k_pos c9 h
    refine lv_aload_n hx hb dX11_put_15 rfl (lv_at hl 1 rfl) ?_
    refine va_get (D := D) (ci := 11) (v := .ref (aV 1)) (C := RX11) (T := TX11) (N := 6) hx hb hts hiX11 hown hK hP 0 rfl rfl 4 (by decide) hf59 (fun _ z => z) rfl dX11_put_16 ?_
    refine lv_iload_n hx hb dX11_put_19 rfl (lv_at hl 2 rfl) ?_
    obtain ⟨g20, h⟩ := k_guard h
    refine k_aldR (f := fun k => aH k 0) hx hb hK hP 1 2 rfl rfl g20 dX11_put_20 ?_
    rw [show x1.toNatClampNeg = dn from hdn g20]
    refine lv_iload_n hx hb dX11_put_21 rfl (lv_at hl 3 rfl) ?_
    refine k_callV (As := [.int x2]) (rest := []) (st1 := [.int (S_Shelf_hasElement x2 d_size)]) (ws2 := (Wd37 cI cS aV aN aS aT aW aK aH dn v_hasImage d_kind d_figure d_sort d_size d_held d_el)) hx hb hml hown hts hK hN hA hP hD hS hl (c_Shelf_hasElement l D cI cM cS cJ (aH dn) aK H.size x2 d_kind d_figure d_sort d_size d_held rfl) gX11_put_X9_hasElement rfl kdV_X9_hasElement 0 9 rfl rfl rfl [2] ⟨rfl, rfl⟩ ⟨Nat.le_of_ble_eq_true rfl, Nat.le_of_ble_eq_true rfl⟩ ⟨Nat.zero_le _, Nat.zero_le _⟩ rfl rfl (by decide +kernel) (k_rp rfl (by decide +kernel)) rfl rfl (Nat.le_of_ble_eq_true rfl) dX11_put_22 rfl (fun H locs hP hD hS => ?_)
    refine lv_if_ne (tgt := 31) hx hb dX11_put_25 (by decide) (fun c25 => ?_) (fun c25 => ?_)
    · have h := k_neg c25 h
      refine lv_aload_n hx hb dX11_put_31 rfl (lv_at hl 1 rfl) ?_
      refine va_get (D := D) (ci := 11) (v := .ref (aV 1)) (C := RX11) (T := TX11) (N := 6) hx hb hts hiX11 hown hK hP 0 rfl rfl 4 (by decide) hf59 (fun _ z => z) rfl dX11_put_32 ?_
      refine lv_iload_n hx hb dX11_put_35 rfl (lv_at hl 2 rfl) ?_
      refine k_aldR (f := fun k => aH k 0) hx hb hK hP 1 2 rfl rfl g20 dX11_put_36 ?_
      rw [show x1.toNatClampNeg = dn from hdn g20]
      refine lv_iload_n hx hb dX11_put_37 rfl (lv_at hl 3 rfl) ?_
      refine lv_iload_n hx hb dX11_put_38 rfl (lv_at hl 4 rfl) ?_
      obtain ⟨r39, g39, h⟩ := k_bind h
      refine k_callV (As := [.int x2, .int x3]) (rest := []) (st1 := []) (ws2 := (Wd37 cI cS aV aN aS aT aW aK aH dn v_hasImage d_kind d_figure d_sort d_size d_held r39)) hx hb hml hown hts hK hN hA hP hD hS hl (c_Shelf_sets l D cI cM cS cJ (aH dn) aK H.size x2 x3 d_kind d_figure d_sort d_size d_held d_el g39) gX11_put_X9_sets rfl kdV_X9_sets 0 9 rfl rfl rfl [2, 3] ⟨rfl, rfl⟩ ⟨Nat.le_of_ble_eq_true rfl, Nat.le_of_ble_eq_true rfl⟩ ⟨Nat.zero_le _, Nat.zero_le _⟩ rfl rfl (by decide +kernel) (k_rp rfl (by decide +kernel)) rfl rfl (Nat.le_of_ble_eq_true rfl) dX11_put_39 rfl (fun H locs hP hD hS => ?_)
      refine lv_iconst (v := 0) hx hb dX11_put_42 (by decide) ?_
      have h := Option.some.inj h; subst h
      exact hret _ _ _ _ hP hS dX11_put_43
    · have h := k_pos c25 h
      refine lv_bipush (v := (-13)) hx hb dX11_put_28 (by decide) ?_
      have h := Option.some.inj h; subst h
      exact hret _ _ _ _ hP hS dX11_put_30
  · have h := k_neg c9 h
    refine lv_iload hx hb dX11_put_12 (lv_at hl 0 rfl) ?_
    have h := Option.some.inj h; subst h
    exact hret _ _ _ _ hP hS dX11_put_14
abbrev Wd38 (cM : ClassId) (cS : ClassId) (aV : Nat → Nat) (aN : Nat → Nat) (aS : Nat → Nat) (aT : Nat → Nat) (aW : Nat → Nat) (aK : Nat → Nat) (aH : Nat → Nat → Nat) (dn : Nat) (v_hasImage : Int32) (d_kind : Int32) (d_figure : Int32) (d_sort : Int32) (d_size : Int32) (d_held : Int32) : va_W := [((aV 0), .inr (11, [.ref (aN 0), .ref (aS 0), .ref (aT 0), .ref (aW 0), .ref (aV 1), .int v_hasImage])), ((aV 1), .inl (cS, 8, .inr (.inr (.inr (.inr (fun k => some (aH k 0))))))), (((aH dn) 0), .inr (9, [.ref ((aH dn) 1), .int d_kind, .int d_figure, .int d_sort, .int d_size, .int d_held, .ref (aK 8)])), ((aK 8), .inl (cM, 8, .inr (.inr (.inr (.inr (fun k => some (aK k))))))), ((aK 0), .inr (4, [])), ((aK 1), .inr (0, [])), ((aK 2), .inr (7, [])), ((aK 3), .inr (3, [])), ((aK 4), .inr (1, [])), ((aK 5), .inr (8, [])), ((aK 6), .inr (10, [])), ((aK 7), .inr (6, []))]
theorem kdV_X9_price : yX9_price.cls = RX9 ∧ yX9_price.cls ≠ "java/lang/invoke/MethodHandle" ∧ yX9_price.cls ≠ "java/lang/invoke/VarHandle" ∧ (parseMethodDescriptor yX9_price.desc).map (fun d => d.parameters.length) = some 0 := by decide +kernel
abbrev rm_X11_cost : Room := { frames := 4, cells := 0, slots := 0, locals := 83 }
set_option maxHeartbeats 4000000 in
set_option maxRecDepth 100000 in
theorem c_PL_cost (l : Launch) (D : va_G) (cI cM cS cJ : ClassId) (aV : Nat → Nat) (aN : Nat → Nat) (aS : Nat → Nat) (aT : Nat → Nat) (aW : Nat → Nat) (aK : Nat → Nat) (aH : Nat → Nat → Nat) (dn : Nat) (sz : Nat) (x1 : Int32) (v_hasImage : Int32) (d_kind : Int32) (d_figure : Int32) (d_sort : Int32) (d_size : Int32) (d_held : Int32) (hdn : ¬ (x1 < 0 ∨ 8 ≤ x1.toNatClampNeg) → x1.toNatClampNeg = dn) {o : (Int32)} (hsem : S_PL_cost x1 d_kind d_figure d_held = some o) : kMet l yX11_cost wsX11_cost rm_X11_cost [.ref (aV 0), .int x1] D (kT cI cM cS cJ) (Wd38 cM cS aV aN aS aT aW aK aH dn v_hasImage d_kind d_figure d_sort d_size d_held) sz (some (.int o)) (Wd38 cM cS aV aN aS aT aW aK aH dn v_hasImage d_kind d_figure d_sort d_size d_held) := by
  refine k_metI (by decide) rfl rfl (Nat.le_of_ble_eq_true rfl) ?_
  intro p e s m below meth c ls Q A hx hb hml hts hown hK hN hA hP hD hS hl hsz hnm hret
  have hown : s.vm.findClass RX11 = some m.cls := hown
  have hf59 := hts (.fieldLink RX11 59 "PlumbLine" "shelves" "[LPlumbLine$Shelf;") (List.mem_of_getElem? (i := 1) rfl)
  have hiX11 : ∀ w ∈ u_ws RX11 TX11 6, w ∈ wsX11_cost := fun w h => List.mem_cons_of_mem _ (List.mem_append_left _ (List.mem_append_right _ h))
  replace hl : lv_has ls 3 [(0, .ref (aV 0)), (1, .int x1)] := hl
  have h := hsem
  clear hsem
  rw [S_PL_cost] at h
  refine lv_aload_n hx hb dX11_cost_0 rfl (lv_at hl 0 rfl) ?_
  refine lv_iload_n hx hb dX11_cost_1 rfl (lv_at hl 1 rfl) ?_
  obtain ⟨r2, g2, h⟩ := k_bind h
  refine k_callV (As := [.int x1]) (rest := []) (st1 := [.int r2]) (ws2 := (Wd38 cM cS aV aN aS aT aW aK aH dn v_hasImage d_kind d_figure d_sort d_size d_held)) hx hb hml hown hts hK hN hA hP hD hS hl (c_PL_refusalOfKind l D cI cM cS cJ aV aN aS aT aW aK aH dn s.heap.size x1 v_hasImage d_kind d_figure d_sort d_size d_held hdn g2) gX11_cost_X11_refusalOfKind rfl kdV_X11_refusalOfKind 0 11 rfl rfl rfl [0, 1, 2] ⟨rfl, rfl⟩ ⟨Nat.le_of_ble_eq_true rfl, Nat.le_of_ble_eq_true rfl⟩ ⟨Nat.zero_le _, Nat.zero_le _⟩ rfl rfl (by decide +kernel) (k_rp rfl (by decide +kernel)) rfl rfl (Nat.le_of_ble_eq_true rfl) dX11_cost_2 rfl (fun H locs hP hD hS => ?_)
  refine lv_istore_n (lv' := [(2, .int r2), (0, .ref (aV 0)), (1, .int x1)]) hx hb dX11_cost_5 rfl hl (by decide) rfl (fun ls hl => ?_)
  refine lv_iload_n hx hb dX11_cost_6 rfl (lv_at hl 0 rfl) ?_
  refine lv_if_eq (tgt := 14) hx hb dX11_cost_7 (by decide) (fun c7 => ?_) (fun c7 => ?_)
  · have h := k_pos c7 h
    refine lv_aload_n hx hb dX11_cost_14 rfl (lv_at hl 1 rfl) ?_
    refine va_get (D := D) (ci := 11) (v := .ref (aV 1)) (C := RX11) (T := TX11) (N := 6) hx hb hts hiX11 hown hK hP 0 rfl rfl 4 (by decide) hf59 (fun _ z => z) rfl dX11_cost_15 ?_
    refine lv_iload_n hx hb dX11_cost_18 rfl (lv_at hl 2 rfl) ?_
    obtain ⟨g19, h⟩ := k_guard h
    refine k_aldR (f := fun k => aH k 0) hx hb hK hP 1 2 rfl rfl g19 dX11_cost_19 ?_
    rw [show x1.toNatClampNeg = dn from hdn g19]
    obtain ⟨r20, g20, h⟩ := k_bind h
    refine k_callV (As := []) (rest := []) (st1 := [.int r20]) (ws2 := (Wd38 cM cS aV aN aS aT aW aK aH dn v_hasImage d_kind d_figure d_sort d_size d_held)) hx hb hml hown hts hK hN hA hP hD hS hl (c_Shelf_price l D cI cM cS cJ (aH dn) aK H.size d_kind d_figure d_sort d_size d_held g20) gX11_cost_X9_price rfl kdV_X9_price 0 9 rfl rfl rfl [2, 3, 4, 5, 6, 7, 8, 9, 10, 11] ⟨rfl, rfl⟩ ⟨Nat.le_of_ble_eq_true rfl, Nat.le_of_ble_eq_true rfl⟩ ⟨Nat.zero_le _, Nat.zero_le _⟩ rfl rfl (by decide +kernel) (k_rp rfl (by decide +kernel)) rfl rfl (Nat.le_of_ble_eq_true rfl) dX11_cost_20 rfl (fun H locs hP hD hS => ?_)
    have h := Option.some.inj h; subst h
    exact hret _ _ _ _ hP hS dX11_cost_23
  · have h := k_neg c7 h
    refine lv_iload_n hx hb dX11_cost_10 rfl (lv_at hl 0 rfl) ?_
    refine lv_goto (tgt := 23) hx hb dX11_cost_11 (by decide) ?_
    have h := Option.some.inj h; subst h
    exact hret _ _ _ _ hP hS dX11_cost_23
